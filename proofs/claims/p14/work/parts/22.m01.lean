theorem s_X12_isIn_ex : ∃ f : Int32 → Int32 → Int32 → Int32, ∀ (a0 : Int32) (a1 : Int32) (a2 : Int32), f a0 a1 a2 = (if a0 < a1 then (0 : Int32) else (if a2 < a0 then (0 : Int32) else (1 : Int32))) := ⟨fun (a0 : Int32) (a1 : Int32) (a2 : Int32) => (if a0 < a1 then (0 : Int32) else (if a2 < a0 then (0 : Int32) else (1 : Int32))), fun _ _ _ => rfl⟩
noncomputable def s_X12_isIn : Int32 → Int32 → Int32 → Int32 := Classical.choose s_X12_isIn_ex
theorem s_X12_isIn_eq (a0 : Int32) (a1 : Int32) (a2 : Int32) : s_X12_isIn a0 a1 a2 = (if a0 < a1 then (0 : Int32) else (if a2 < a0 then (0 : Int32) else (1 : Int32))) := Classical.choose_spec s_X12_isIn_ex a0 a1 a2
set_option maxHeartbeats 4000000 in
set_option maxRecDepth 100000 in
theorem t_X12_isIn (l : Launch) (G : Gt) (a0 : Int32) (a1 : Int32) (a2 : Int32) : Mt l yX12_isIn cX12_isIn 3 (some .boolean) ({ frames := 0, cells := 0, slots := 0, locals := 0 } : Room) G [.int a0, .int a1, .int a2] [] (sI G (s_X12_isIn a0 a1 a2)) := by
  obtain ⟨r, h⟩ : ∃ r, s_X12_isIn a0 a1 a2 = r := ⟨_, rfl⟩
  rw [h]
  refine Bk.mt (by decide) rfl (Nat.le_of_ble_eq_true rfl) ?_
  intro p e s m below meth c A ls H locs cx hr hlk hA hl hw
  have hx := cx.1
  have hb := cx.2.1
  have hl : lv_has ls 3 [(0, .int a0), (1, .int a1), (2, .int a2)] := hl
  rw [s_X12_isIn_eq] at h
  refine lv_iload_n hx hb dX12_isIn_0 rfl (lv_at hl 0 rfl) ?_
  refine lv_iload_n hx hb dX12_isIn_1 rfl (lv_at hl 1 rfl) ?_
  refine lv_icmp_lt (tgt := 14) hx hb dX12_isIn_2 (by decide) (fun c1 => ?_) (fun c1 => ?_)
  · rw [if_pos c1] at h
    refine lv_iconst (v := 0) hx hb dX12_isIn_14 (by decide) ?_
    exact s_zret cx hr hlk rfl hw h dX12_isIn_15
  · rw [if_neg c1] at h
    refine lv_iload_n hx hb dX12_isIn_5 rfl (lv_at hl 0 rfl) ?_
    refine lv_iload_n hx hb dX12_isIn_6 rfl (lv_at hl 2 rfl) ?_
    refine lv_icmp_gt (tgt := 14) hx hb dX12_isIn_7 (by decide) (fun c2 => ?_) (fun c2 => ?_)
    · rw [if_pos c2] at h
      refine lv_iconst (v := 0) hx hb dX12_isIn_14 (by decide) ?_
      exact s_zret cx hr hlk rfl hw h dX12_isIn_15
    · rw [if_neg c2] at h
      refine lv_iconst (v := 1) hx hb dX12_isIn_10 (by decide) ?_
      refine lv_goto (tgt := 15) hx hb dX12_isIn_11 (by decide) ?_
      exact s_zret cx hr hlk rfl hw h dX12_isIn_15

theorem s_Jxf58ca_isNaN_12338_ex : ∃ f : UInt32 → Int32, ∀ (a0 : UInt32), f a0 = (if (Op.cmpValue (FP.fcmp a0 a0) CmpOp.l) = (0 : Int32) then (0 : Int32) else (1 : Int32)) := ⟨fun (a0 : UInt32) => (if (Op.cmpValue (FP.fcmp a0 a0) CmpOp.l) = (0 : Int32) then (0 : Int32) else (1 : Int32)), fun _ => rfl⟩
noncomputable def s_Jxf58ca_isNaN_12338 : UInt32 → Int32 := Classical.choose s_Jxf58ca_isNaN_12338_ex
theorem s_Jxf58ca_isNaN_12338_eq (a0 : UInt32) : s_Jxf58ca_isNaN_12338 a0 = (if (Op.cmpValue (FP.fcmp a0 a0) CmpOp.l) = (0 : Int32) then (0 : Int32) else (1 : Int32)) := Classical.choose_spec s_Jxf58ca_isNaN_12338_ex a0
set_option maxHeartbeats 4000000 in
set_option maxRecDepth 100000 in
theorem t_Jxf58ca_isNaN_12338 (l : Launch) (G : Gt) (a0 : UInt32) : Mt l yJxf58ca_isNaN_12338 cJxf58ca_isNaN_12338 1 (some .boolean) ({ frames := 0, cells := 0, slots := 0, locals := 0 } : Room) G [.float a0] [] (sI G (s_Jxf58ca_isNaN_12338 a0)) := by
  obtain ⟨r, h⟩ : ∃ r, s_Jxf58ca_isNaN_12338 a0 = r := ⟨_, rfl⟩
  rw [h]
  refine Bk.mtF (by decide +kernel) rfl (Nat.le_of_ble_eq_true rfl) ?_
  intro p e s m below meth c A ls H locs cx hr hlk hA hl hw
  have hx := cx.1
  have hb := cx.2.1
  have hl : lv_has ls 1 [(0, .float a0)] := hl
  rw [s_Jxf58ca_isNaN_12338_eq] at h
  refine lv_fload_n hx hb dJxf58ca_isNaN_12338_0 rfl (lv_at hl 0 rfl) ?_
  refine lv_fload_n hx hb dJxf58ca_isNaN_12338_1 rfl (lv_at hl 0 rfl) ?_
  refine lv_fcmp hx hb dJxf58ca_isNaN_12338_2 ?_
  refine lv_if_eq (tgt := 10) hx hb dJxf58ca_isNaN_12338_3 (by decide) (fun c1 => ?_) (fun c1 => ?_)
  · rw [if_pos c1] at h
    refine lv_iconst (v := 0) hx hb dJxf58ca_isNaN_12338_10 (by decide) ?_
    exact s_zret cx hr hlk rfl hw h dJxf58ca_isNaN_12338_11
  · rw [if_neg c1] at h
    refine lv_iconst (v := 1) hx hb dJxf58ca_isNaN_12338_6 (by decide) ?_
    refine lv_goto (tgt := 11) hx hb dJxf58ca_isNaN_12338_7 (by decide) ?_
    exact s_zret cx hr hlk rfl hw h dJxf58ca_isNaN_12338_11

theorem s_Jxf58ca_floatToIntBits_5c35a_ex : ∃ f : UInt32 → Int32, ∀ (a0 : UInt32), f a0 = (if (s_Jxf58ca_isNaN_12338 a0) = (0 : Int32) then (a0.toInt32) else (2143289344 : Int32)) := ⟨fun (a0 : UInt32) => (if (s_Jxf58ca_isNaN_12338 a0) = (0 : Int32) then (a0.toInt32) else (2143289344 : Int32)), fun _ => rfl⟩
noncomputable def s_Jxf58ca_floatToIntBits_5c35a : UInt32 → Int32 := Classical.choose s_Jxf58ca_floatToIntBits_5c35a_ex
theorem s_Jxf58ca_floatToIntBits_5c35a_eq (a0 : UInt32) : s_Jxf58ca_floatToIntBits_5c35a a0 = (if (s_Jxf58ca_isNaN_12338 a0) = (0 : Int32) then (a0.toInt32) else (2143289344 : Int32)) := Classical.choose_spec s_Jxf58ca_floatToIntBits_5c35a_ex a0
set_option maxHeartbeats 4000000 in
set_option maxRecDepth 100000 in
theorem t_Jxf58ca_floatToIntBits_5c35a (l : Launch) (G : Gt) (a0 : UInt32) : Mt l yJxf58ca_floatToIntBits_5c35a cJxf58ca_floatToIntBits_5c35a 1 (some .int) ({ frames := 1, cells := 0, slots := 0, locals := 24 } : Room) G [.float a0] [] (sI G (s_Jxf58ca_floatToIntBits_5c35a a0)) := by
  obtain ⟨r, h⟩ : ∃ r, s_Jxf58ca_floatToIntBits_5c35a a0 = r := ⟨_, rfl⟩
  rw [h]
  refine Bk.mtF (by decide +kernel) rfl (Nat.le_of_ble_eq_true rfl) ?_
  intro p e s m below meth c A ls H locs cx hr hlk hA hl hw
  have hx := cx.1
  have hb := cx.2.1
  have hl : lv_has ls 1 [(0, .float a0)] := hl
  rw [s_Jxf58ca_floatToIntBits_5c35a_eq] at h
  refine lv_fload_n hx hb dJxf58ca_floatToIntBits_5c35a_0 rfl (lv_at hl 0 rfl) ?_
  refine s_callI (As := [.float a0]) (rest := []) cx hw hA (t_Jxf58ca_isNaN_12338 l G a0) ml_Jxf58ca_59 st_Jxf58ca_isNaN_12338 in_Jxf58ca co_Jxf58ca_isNaN_12338 hd_Jxf58ca_isNaN_12338 rfl ⟨(Nat.le_of_ble_eq_true rfl), (Nat.le_of_ble_eq_true rfl)⟩ hl.1 rfl (Nat.le_of_ble_eq_true rfl) dJxf58ca_floatToIntBits_5c35a_1 rfl (fun H locs hw => ?_)
  refine lv_if_ne (tgt := 12) hx hb dJxf58ca_floatToIntBits_5c35a_4 (by decide) (fun c1 => ?_) (fun c1 => ?_)
  · rw [if_neg c1] at h
    refine lv_ldc hx hb cx.2.2.2.1 (cx.2.2.2.2.1 _ cs_Jxf58ca_77) dJxf58ca_floatToIntBits_5c35a_12 ?_
    exact s_iret cx hr hlk hw h dJxf58ca_floatToIntBits_5c35a_14
  · rw [if_pos c1] at h
    refine lv_fload_n hx hb dJxf58ca_floatToIntBits_5c35a_7 rfl (lv_at hl 0 rfl) ?_
    refine r_f2i cx ml_Jxf58ca_74 hl.1 (Nat.le_of_ble_eq_true rfl) (Nat.le_of_ble_eq_true rfl) dJxf58ca_floatToIntBits_5c35a_8 ?_
    exact s_iret cx hr hlk hw h dJxf58ca_floatToIntBits_5c35a_11

theorem s_X12_bitsOf_ex : ∃ f : UInt32 → Int32, ∀ (a0 : UInt32), f a0 = (s_Jxf58ca_floatToIntBits_5c35a a0) := ⟨fun (a0 : UInt32) => (s_Jxf58ca_floatToIntBits_5c35a a0), fun _ => rfl⟩
noncomputable def s_X12_bitsOf : UInt32 → Int32 := Classical.choose s_X12_bitsOf_ex
theorem s_X12_bitsOf_eq (a0 : UInt32) : s_X12_bitsOf a0 = (s_Jxf58ca_floatToIntBits_5c35a a0) := Classical.choose_spec s_X12_bitsOf_ex a0
set_option maxHeartbeats 4000000 in
set_option maxRecDepth 100000 in
theorem t_X12_bitsOf (l : Launch) (G : Gt) (a0 : UInt32) : Mt l yX12_bitsOf cX12_bitsOf 1 (some .int) ({ frames := 2, cells := 0, slots := 0, locals := 44 } : Room) G [.float a0] [] (sI G (s_X12_bitsOf a0)) := by
  obtain ⟨r, h⟩ : ∃ r, s_X12_bitsOf a0 = r := ⟨_, rfl⟩
  rw [h]
  refine Bk.mt (by decide) rfl (Nat.le_of_ble_eq_true rfl) ?_
  intro p e s m below meth c A ls H locs cx hr hlk hA hl hw
  have hx := cx.1
  have hb := cx.2.1
  have hl : lv_has ls 1 [(0, .float a0)] := hl
  rw [s_X12_bitsOf_eq] at h
  refine lv_fload_n hx hb dX12_bitsOf_0 rfl (lv_at hl 0 rfl) ?_
  refine s_callI (As := [.float a0]) (rest := []) cx hw hA (t_Jxf58ca_floatToIntBits_5c35a l G a0) ml_X12_302 st_Jxf58ca_floatToIntBits_5c35a in_Jxf58ca co_Jxf58ca_floatToIntBits_5c35a hd_Jxf58ca_floatToIntBits_5c35a rfl ⟨(Nat.le_of_ble_eq_true rfl), (Nat.le_of_ble_eq_true rfl)⟩ hl.1 rfl (Nat.le_of_ble_eq_true rfl) dX12_bitsOf_1 rfl (fun H locs hw => ?_)
  exact s_iret cx hr hlk hw h dX12_bitsOf_4

theorem s_X12_isNan_ex : ∃ f : Int32 → Int32, ∀ (a0 : Int32), f a0 = (if (a0 &&& (2147483647 : Int32)) ≤ (2139095040 : Int32) then (0 : Int32) else (1 : Int32)) := ⟨fun (a0 : Int32) => (if (a0 &&& (2147483647 : Int32)) ≤ (2139095040 : Int32) then (0 : Int32) else (1 : Int32)), fun _ => rfl⟩
noncomputable def s_X12_isNan : Int32 → Int32 := Classical.choose s_X12_isNan_ex
theorem s_X12_isNan_eq (a0 : Int32) : s_X12_isNan a0 = (if (a0 &&& (2147483647 : Int32)) ≤ (2139095040 : Int32) then (0 : Int32) else (1 : Int32)) := Classical.choose_spec s_X12_isNan_ex a0
set_option maxHeartbeats 4000000 in
set_option maxRecDepth 100000 in
theorem t_X12_isNan (l : Launch) (G : Gt) (a0 : Int32) : Mt l yX12_isNan cX12_isNan 1 (some .boolean) ({ frames := 0, cells := 0, slots := 0, locals := 0 } : Room) G [.int a0] [] (sI G (s_X12_isNan a0)) := by
  obtain ⟨r, h⟩ : ∃ r, s_X12_isNan a0 = r := ⟨_, rfl⟩
  rw [h]
  refine Bk.mt (by decide) rfl (Nat.le_of_ble_eq_true rfl) ?_
  intro p e s m below meth c A ls H locs cx hr hlk hA hl hw
  have hx := cx.1
  have hb := cx.2.1
  have hl : lv_has ls 1 [(0, .int a0)] := hl
  rw [s_X12_isNan_eq] at h
  refine lv_iload_n hx hb dX12_isNan_0 rfl (lv_at hl 0 rfl) ?_
  refine lv_ldcw hx hb cx.2.2.2.1 (cx.2.2.2.2.1 _ cs_X12_311) dX12_isNan_1 ?_
  refine lv_iand hx hb dX12_isNan_4 ?_
  refine lv_ldcw hx hb cx.2.2.2.1 (cx.2.2.2.2.1 _ cs_X12_312) dX12_isNan_5 ?_
  refine lv_icmp_le (tgt := 15) hx hb dX12_isNan_8 (by decide) (fun c1 => ?_) (fun c1 => ?_)
  · rw [if_pos c1] at h
    refine lv_iconst (v := 0) hx hb dX12_isNan_15 (by decide) ?_
    exact s_zret cx hr hlk rfl hw h dX12_isNan_16
  · rw [if_neg c1] at h
    refine lv_iconst (v := 1) hx hb dX12_isNan_11 (by decide) ?_
    refine lv_goto (tgt := 16) hx hb dX12_isNan_12 (by decide) ?_
    exact s_zret cx hr hlk rfl hw h dX12_isNan_16

theorem s_X12_floatOf_ex : ∃ f : Int32 → Int32 → Int32, ∀ (a0 : Int32) (a1 : Int32), f a0 a1 = (if a0 = (1 : Int32) then (if (s_X12_isNan a1) = (0 : Int32) then a1 else (2143289344 : Int32)) else (s_X12_bitsOf (FP.i2f a1))) := ⟨fun (a0 : Int32) (a1 : Int32) => (if a0 = (1 : Int32) then (if (s_X12_isNan a1) = (0 : Int32) then a1 else (2143289344 : Int32)) else (s_X12_bitsOf (FP.i2f a1))), fun _ _ => rfl⟩
noncomputable def s_X12_floatOf : Int32 → Int32 → Int32 := Classical.choose s_X12_floatOf_ex
theorem s_X12_floatOf_eq (a0 : Int32) (a1 : Int32) : s_X12_floatOf a0 a1 = (if a0 = (1 : Int32) then (if (s_X12_isNan a1) = (0 : Int32) then a1 else (2143289344 : Int32)) else (s_X12_bitsOf (FP.i2f a1))) := Classical.choose_spec s_X12_floatOf_ex a0 a1
set_option maxHeartbeats 4000000 in
set_option maxRecDepth 100000 in
theorem t_X12_floatOf (l : Launch) (G : Gt) (a0 : Int32) (a1 : Int32) : Mt l yX12_floatOf cX12_floatOf 2 (some .int) ({ frames := 3, cells := 0, slots := 0, locals := 64 } : Room) G [.int a0, .int a1] [] (sI G (s_X12_floatOf a0 a1)) := by
  obtain ⟨r, h⟩ : ∃ r, s_X12_floatOf a0 a1 = r := ⟨_, rfl⟩
  rw [h]
  refine Bk.mt (by decide) rfl (Nat.le_of_ble_eq_true rfl) ?_
  intro p e s m below meth c A ls H locs cx hr hlk hA hl hw
  have hx := cx.1
  have hb := cx.2.1
  have hl : lv_has ls 2 [(0, .int a0), (1, .int a1)] := hl
  rw [s_X12_floatOf_eq] at h
  refine lv_iload_n hx hb dX12_floatOf_0 rfl (lv_at hl 0 rfl) ?_
  refine lv_iconst (v := 1) hx hb dX12_floatOf_1 (by decide) ?_
  refine lv_icmp_eq (tgt := 13) hx hb dX12_floatOf_2 (by decide) (fun c1 => ?_) (fun c1 => ?_)
  · rw [if_pos c1] at h
    refine lv_iload_n hx hb dX12_floatOf_13 rfl (lv_at hl 1 rfl) ?_
    refine s_callI (As := [.int a1]) (rest := []) cx hw hA (t_X12_isNan l G a1) ml_X12_291 st_X12_isNan in_X12 co_X12_isNan hd_X12_isNan rfl ⟨(Nat.le_of_ble_eq_true rfl), (Nat.le_of_ble_eq_true rfl)⟩ hl.1 rfl (Nat.le_of_ble_eq_true rfl) dX12_floatOf_14 rfl (fun H locs hw => ?_)
    refine lv_if_eq (tgt := 26) hx hb dX12_floatOf_17 (by decide) (fun c2 => ?_) (fun c2 => ?_)
    · rw [if_pos c2] at h
      refine lv_iload_n hx hb dX12_floatOf_26 rfl (lv_at hl 1 rfl) ?_
      exact s_iret cx hr hlk hw h dX12_floatOf_27
    · rw [if_neg c2] at h
      refine lv_ldcw hx hb cx.2.2.2.1 (cx.2.2.2.2.1 _ cs_X12_295) dX12_floatOf_20 ?_
      refine lv_goto (tgt := 27) hx hb dX12_floatOf_23 (by decide) ?_
      exact s_iret cx hr hlk hw h dX12_floatOf_27
  · rw [if_neg c1] at h
    refine lv_iload_n hx hb dX12_floatOf_5 rfl (lv_at hl 1 rfl) ?_
    refine lv_i2f hx hb dX12_floatOf_6 ?_
    refine s_callI (As := [.float (FP.i2f a1)]) (rest := []) cx hw hA (t_X12_bitsOf l G (FP.i2f a1)) ml_X12_287 st_X12_bitsOf in_X12 co_X12_bitsOf hd_X12_bitsOf rfl ⟨(Nat.le_of_ble_eq_true rfl), (Nat.le_of_ble_eq_true rfl)⟩ hl.1 rfl (Nat.le_of_ble_eq_true rfl) dX12_floatOf_7 rfl (fun H locs hw => ?_)
    refine lv_goto (tgt := 27) hx hb dX12_floatOf_10 (by decide) ?_
    exact s_iret cx hr hlk hw h dX12_floatOf_27

theorem p_X12_intOf_ex : ∃ f : Int32 → Int32 → Option Int32, ∀ (a0 : Int32) (a1 : Int32), f a0 a1 = (if a0 = (1 : Int32) then (if (s_X12_isNan a1) = (0 : Int32) then gd (!vn_sni2f a1) (some (FP.f2i (a1.toUInt32))) else some (0 : Int32)) else some a1) := ⟨fun (a0 : Int32) (a1 : Int32) => (if a0 = (1 : Int32) then (if (s_X12_isNan a1) = (0 : Int32) then gd (!vn_sni2f a1) (some (FP.f2i (a1.toUInt32))) else some (0 : Int32)) else some a1), fun _ _ => rfl⟩
noncomputable def p_X12_intOf : Int32 → Int32 → Option Int32 := Classical.choose p_X12_intOf_ex
theorem p_X12_intOf_eq (a0 : Int32) (a1 : Int32) : p_X12_intOf a0 a1 = (if a0 = (1 : Int32) then (if (s_X12_isNan a1) = (0 : Int32) then gd (!vn_sni2f a1) (some (FP.f2i (a1.toUInt32))) else some (0 : Int32)) else some a1) := Classical.choose_spec p_X12_intOf_ex a0 a1
set_option maxHeartbeats 4000000 in
set_option maxRecDepth 100000 in
theorem t_X12_intOf (l : Launch) (G : Gt) (a0 : Int32) (a1 : Int32) {r : Int32} (h : p_X12_intOf a0 a1 = some r) : Mt l yX12_intOf cX12_intOf 2 (some .int) ({ frames := 1, cells := 0, slots := 0, locals := 24 } : Room) G [.int a0, .int a1] [] (sI G r) := by
  refine Bk.mt (by decide) rfl (Nat.le_of_ble_eq_true rfl) ?_
  intro p e s m below meth c A ls H locs cx hr hlk hA hl hw
  have hx := cx.1
  have hb := cx.2.1
  have hl : lv_has ls 2 [(0, .int a0), (1, .int a1)] := hl
  rw [p_X12_intOf_eq] at h
  refine lv_iload_n hx hb dX12_intOf_0 rfl (lv_at hl 0 rfl) ?_
  refine lv_iconst (v := 1) hx hb dX12_intOf_1 (by decide) ?_
  refine lv_icmp_eq (tgt := 9) hx hb dX12_intOf_2 (by decide) (fun c1 => ?_) (fun c1 => ?_)
  · rw [if_pos c1] at h
    refine lv_iload_n hx hb dX12_intOf_9 rfl (lv_at hl 1 rfl) ?_
    refine s_callI (As := [.int a1]) (rest := []) cx hw hA (t_X12_isNan l G a1) ml_X12_291 st_X12_isNan in_X12 co_X12_isNan hd_X12_isNan rfl ⟨(Nat.le_of_ble_eq_true rfl), (Nat.le_of_ble_eq_true rfl)⟩ hl.1 rfl (Nat.le_of_ble_eq_true rfl) dX12_intOf_10 rfl (fun H locs hw => ?_)
    refine lv_if_eq (tgt := 20) hx hb dX12_intOf_13 (by decide) (fun c2 => ?_) (fun c2 => ?_)
    · rw [if_pos c2] at h
      refine lv_iload_n hx hb dX12_intOf_20 rfl (lv_at hl 1 rfl) ?_
      obtain ⟨c3, h⟩ := gd_some h
      refine r_i2f cx ml_X12_296 hl.1 (nb_of c3) (Nat.le_of_ble_eq_true rfl) (Nat.le_of_ble_eq_true rfl) dX12_intOf_21 ?_
      refine lv_f2i hx hb dX12_intOf_24 ?_
      exact s_iret cx hr hlk hw (Option.some.inj h) dX12_intOf_25
    · rw [if_neg c2] at h
      refine lv_iconst (v := 0) hx hb dX12_intOf_16 (by decide) ?_
      refine lv_goto (tgt := 25) hx hb dX12_intOf_17 (by decide) ?_
      exact s_iret cx hr hlk hw (Option.some.inj h) dX12_intOf_25
  · rw [if_neg c1] at h
    refine lv_iload_n hx hb dX12_intOf_5 rfl (lv_at hl 1 rfl) ?_
    refine lv_goto (tgt := 25) hx hb dX12_intOf_6 (by decide) ?_
    exact s_iret cx hr hlk hw (Option.some.inj h) dX12_intOf_25

theorem p_X12_give_ex : ∃ f : Int32 → Int32 → Mem → Option Mem, ∀ (a1 : Int32) (a2 : Int32) (μ : Mem), f a1 a2 μ = bv (sF μ 0 0 a1) (fun μ1 => bv (sF μ1 0 1 a2) (fun μ2 => some μ2)) := ⟨fun (a1 : Int32) (a2 : Int32) (μ : Mem) => bv (sF μ 0 0 a1) (fun μ1 => bv (sF μ1 0 1 a2) (fun μ2 => some μ2)), fun _ _ _ => rfl⟩
noncomputable def p_X12_give : Int32 → Int32 → Mem → Option Mem := Classical.choose p_X12_give_ex
theorem p_X12_give_eq (a1 : Int32) (a2 : Int32) (μ : Mem) : p_X12_give a1 a2 μ = bv (sF μ 0 0 a1) (fun μ1 => bv (sF μ1 0 1 a2) (fun μ2 => some μ2)) := Classical.choose_spec p_X12_give_ex a1 a2 μ
set_option maxHeartbeats 4000000 in
set_option maxRecDepth 100000 in
theorem t_X12_give (l : Launch) (G : Gt) (ad : Nat → Nat) (a1 : Int32) (a2 : Int32) (μ : Mem) {μz : Mem} (h : p_X12_give a1 a2 μ = some μz) : Mt l yX12_give cX12_give 3 none ({ frames := 0, cells := 0, slots := 0, locals := 0 } : Room) G [.ref (ad 0), .int a1, .int a2] (wd 1 G ad μ) (eV 1 G ad μz) := by
  refine Bk.mt (by decide) rfl (Nat.le_of_ble_eq_true rfl) ?_
  intro p e s m below meth c A ls H locs cx hr hlk hA hl hw
  have hx := cx.1
  have hb := cx.2.1
  have hl : lv_has ls 3 [(0, .ref (ad 0)), (1, .int a1), (2, .int a2)] := hl
  rw [p_X12_give_eq] at h
  refine lv_aload_n hx hb dX12_give_0 rfl (lv_at hl 0 rfl) ?_
  refine lv_iload_n hx hb dX12_give_1 rfl (lv_at hl 1 rfl) ?_
  refine g_put cx hw inX12 (ci := 11) rfl tyX12_ok nmX12 0 (by decide) rfl rfl rfl rfl shm_0 h fl_X12_305 dX12_give_2 (fun μ1 H locs h hw => ?_)
  refine lv_aload_n hx hb dX12_give_5 rfl (lv_at hl 0 rfl) ?_
  refine lv_iload_n hx hb dX12_give_6 rfl (lv_at hl 2 rfl) ?_
  refine g_put cx hw inX12 (ci := 11) rfl tyX12_ok nmX12 1 (by decide) rfl rfl rfl rfl shm_0 h fl_X12_308 dX12_give_7 (fun μ2 H locs h hw => ?_)
  exact g_vret cx hr hlk hw h dX12_give_10

theorem s_X12_wholes_ex : ∃ f : Int32 → Int32 → Int32 → Int32, ∀ (a0 : Int32) (a1 : Int32) (a2 : Int32), f a0 a1 a2 = (if a0 = (42 : Int32) then (a1 * a2) else (if a0 = (43 : Int32) then (a1 + a2) else (if a0 = (44 : Int32) then (if a2 = (0 : Int32) then (0 : Int32) else (a1 / a2)) else (if a0 = (45 : Int32) then (a1 - a2) else (if a2 = (0 : Int32) then (0 : Int32) else (a1 / a2)))))) := ⟨fun (a0 : Int32) (a1 : Int32) (a2 : Int32) => (if a0 = (42 : Int32) then (a1 * a2) else (if a0 = (43 : Int32) then (a1 + a2) else (if a0 = (44 : Int32) then (if a2 = (0 : Int32) then (0 : Int32) else (a1 / a2)) else (if a0 = (45 : Int32) then (a1 - a2) else (if a2 = (0 : Int32) then (0 : Int32) else (a1 / a2)))))), fun _ _ _ => rfl⟩
noncomputable def s_X12_wholes : Int32 → Int32 → Int32 → Int32 := Classical.choose s_X12_wholes_ex
theorem s_X12_wholes_eq (a0 : Int32) (a1 : Int32) (a2 : Int32) : s_X12_wholes a0 a1 a2 = (if a0 = (42 : Int32) then (a1 * a2) else (if a0 = (43 : Int32) then (a1 + a2) else (if a0 = (44 : Int32) then (if a2 = (0 : Int32) then (0 : Int32) else (a1 / a2)) else (if a0 = (45 : Int32) then (a1 - a2) else (if a2 = (0 : Int32) then (0 : Int32) else (a1 / a2)))))) := Classical.choose_spec s_X12_wholes_ex a0 a1 a2
set_option maxHeartbeats 4000000 in
set_option maxRecDepth 100000 in
theorem t_X12_wholes (l : Launch) (G : Gt) (a0 : Int32) (a1 : Int32) (a2 : Int32) : Mt l yX12_wholes cX12_wholes 3 (some .int) ({ frames := 0, cells := 0, slots := 0, locals := 0 } : Room) G [.int a0, .int a1, .int a2] [] (sI G (s_X12_wholes a0 a1 a2)) := by
  obtain ⟨r, h⟩ : ∃ r, s_X12_wholes a0 a1 a2 = r := ⟨_, rfl⟩
  rw [h]
  refine Bk.mt (by decide) rfl (Nat.le_of_ble_eq_true rfl) ?_
  intro p e s m below meth c A ls H locs cx hr hlk hA hl hw
  have hx := cx.1
  have hb := cx.2.1
  have hl : lv_has ls 3 [(0, .int a0), (1, .int a1), (2, .int a2)] := hl
  rw [s_X12_wholes_eq] at h
  refine lv_iload_n hx hb dX12_wholes_0 rfl (lv_at hl 0 rfl) ?_
  refine lv_topi (fun v1 ev1 => ?_)
  by_cases c2 : a0 = (42 : Int32)
  · rw [if_pos c2] at h
    have z9 := ev1.trans c2
    subst z9
    refine lv_tableIn (tgt := 40) hx hb dX12_wholes_1 (by decide +kernel) (by decide +kernel) rfl (by decide) ?_
    refine lv_iload_n hx hb dX12_wholes_40 rfl (lv_at hl 1 rfl) ?_
    refine lv_iload_n hx hb dX12_wholes_41 rfl (lv_at hl 2 rfl) ?_
    refine lv_imul hx hb dX12_wholes_42 ?_
    exact s_iret cx hr hlk hw h dX12_wholes_43
  rw [if_neg c2] at h
  by_cases c3 : a0 = (43 : Int32)
  · rw [if_pos c3] at h
    have z9 := ev1.trans c3
    subst z9
    refine lv_tableIn (tgt := 32) hx hb dX12_wholes_1 (by decide +kernel) (by decide +kernel) rfl (by decide) ?_
    refine lv_iload_n hx hb dX12_wholes_32 rfl (lv_at hl 1 rfl) ?_
    refine lv_iload_n hx hb dX12_wholes_33 rfl (lv_at hl 2 rfl) ?_
    refine lv_iadd hx hb dX12_wholes_34 ?_
    exact s_iret cx hr hlk hw h dX12_wholes_35
  rw [if_neg c3] at h
  by_cases c4 : a0 = (44 : Int32)
  · rw [if_pos c4] at h
    have z9 := ev1.trans c4
    subst z9
    refine lv_tableIn (tgt := 44) hx hb dX12_wholes_1 (by decide +kernel) (by decide +kernel) rfl (by decide) ?_
    refine lv_iload_n hx hb dX12_wholes_44 rfl (lv_at hl 2 rfl) ?_
    refine lv_if_ne (tgt := 52) hx hb dX12_wholes_45 (by decide) (fun c5 => ?_) (fun c5 => ?_)
    · rw [if_neg c5] at h
      refine lv_iload_n hx hb dX12_wholes_52 rfl (lv_at hl 1 rfl) ?_
      refine lv_iload_n hx hb dX12_wholes_53 rfl (lv_at hl 2 rfl) ?_
      refine lv_idiv hx hb dX12_wholes_54 c5 ?_
      exact s_iret cx hr hlk hw h dX12_wholes_55
    · rw [if_pos c5] at h
      refine lv_iconst (v := 0) hx hb dX12_wholes_48 (by decide) ?_
      refine lv_goto (tgt := 55) hx hb dX12_wholes_49 (by decide) ?_
      exact s_iret cx hr hlk hw h dX12_wholes_55
  rw [if_neg c4] at h
  by_cases c6 : a0 = (45 : Int32)
  · rw [if_pos c6] at h
    have z9 := ev1.trans c6
    subst z9
    refine lv_tableIn (tgt := 36) hx hb dX12_wholes_1 (by decide +kernel) (by decide +kernel) rfl (by decide) ?_
    refine lv_iload_n hx hb dX12_wholes_36 rfl (lv_at hl 1 rfl) ?_
    refine lv_iload_n hx hb dX12_wholes_37 rfl (lv_at hl 2 rfl) ?_
    refine lv_isub hx hb dX12_wholes_38 ?_
    exact s_iret cx hr hlk hw h dX12_wholes_39
  rw [if_neg c6] at h
  rw [ev1]
  refine lv_tableOut (tgt := 44) hx hb dX12_wholes_1 (sw_out (L := [(42 : Int32), (43 : Int32), (44 : Int32), (45 : Int32)]) (by decide +kernel) (by simp only [List.forall_mem_cons]; exact ⟨c2, c3, c4, c6, fun _ q => absurd q List.not_mem_nil⟩)) (by decide) ?_
  refine lv_iload_n hx hb dX12_wholes_44 rfl (lv_at hl 2 rfl) ?_
  refine lv_if_ne (tgt := 52) hx hb dX12_wholes_45 (by decide) (fun c7 => ?_) (fun c7 => ?_)
  · rw [if_neg c7] at h
    refine lv_iload_n hx hb dX12_wholes_52 rfl (lv_at hl 1 rfl) ?_
    refine lv_iload_n hx hb dX12_wholes_53 rfl (lv_at hl 2 rfl) ?_
    refine lv_idiv hx hb dX12_wholes_54 c7 ?_
    exact s_iret cx hr hlk hw h dX12_wholes_55
  · rw [if_pos c7] at h
    refine lv_iconst (v := 0) hx hb dX12_wholes_48 (by decide) ?_
    refine lv_goto (tgt := 55) hx hb dX12_wholes_49 (by decide) ?_
    exact s_iret cx hr hlk hw h dX12_wholes_55

theorem s_X12_isInfinite_ex : ∃ f : Int32 → Int32, ∀ (a0 : Int32), f a0 = (if (a0 &&& (2147483647 : Int32)) = (2139095040 : Int32) then (1 : Int32) else (0 : Int32)) := ⟨fun (a0 : Int32) => (if (a0 &&& (2147483647 : Int32)) = (2139095040 : Int32) then (1 : Int32) else (0 : Int32)), fun _ => rfl⟩
noncomputable def s_X12_isInfinite : Int32 → Int32 := Classical.choose s_X12_isInfinite_ex
theorem s_X12_isInfinite_eq (a0 : Int32) : s_X12_isInfinite a0 = (if (a0 &&& (2147483647 : Int32)) = (2139095040 : Int32) then (1 : Int32) else (0 : Int32)) := Classical.choose_spec s_X12_isInfinite_ex a0
set_option maxHeartbeats 4000000 in
set_option maxRecDepth 100000 in
theorem t_X12_isInfinite (l : Launch) (G : Gt) (a0 : Int32) : Mt l yX12_isInfinite cX12_isInfinite 1 (some .boolean) ({ frames := 0, cells := 0, slots := 0, locals := 0 } : Room) G [.int a0] [] (sI G (s_X12_isInfinite a0)) := by
  obtain ⟨r, h⟩ : ∃ r, s_X12_isInfinite a0 = r := ⟨_, rfl⟩
  rw [h]
  refine Bk.mt (by decide) rfl (Nat.le_of_ble_eq_true rfl) ?_
  intro p e s m below meth c A ls H locs cx hr hlk hA hl hw
  have hx := cx.1
  have hb := cx.2.1
  have hl : lv_has ls 1 [(0, .int a0)] := hl
  rw [s_X12_isInfinite_eq] at h
  refine lv_iload_n hx hb dX12_isInfinite_0 rfl (lv_at hl 0 rfl) ?_
  refine lv_ldcw hx hb cx.2.2.2.1 (cx.2.2.2.2.1 _ cs_X12_311) dX12_isInfinite_1 ?_
  refine lv_iand hx hb dX12_isInfinite_4 ?_
  refine lv_ldcw hx hb cx.2.2.2.1 (cx.2.2.2.2.1 _ cs_X12_312) dX12_isInfinite_5 ?_
  refine lv_icmp_ne (tgt := 15) hx hb dX12_isInfinite_8 (by decide) (fun c1 => ?_) (fun c1 => ?_)
  · rw [if_neg c1] at h
    refine lv_iconst (v := 0) hx hb dX12_isInfinite_15 (by decide) ?_
    exact s_zret cx hr hlk rfl hw h dX12_isInfinite_16
  · rw [if_pos c1] at h
    refine lv_iconst (v := 1) hx hb dX12_isInfinite_11 (by decide) ?_
    refine lv_goto (tgt := 16) hx hb dX12_isInfinite_12 (by decide) ?_
    exact s_zret cx hr hlk rfl hw h dX12_isInfinite_16

theorem s_X12_isNoNumber_b113_ex : ∃ f : Int32 → Int32 → Int32, ∀ (a1 : Int32) (a2 : Int32), f a1 a2 = (if (a1 &&& (2147483647 : Int32)) = (0 : Int32) then (if (s_X12_isInfinite a2) = (0 : Int32) then (0 : Int32) else (1 : Int32)) else (0 : Int32)) := ⟨fun (a1 : Int32) (a2 : Int32) => (if (a1 &&& (2147483647 : Int32)) = (0 : Int32) then (if (s_X12_isInfinite a2) = (0 : Int32) then (0 : Int32) else (1 : Int32)) else (0 : Int32)), fun _ _ => rfl⟩
noncomputable def s_X12_isNoNumber_b113 : Int32 → Int32 → Int32 := Classical.choose s_X12_isNoNumber_b113_ex
theorem s_X12_isNoNumber_b113_eq (a1 : Int32) (a2 : Int32) : s_X12_isNoNumber_b113 a1 a2 = (if (a1 &&& (2147483647 : Int32)) = (0 : Int32) then (if (s_X12_isInfinite a2) = (0 : Int32) then (0 : Int32) else (1 : Int32)) else (0 : Int32)) := Classical.choose_spec s_X12_isNoNumber_b113_ex a1 a2
set_option maxHeartbeats 4000000 in
set_option maxRecDepth 100000 in
theorem t_X12_isNoNumber_b113 (l : Launch) (G : Gt) (av : List Value) {r : Int32} (a1 : Int32) (a2 : Int32) (h : s_X12_isNoNumber_b113  a1 a2 = r) : Bk l cX12_isNoNumber 4 RX12 (some .boolean) ({ frames := 1, cells := 0, slots := 0, locals := 20 } : Room) G av (sI G r) [] 113 [(1, .int a1), (2, .int a2)] [] := by
  intro p e s m below meth c A ls H locs cx hr hlk hA hl hw
  have hx := cx.1
  have hb := cx.2.1
  rw [s_X12_isNoNumber_b113_eq] at h
  refine lv_iload_n hx hb dX12_isNoNumber_113 rfl (lv_at hl 0 rfl) ?_
  refine lv_ldcw hx hb cx.2.2.2.1 (cx.2.2.2.2.1 _ cs_X12_311) dX12_isNoNumber_114 ?_
  refine lv_iand hx hb dX12_isNoNumber_117 ?_
  refine lv_if_ne (tgt := 132) hx hb dX12_isNoNumber_118 (by decide) (fun c7 => ?_) (fun c7 => ?_)
  · rw [if_neg c7] at h
    refine lv_iconst (v := 0) hx hb dX12_isNoNumber_132 (by decide) ?_
    exact s_zret cx hr hlk rfl hw h dX12_isNoNumber_133
  · rw [if_pos c7] at h
    refine lv_iload_n hx hb dX12_isNoNumber_121 rfl (lv_at hl 1 rfl) ?_
    refine s_callI (As := [.int a2]) (rest := []) cx hw hA (t_X12_isInfinite l G a2) ml_X12_313 st_X12_isInfinite in_X12 co_X12_isInfinite hd_X12_isInfinite rfl ⟨(Nat.le_of_ble_eq_true rfl), (Nat.le_of_ble_eq_true rfl)⟩ hl.1 rfl (Nat.le_of_ble_eq_true rfl) dX12_isNoNumber_122 rfl (fun H locs hw => ?_)
    refine lv_if_eq (tgt := 132) hx hb dX12_isNoNumber_125 (by decide) (fun c8 => ?_) (fun c8 => ?_)
    · rw [if_pos c8] at h
      refine lv_iconst (v := 0) hx hb dX12_isNoNumber_132 (by decide) ?_
      exact s_zret cx hr hlk rfl hw h dX12_isNoNumber_133
    · rw [if_neg c8] at h
      refine lv_iconst (v := 1) hx hb dX12_isNoNumber_128 (by decide) ?_
      refine lv_goto (tgt := 133) hx hb dX12_isNoNumber_129 (by decide) ?_
      exact s_zret cx hr hlk rfl hw h dX12_isNoNumber_133
theorem s_X12_isNoNumber_b35_ex : ∃ f : Int32 → Int32 → Int32 → Int32 → Int32, ∀ (a0 : Int32) (a1 : Int32) (a2 : Int32) (k0 : Int32), f a0 a1 a2 k0 = (if a0 = (42 : Int32) then (if (s_X12_isInfinite a1) = (0 : Int32) then s_X12_isNoNumber_b113  a1 a2 else (if (a2 &&& (2147483647 : Int32)) = (0 : Int32) then (1 : Int32) else s_X12_isNoNumber_b113  a1 a2)) else (if a0 = (43 : Int32) then (if k0 = (0 : Int32) then (0 : Int32) else (if a1 = a2 then (0 : Int32) else (1 : Int32))) else (if a0 = (44 : Int32) then (if k0 = (0 : Int32) then (if (a1 &&& (2147483647 : Int32)) = (0 : Int32) then (if (a2 &&& (2147483647 : Int32)) = (0 : Int32) then (1 : Int32) else (0 : Int32)) else (0 : Int32)) else (1 : Int32)) else (if a0 = (45 : Int32) then (if k0 = (0 : Int32) then (0 : Int32) else (if a1 = a2 then (1 : Int32) else (0 : Int32))) else (if k0 = (0 : Int32) then (if (a1 &&& (2147483647 : Int32)) = (0 : Int32) then (if (a2 &&& (2147483647 : Int32)) = (0 : Int32) then (1 : Int32) else (0 : Int32)) else (0 : Int32)) else (1 : Int32)))))) := ⟨fun (a0 : Int32) (a1 : Int32) (a2 : Int32) (k0 : Int32) => (if a0 = (42 : Int32) then (if (s_X12_isInfinite a1) = (0 : Int32) then s_X12_isNoNumber_b113  a1 a2 else (if (a2 &&& (2147483647 : Int32)) = (0 : Int32) then (1 : Int32) else s_X12_isNoNumber_b113  a1 a2)) else (if a0 = (43 : Int32) then (if k0 = (0 : Int32) then (0 : Int32) else (if a1 = a2 then (0 : Int32) else (1 : Int32))) else (if a0 = (44 : Int32) then (if k0 = (0 : Int32) then (if (a1 &&& (2147483647 : Int32)) = (0 : Int32) then (if (a2 &&& (2147483647 : Int32)) = (0 : Int32) then (1 : Int32) else (0 : Int32)) else (0 : Int32)) else (1 : Int32)) else (if a0 = (45 : Int32) then (if k0 = (0 : Int32) then (0 : Int32) else (if a1 = a2 then (1 : Int32) else (0 : Int32))) else (if k0 = (0 : Int32) then (if (a1 &&& (2147483647 : Int32)) = (0 : Int32) then (if (a2 &&& (2147483647 : Int32)) = (0 : Int32) then (1 : Int32) else (0 : Int32)) else (0 : Int32)) else (1 : Int32)))))), fun _ _ _ _ => rfl⟩
noncomputable def s_X12_isNoNumber_b35 : Int32 → Int32 → Int32 → Int32 → Int32 := Classical.choose s_X12_isNoNumber_b35_ex
theorem s_X12_isNoNumber_b35_eq (a0 : Int32) (a1 : Int32) (a2 : Int32) (k0 : Int32) : s_X12_isNoNumber_b35 a0 a1 a2 k0 = (if a0 = (42 : Int32) then (if (s_X12_isInfinite a1) = (0 : Int32) then s_X12_isNoNumber_b113  a1 a2 else (if (a2 &&& (2147483647 : Int32)) = (0 : Int32) then (1 : Int32) else s_X12_isNoNumber_b113  a1 a2)) else (if a0 = (43 : Int32) then (if k0 = (0 : Int32) then (0 : Int32) else (if a1 = a2 then (0 : Int32) else (1 : Int32))) else (if a0 = (44 : Int32) then (if k0 = (0 : Int32) then (if (a1 &&& (2147483647 : Int32)) = (0 : Int32) then (if (a2 &&& (2147483647 : Int32)) = (0 : Int32) then (1 : Int32) else (0 : Int32)) else (0 : Int32)) else (1 : Int32)) else (if a0 = (45 : Int32) then (if k0 = (0 : Int32) then (0 : Int32) else (if a1 = a2 then (1 : Int32) else (0 : Int32))) else (if k0 = (0 : Int32) then (if (a1 &&& (2147483647 : Int32)) = (0 : Int32) then (if (a2 &&& (2147483647 : Int32)) = (0 : Int32) then (1 : Int32) else (0 : Int32)) else (0 : Int32)) else (1 : Int32)))))) := Classical.choose_spec s_X12_isNoNumber_b35_ex a0 a1 a2 k0
set_option maxHeartbeats 4000000 in
set_option maxRecDepth 100000 in
theorem t_X12_isNoNumber_b35 (l : Launch) (G : Gt) (av : List Value) {r : Int32} (a0 : Int32) (a1 : Int32) (a2 : Int32) (k0 : Int32) (h : s_X12_isNoNumber_b35  a0 a1 a2 k0 = r) : Bk l cX12_isNoNumber 4 RX12 (some .boolean) ({ frames := 1, cells := 0, slots := 0, locals := 20 } : Room) G av (sI G r) [] 35 [(0, .int a0), (1, .int a1), (2, .int a2)] [.int k0] := by
  intro p e s m below meth c A ls H locs cx hr hlk hA hl hw
  have hx := cx.1
  have hb := cx.2.1
  rw [s_X12_isNoNumber_b35_eq] at h
  refine lv_istore_n (lv' := [(3, .int k0), (0, .int a0), (1, .int a1), (2, .int a2)]) hx hb dX12_isNoNumber_35 rfl hl (by decide) rfl (fun ls hl => ?_)
  refine lv_iload_n hx hb dX12_isNoNumber_36 rfl (lv_at hl 1 rfl) ?_
  refine lv_topi (fun v4 ev4 => ?_)
  by_cases c5 : a0 = (42 : Int32)
  · rw [if_pos c5] at h
    have z9 := ev4.trans c5
    subst z9
    refine lv_tableIn (tgt := 98) hx hb dX12_isNoNumber_37 (by decide +kernel) (by decide +kernel) rfl (by decide) ?_
    refine lv_iload_n hx hb dX12_isNoNumber_98 rfl (lv_at hl 2 rfl) ?_
    refine s_callI (As := [.int a1]) (rest := []) cx hw hA (t_X12_isInfinite l G a1) ml_X12_313 st_X12_isInfinite in_X12 co_X12_isInfinite hd_X12_isInfinite rfl ⟨(Nat.le_of_ble_eq_true rfl), (Nat.le_of_ble_eq_true rfl)⟩ hl.1 rfl (Nat.le_of_ble_eq_true rfl) dX12_isNoNumber_99 rfl (fun H locs hw => ?_)
    refine lv_if_eq (tgt := 113) hx hb dX12_isNoNumber_102 (by decide) (fun c6 => ?_) (fun c6 => ?_)
    · rw [if_pos c6] at h
      exact t_X12_isNoNumber_b113 l G av  a1 a2 h p e s m below meth c A ls H locs cx hr hlk hA (lv_sub hl [2, 3] rfl) hw
    · rw [if_neg c6] at h
      refine lv_iload_n hx hb dX12_isNoNumber_105 rfl (lv_at hl 3 rfl) ?_
      refine lv_ldcw hx hb cx.2.2.2.1 (cx.2.2.2.2.1 _ cs_X12_311) dX12_isNoNumber_106 ?_
      refine lv_iand hx hb dX12_isNoNumber_109 ?_
      refine lv_if_eq (tgt := 128) hx hb dX12_isNoNumber_110 (by decide) (fun c9 => ?_) (fun c9 => ?_)
      · rw [if_pos c9] at h
        refine lv_iconst (v := 1) hx hb dX12_isNoNumber_128 (by decide) ?_
        refine lv_goto (tgt := 133) hx hb dX12_isNoNumber_129 (by decide) ?_
        exact s_zret cx hr hlk rfl hw h dX12_isNoNumber_133
      · rw [if_neg c9] at h
        exact t_X12_isNoNumber_b113 l G av  a1 a2 h p e s m below meth c A ls H locs cx hr hlk hA (lv_sub hl [2, 3] rfl) hw
  rw [if_neg c5] at h
  by_cases c10 : a0 = (43 : Int32)
  · rw [if_pos c10] at h
    have z9 := ev4.trans c10
    subst z9
    refine lv_tableIn (tgt := 68) hx hb dX12_isNoNumber_37 (by decide +kernel) (by decide +kernel) rfl (by decide) ?_
    refine lv_iload_n hx hb dX12_isNoNumber_68 rfl (lv_at hl 0 rfl) ?_
    refine lv_if_eq (tgt := 81) hx hb dX12_isNoNumber_69 (by decide) (fun c11 => ?_) (fun c11 => ?_)
    · rw [if_pos c11] at h
      refine lv_iconst (v := 0) hx hb dX12_isNoNumber_81 (by decide) ?_
      exact s_zret cx hr hlk rfl hw h dX12_isNoNumber_82
    · rw [if_neg c11] at h
      refine lv_iload_n hx hb dX12_isNoNumber_72 rfl (lv_at hl 2 rfl) ?_
      refine lv_iload_n hx hb dX12_isNoNumber_73 rfl (lv_at hl 3 rfl) ?_
      refine lv_icmp_eq (tgt := 81) hx hb dX12_isNoNumber_74 (by decide) (fun c12 => ?_) (fun c12 => ?_)
      · rw [if_pos c12] at h
        refine lv_iconst (v := 0) hx hb dX12_isNoNumber_81 (by decide) ?_
        exact s_zret cx hr hlk rfl hw h dX12_isNoNumber_82
      · rw [if_neg c12] at h
        refine lv_iconst (v := 1) hx hb dX12_isNoNumber_77 (by decide) ?_
        refine lv_goto (tgt := 82) hx hb dX12_isNoNumber_78 (by decide) ?_
        exact s_zret cx hr hlk rfl hw h dX12_isNoNumber_82
  rw [if_neg c10] at h
  by_cases c13 : a0 = (44 : Int32)
  · rw [if_pos c13] at h
    have z9 := ev4.trans c13
    subst z9
    refine lv_tableIn (tgt := 134) hx hb dX12_isNoNumber_37 (by decide +kernel) (by decide +kernel) rfl (by decide) ?_
    refine lv_iload_n hx hb dX12_isNoNumber_134 rfl (lv_at hl 0 rfl) ?_
    refine lv_if_ne (tgt := 154) hx hb dX12_isNoNumber_135 (by decide) (fun c14 => ?_) (fun c14 => ?_)
    · rw [if_neg c14] at h
      refine lv_iconst (v := 1) hx hb dX12_isNoNumber_154 (by decide) ?_
      refine lv_goto (tgt := 159) hx hb dX12_isNoNumber_155 (by decide) ?_
      exact s_zret cx hr hlk rfl hw h dX12_isNoNumber_159
    · rw [if_pos c14] at h
      refine lv_iload_n hx hb dX12_isNoNumber_138 rfl (lv_at hl 2 rfl) ?_
      refine lv_ldcw hx hb cx.2.2.2.1 (cx.2.2.2.2.1 _ cs_X12_311) dX12_isNoNumber_139 ?_
      refine lv_iand hx hb dX12_isNoNumber_142 ?_
      refine lv_if_ne (tgt := 158) hx hb dX12_isNoNumber_143 (by decide) (fun c15 => ?_) (fun c15 => ?_)
      · rw [if_neg c15] at h
        refine lv_iconst (v := 0) hx hb dX12_isNoNumber_158 (by decide) ?_
        exact s_zret cx hr hlk rfl hw h dX12_isNoNumber_159
      · rw [if_pos c15] at h
        refine lv_iload_n hx hb dX12_isNoNumber_146 rfl (lv_at hl 3 rfl) ?_
        refine lv_ldcw hx hb cx.2.2.2.1 (cx.2.2.2.2.1 _ cs_X12_311) dX12_isNoNumber_147 ?_
        refine lv_iand hx hb dX12_isNoNumber_150 ?_
        refine lv_if_ne (tgt := 158) hx hb dX12_isNoNumber_151 (by decide) (fun c16 => ?_) (fun c16 => ?_)
        · rw [if_neg c16] at h
          refine lv_iconst (v := 0) hx hb dX12_isNoNumber_158 (by decide) ?_
          exact s_zret cx hr hlk rfl hw h dX12_isNoNumber_159
        · rw [if_pos c16] at h
          refine lv_iconst (v := 1) hx hb dX12_isNoNumber_154 (by decide) ?_
          refine lv_goto (tgt := 159) hx hb dX12_isNoNumber_155 (by decide) ?_
          exact s_zret cx hr hlk rfl hw h dX12_isNoNumber_159
  rw [if_neg c13] at h
  by_cases c17 : a0 = (45 : Int32)
  · rw [if_pos c17] at h
    have z9 := ev4.trans c17
    subst z9
    refine lv_tableIn (tgt := 83) hx hb dX12_isNoNumber_37 (by decide +kernel) (by decide +kernel) rfl (by decide) ?_
    refine lv_iload_n hx hb dX12_isNoNumber_83 rfl (lv_at hl 0 rfl) ?_
    refine lv_if_eq (tgt := 96) hx hb dX12_isNoNumber_84 (by decide) (fun c18 => ?_) (fun c18 => ?_)
    · rw [if_pos c18] at h
      refine lv_iconst (v := 0) hx hb dX12_isNoNumber_96 (by decide) ?_
      exact s_zret cx hr hlk rfl hw h dX12_isNoNumber_97
    · rw [if_neg c18] at h
      refine lv_iload_n hx hb dX12_isNoNumber_87 rfl (lv_at hl 2 rfl) ?_
      refine lv_iload_n hx hb dX12_isNoNumber_88 rfl (lv_at hl 3 rfl) ?_
      refine lv_icmp_ne (tgt := 96) hx hb dX12_isNoNumber_89 (by decide) (fun c19 => ?_) (fun c19 => ?_)
      · rw [if_neg c19] at h
        refine lv_iconst (v := 0) hx hb dX12_isNoNumber_96 (by decide) ?_
        exact s_zret cx hr hlk rfl hw h dX12_isNoNumber_97
      · rw [if_pos c19] at h
        refine lv_iconst (v := 1) hx hb dX12_isNoNumber_92 (by decide) ?_
        refine lv_goto (tgt := 97) hx hb dX12_isNoNumber_93 (by decide) ?_
        exact s_zret cx hr hlk rfl hw h dX12_isNoNumber_97
  rw [if_neg c17] at h
  rw [ev4]
  refine lv_tableOut (tgt := 134) hx hb dX12_isNoNumber_37 (sw_out (L := [(42 : Int32), (43 : Int32), (44 : Int32), (45 : Int32)]) (by decide +kernel) (by simp only [List.forall_mem_cons]; exact ⟨c5, c10, c13, c17, fun _ q => absurd q List.not_mem_nil⟩)) (by decide) ?_
  refine lv_iload_n hx hb dX12_isNoNumber_134 rfl (lv_at hl 0 rfl) ?_
  refine lv_if_ne (tgt := 154) hx hb dX12_isNoNumber_135 (by decide) (fun c20 => ?_) (fun c20 => ?_)
  · rw [if_neg c20] at h
    refine lv_iconst (v := 1) hx hb dX12_isNoNumber_154 (by decide) ?_
    refine lv_goto (tgt := 159) hx hb dX12_isNoNumber_155 (by decide) ?_
    exact s_zret cx hr hlk rfl hw h dX12_isNoNumber_159
  · rw [if_pos c20] at h
    refine lv_iload_n hx hb dX12_isNoNumber_138 rfl (lv_at hl 2 rfl) ?_
    refine lv_ldcw hx hb cx.2.2.2.1 (cx.2.2.2.2.1 _ cs_X12_311) dX12_isNoNumber_139 ?_
    refine lv_iand hx hb dX12_isNoNumber_142 ?_
    refine lv_if_ne (tgt := 158) hx hb dX12_isNoNumber_143 (by decide) (fun c21 => ?_) (fun c21 => ?_)
    · rw [if_neg c21] at h
      refine lv_iconst (v := 0) hx hb dX12_isNoNumber_158 (by decide) ?_
      exact s_zret cx hr hlk rfl hw h dX12_isNoNumber_159
    · rw [if_pos c21] at h
      refine lv_iload_n hx hb dX12_isNoNumber_146 rfl (lv_at hl 3 rfl) ?_
      refine lv_ldcw hx hb cx.2.2.2.1 (cx.2.2.2.2.1 _ cs_X12_311) dX12_isNoNumber_147 ?_
      refine lv_iand hx hb dX12_isNoNumber_150 ?_
      refine lv_if_ne (tgt := 158) hx hb dX12_isNoNumber_151 (by decide) (fun c22 => ?_) (fun c22 => ?_)
      · rw [if_neg c22] at h
        refine lv_iconst (v := 0) hx hb dX12_isNoNumber_158 (by decide) ?_
        exact s_zret cx hr hlk rfl hw h dX12_isNoNumber_159
      · rw [if_pos c22] at h
        refine lv_iconst (v := 1) hx hb dX12_isNoNumber_154 (by decide) ?_
        refine lv_goto (tgt := 159) hx hb dX12_isNoNumber_155 (by decide) ?_
        exact s_zret cx hr hlk rfl hw h dX12_isNoNumber_159
theorem s_X12_isNoNumber_b34_ex : ∃ f : Int32 → Int32 → Int32 → Int32, ∀ (a0 : Int32) (a1 : Int32) (a2 : Int32), f a0 a1 a2 = s_X12_isNoNumber_b35  a0 a1 a2 (0 : Int32) := ⟨fun (a0 : Int32) (a1 : Int32) (a2 : Int32) => s_X12_isNoNumber_b35  a0 a1 a2 (0 : Int32), fun _ _ _ => rfl⟩
noncomputable def s_X12_isNoNumber_b34 : Int32 → Int32 → Int32 → Int32 := Classical.choose s_X12_isNoNumber_b34_ex
theorem s_X12_isNoNumber_b34_eq (a0 : Int32) (a1 : Int32) (a2 : Int32) : s_X12_isNoNumber_b34 a0 a1 a2 = s_X12_isNoNumber_b35  a0 a1 a2 (0 : Int32) := Classical.choose_spec s_X12_isNoNumber_b34_ex a0 a1 a2
set_option maxHeartbeats 4000000 in
set_option maxRecDepth 100000 in
theorem t_X12_isNoNumber_b34 (l : Launch) (G : Gt) (av : List Value) {r : Int32} (a0 : Int32) (a1 : Int32) (a2 : Int32) (h : s_X12_isNoNumber_b34  a0 a1 a2 = r) : Bk l cX12_isNoNumber 4 RX12 (some .boolean) ({ frames := 1, cells := 0, slots := 0, locals := 20 } : Room) G av (sI G r) [] 34 [(0, .int a0), (1, .int a1), (2, .int a2)] [] := by
  intro p e s m below meth c A ls H locs cx hr hlk hA hl hw
  have hx := cx.1
  have hb := cx.2.1
  rw [s_X12_isNoNumber_b34_eq] at h
  refine lv_iconst (v := 0) hx hb dX12_isNoNumber_34 (by decide) ?_
  exact t_X12_isNoNumber_b35 l G av  a0 a1 a2 (0 : Int32) h p e s m below meth c A ls H locs cx hr hlk hA (lv_sub hl [0, 1, 2] rfl) hw
theorem s_X12_isNoNumber_ex : ∃ f : Int32 → Int32 → Int32 → Int32, ∀ (a0 : Int32) (a1 : Int32) (a2 : Int32), f a0 a1 a2 = (if (s_X12_isNan a1) = (0 : Int32) then (if (s_X12_isNan a2) = (0 : Int32) then (if (s_X12_isInfinite a1) = (0 : Int32) then s_X12_isNoNumber_b34  a0 a1 a2 else (if (s_X12_isInfinite a2) = (0 : Int32) then s_X12_isNoNumber_b34  a0 a1 a2 else s_X12_isNoNumber_b35  a0 a1 a2 (1 : Int32))) else (1 : Int32)) else (1 : Int32)) := ⟨fun (a0 : Int32) (a1 : Int32) (a2 : Int32) => (if (s_X12_isNan a1) = (0 : Int32) then (if (s_X12_isNan a2) = (0 : Int32) then (if (s_X12_isInfinite a1) = (0 : Int32) then s_X12_isNoNumber_b34  a0 a1 a2 else (if (s_X12_isInfinite a2) = (0 : Int32) then s_X12_isNoNumber_b34  a0 a1 a2 else s_X12_isNoNumber_b35  a0 a1 a2 (1 : Int32))) else (1 : Int32)) else (1 : Int32)), fun _ _ _ => rfl⟩
noncomputable def s_X12_isNoNumber : Int32 → Int32 → Int32 → Int32 := Classical.choose s_X12_isNoNumber_ex
theorem s_X12_isNoNumber_eq (a0 : Int32) (a1 : Int32) (a2 : Int32) : s_X12_isNoNumber a0 a1 a2 = (if (s_X12_isNan a1) = (0 : Int32) then (if (s_X12_isNan a2) = (0 : Int32) then (if (s_X12_isInfinite a1) = (0 : Int32) then s_X12_isNoNumber_b34  a0 a1 a2 else (if (s_X12_isInfinite a2) = (0 : Int32) then s_X12_isNoNumber_b34  a0 a1 a2 else s_X12_isNoNumber_b35  a0 a1 a2 (1 : Int32))) else (1 : Int32)) else (1 : Int32)) := Classical.choose_spec s_X12_isNoNumber_ex a0 a1 a2
set_option maxHeartbeats 4000000 in
set_option maxRecDepth 100000 in
theorem t_X12_isNoNumber (l : Launch) (G : Gt) (a0 : Int32) (a1 : Int32) (a2 : Int32) : Mt l yX12_isNoNumber cX12_isNoNumber 4 (some .boolean) ({ frames := 1, cells := 0, slots := 0, locals := 20 } : Room) G [.int a0, .int a1, .int a2] [] (sI G (s_X12_isNoNumber a0 a1 a2)) := by
  obtain ⟨r, h⟩ : ∃ r, s_X12_isNoNumber a0 a1 a2 = r := ⟨_, rfl⟩
  rw [h]
  refine Bk.mt (by decide) rfl (Nat.le_of_ble_eq_true rfl) ?_
  intro p e s m below meth c A ls H locs cx hr hlk hA hl hw
  have hx := cx.1
  have hb := cx.2.1
  have hl : lv_has ls 4 [(0, .int a0), (1, .int a1), (2, .int a2)] := hl
  rw [s_X12_isNoNumber_eq] at h
  refine lv_iload_n hx hb dX12_isNoNumber_0 rfl (lv_at hl 1 rfl) ?_
  refine s_callI (As := [.int a1]) (rest := []) cx hw hA (t_X12_isNan l G a1) ml_X12_291 st_X12_isNan in_X12 co_X12_isNan hd_X12_isNan rfl ⟨(Nat.le_of_ble_eq_true rfl), (Nat.le_of_ble_eq_true rfl)⟩ hl.1 rfl (Nat.le_of_ble_eq_true rfl) dX12_isNoNumber_1 rfl (fun H locs hw => ?_)
  refine lv_if_ne (tgt := 14) hx hb dX12_isNoNumber_4 (by decide) (fun c1 => ?_) (fun c1 => ?_)
  · rw [if_neg c1] at h
    refine lv_iconst (v := 1) hx hb dX12_isNoNumber_14 (by decide) ?_
    exact s_zret cx hr hlk rfl hw h dX12_isNoNumber_15
  · rw [if_pos c1] at h
    refine lv_iload_n hx hb dX12_isNoNumber_7 rfl (lv_at hl 2 rfl) ?_
    refine s_callI (As := [.int a2]) (rest := []) cx hw hA (t_X12_isNan l G a2) ml_X12_291 st_X12_isNan in_X12 co_X12_isNan hd_X12_isNan rfl ⟨(Nat.le_of_ble_eq_true rfl), (Nat.le_of_ble_eq_true rfl)⟩ hl.1 rfl (Nat.le_of_ble_eq_true rfl) dX12_isNoNumber_8 rfl (fun H locs hw => ?_)
    refine lv_if_eq (tgt := 16) hx hb dX12_isNoNumber_11 (by decide) (fun c2 => ?_) (fun c2 => ?_)
    · rw [if_pos c2] at h
      refine lv_iload_n hx hb dX12_isNoNumber_16 rfl (lv_at hl 1 rfl) ?_
      refine s_callI (As := [.int a1]) (rest := []) cx hw hA (t_X12_isInfinite l G a1) ml_X12_313 st_X12_isInfinite in_X12 co_X12_isInfinite hd_X12_isInfinite rfl ⟨(Nat.le_of_ble_eq_true rfl), (Nat.le_of_ble_eq_true rfl)⟩ hl.1 rfl (Nat.le_of_ble_eq_true rfl) dX12_isNoNumber_17 rfl (fun H locs hw => ?_)
      refine lv_if_eq (tgt := 34) hx hb dX12_isNoNumber_20 (by decide) (fun c3 => ?_) (fun c3 => ?_)
      · rw [if_pos c3] at h
        exact t_X12_isNoNumber_b34 l G _  a0 a1 a2 h p e s m below meth c A ls H locs cx hr hlk hA (lv_sub hl [0, 1, 2] rfl) hw
      · rw [if_neg c3] at h
        refine lv_iload_n hx hb dX12_isNoNumber_23 rfl (lv_at hl 2 rfl) ?_
        refine s_callI (As := [.int a2]) (rest := []) cx hw hA (t_X12_isInfinite l G a2) ml_X12_313 st_X12_isInfinite in_X12 co_X12_isInfinite hd_X12_isInfinite rfl ⟨(Nat.le_of_ble_eq_true rfl), (Nat.le_of_ble_eq_true rfl)⟩ hl.1 rfl (Nat.le_of_ble_eq_true rfl) dX12_isNoNumber_24 rfl (fun H locs hw => ?_)
        refine lv_if_eq (tgt := 34) hx hb dX12_isNoNumber_27 (by decide) (fun c23 => ?_) (fun c23 => ?_)
        · rw [if_pos c23] at h
          exact t_X12_isNoNumber_b34 l G _  a0 a1 a2 h p e s m below meth c A ls H locs cx hr hlk hA (lv_sub hl [0, 1, 2] rfl) hw
        · rw [if_neg c23] at h
          refine lv_iconst (v := 1) hx hb dX12_isNoNumber_30 (by decide) ?_
          refine lv_goto (tgt := 35) hx hb dX12_isNoNumber_31 (by decide) ?_
          exact t_X12_isNoNumber_b35 l G _  a0 a1 a2 (1 : Int32) h p e s m below meth c A ls H locs cx hr hlk hA (lv_sub hl [0, 1, 2] rfl) hw
    · rw [if_neg c2] at h
      refine lv_iconst (v := 1) hx hb dX12_isNoNumber_14 (by decide) ?_
      exact s_zret cx hr hlk rfl hw h dX12_isNoNumber_15

theorem p_X12_brokens_ex : ∃ f : Int32 → Int32 → Int32 → Option Int32, ∀ (a0 : Int32) (a1 : Int32) (a2 : Int32), f a0 a1 a2 = (if (s_X12_isNoNumber a0 a1 a2) = (0 : Int32) then gd (!vn_sni2f a1) (bv (a1.toUInt32) (fun v3 => gd (!vn_sni2f a2) (bv (a2.toUInt32) (fun v5 => (if a0 = (42 : Int32) then gd (n32 (FP.fmul v3 v5)) (some (s_X12_bitsOf (FP.fmul v3 v5))) else (if a0 = (43 : Int32) then gd (n32 (FP.fadd v3 v5)) (some (s_X12_bitsOf (FP.fadd v3 v5))) else (if a0 = (44 : Int32) then gd (n32 (FP.fdiv v3 v5)) (some (s_X12_bitsOf (FP.fdiv v3 v5))) else (if a0 = (45 : Int32) then gd (n32 (FP.fsub v3 v5)) (some (s_X12_bitsOf (FP.fsub v3 v5))) else gd (n32 (FP.fdiv v3 v5)) (some (s_X12_bitsOf (FP.fdiv v3 v5))))))))))) else some (2143289344 : Int32)) := ⟨fun (a0 : Int32) (a1 : Int32) (a2 : Int32) => (if (s_X12_isNoNumber a0 a1 a2) = (0 : Int32) then gd (!vn_sni2f a1) (bv (a1.toUInt32) (fun v3 => gd (!vn_sni2f a2) (bv (a2.toUInt32) (fun v5 => (if a0 = (42 : Int32) then gd (n32 (FP.fmul v3 v5)) (some (s_X12_bitsOf (FP.fmul v3 v5))) else (if a0 = (43 : Int32) then gd (n32 (FP.fadd v3 v5)) (some (s_X12_bitsOf (FP.fadd v3 v5))) else (if a0 = (44 : Int32) then gd (n32 (FP.fdiv v3 v5)) (some (s_X12_bitsOf (FP.fdiv v3 v5))) else (if a0 = (45 : Int32) then gd (n32 (FP.fsub v3 v5)) (some (s_X12_bitsOf (FP.fsub v3 v5))) else gd (n32 (FP.fdiv v3 v5)) (some (s_X12_bitsOf (FP.fdiv v3 v5))))))))))) else some (2143289344 : Int32)), fun _ _ _ => rfl⟩
noncomputable def p_X12_brokens : Int32 → Int32 → Int32 → Option Int32 := Classical.choose p_X12_brokens_ex
theorem p_X12_brokens_eq (a0 : Int32) (a1 : Int32) (a2 : Int32) : p_X12_brokens a0 a1 a2 = (if (s_X12_isNoNumber a0 a1 a2) = (0 : Int32) then gd (!vn_sni2f a1) (bv (a1.toUInt32) (fun v3 => gd (!vn_sni2f a2) (bv (a2.toUInt32) (fun v5 => (if a0 = (42 : Int32) then gd (n32 (FP.fmul v3 v5)) (some (s_X12_bitsOf (FP.fmul v3 v5))) else (if a0 = (43 : Int32) then gd (n32 (FP.fadd v3 v5)) (some (s_X12_bitsOf (FP.fadd v3 v5))) else (if a0 = (44 : Int32) then gd (n32 (FP.fdiv v3 v5)) (some (s_X12_bitsOf (FP.fdiv v3 v5))) else (if a0 = (45 : Int32) then gd (n32 (FP.fsub v3 v5)) (some (s_X12_bitsOf (FP.fsub v3 v5))) else gd (n32 (FP.fdiv v3 v5)) (some (s_X12_bitsOf (FP.fdiv v3 v5))))))))))) else some (2143289344 : Int32)) := Classical.choose_spec p_X12_brokens_ex a0 a1 a2
set_option maxHeartbeats 4000000 in
set_option maxRecDepth 100000 in
theorem t_X12_brokens (l : Launch) (G : Gt) (a0 : Int32) (a1 : Int32) (a2 : Int32) {r : Int32} (h : p_X12_brokens a0 a1 a2 = some r) : Mt l yX12_brokens cX12_brokens 5 (some .int) ({ frames := 3, cells := 0, slots := 0, locals := 64 } : Room) G [.int a0, .int a1, .int a2] [] (sI G r) := by
  refine Bk.mt (by decide) rfl (Nat.le_of_ble_eq_true rfl) ?_
  intro p e s m below meth c A ls H locs cx hr hlk hA hl hw
  have hx := cx.1
  have hb := cx.2.1
  have hl : lv_has ls 5 [(0, .int a0), (1, .int a1), (2, .int a2)] := hl
  rw [p_X12_brokens_eq] at h
  refine lv_iload_n hx hb dX12_brokens_0 rfl (lv_at hl 0 rfl) ?_
  refine lv_iload_n hx hb dX12_brokens_1 rfl (lv_at hl 1 rfl) ?_
  refine lv_iload_n hx hb dX12_brokens_2 rfl (lv_at hl 2 rfl) ?_
  refine s_callI (As := [.int a0, .int a1, .int a2]) (rest := []) cx hw hA (t_X12_isNoNumber l G a0 a1 a2) ml_X12_316 st_X12_isNoNumber in_X12 co_X12_isNoNumber hd_X12_isNoNumber rfl ⟨(Nat.le_of_ble_eq_true rfl), (Nat.le_of_ble_eq_true rfl)⟩ hl.1 rfl (Nat.le_of_ble_eq_true rfl) dX12_brokens_3 rfl (fun H locs hw => ?_)
  refine lv_if_eq (tgt := 13) hx hb dX12_brokens_6 (by decide) (fun c1 => ?_) (fun c1 => ?_)
  · rw [if_pos c1] at h
    refine lv_iload_n hx hb dX12_brokens_13 rfl (lv_at hl 1 rfl) ?_
    obtain ⟨c2, h⟩ := gd_some h
    refine r_i2f cx ml_X12_296 hl.1 (nb_of c2) (Nat.le_of_ble_eq_true rfl) (Nat.le_of_ble_eq_true rfl) dX12_brokens_14 ?_
    obtain ⟨v3, ev3, h⟩ := bv_ex h
    refine lv_topf (fun y9 z9 => ?_)
    obtain rfl : v3 = y9 := ev3.trans z9.symm
    refine lv_fstore_n (lv' := [(3, .float v3), (0, .int a0), (1, .int a1), (2, .int a2)]) hx hb dX12_brokens_17 rfl hl (by decide) rfl (fun ls hl => ?_)
    refine lv_iload_n hx hb dX12_brokens_18 rfl (lv_at hl 3 rfl) ?_
    obtain ⟨c4, h⟩ := gd_some h
    refine r_i2f cx ml_X12_296 hl.1 (nb_of c4) (Nat.le_of_ble_eq_true rfl) (Nat.le_of_ble_eq_true rfl) dX12_brokens_19 ?_
    obtain ⟨v5, ev5, h⟩ := bv_ex h
    refine lv_topf (fun y9 z9 => ?_)
    obtain rfl : v5 = y9 := ev5.trans z9.symm
    refine lv_fstore (lv' := [(4, .float v5), (3, .float v3), (0, .int a0), (1, .int a1), (2, .int a2)]) hx hb dX12_brokens_22 hl (by decide) rfl (fun ls hl => ?_)
    refine lv_iload_n hx hb dX12_brokens_24 rfl (lv_at hl 2 rfl) ?_
    refine lv_topi (fun v6 ev6 => ?_)
    by_cases c7 : a0 = (42 : Int32)
    · rw [if_pos c7] at h
      have z9 := ev6.trans c7
      subst z9
      refine lv_tableIn (tgt := 72) hx hb dX12_brokens_25 (by decide +kernel) (by decide +kernel) rfl (by decide) ?_
      refine lv_fload_n hx hb dX12_brokens_72 rfl (lv_at hl 1 rfl) ?_
      refine lv_fload hx hb dX12_brokens_73 (lv_at hl 0 rfl) ?_
      obtain ⟨c8, h⟩ := gd_some h
      refine lv_fmul hx hb dX12_brokens_75 (n32_of c8) ?_
      refine s_callI (As := [.float (FP.fmul v3 v5)]) (rest := []) cx hw hA (t_X12_bitsOf l G (FP.fmul v3 v5)) ml_X12_287 st_X12_bitsOf in_X12 co_X12_bitsOf hd_X12_bitsOf rfl ⟨(Nat.le_of_ble_eq_true rfl), (Nat.le_of_ble_eq_true rfl)⟩ hl.1 rfl (Nat.le_of_ble_eq_true rfl) dX12_brokens_76 rfl (fun H locs hw => ?_)
      exact s_iret cx hr hlk hw (Option.some.inj h) dX12_brokens_79
    rw [if_neg c7] at h
    by_cases c9 : a0 = (43 : Int32)
    · rw [if_pos c9] at h
      have z9 := ev6.trans c9
      subst z9
      refine lv_tableIn (tgt := 56) hx hb dX12_brokens_25 (by decide +kernel) (by decide +kernel) rfl (by decide) ?_
      refine lv_fload_n hx hb dX12_brokens_56 rfl (lv_at hl 1 rfl) ?_
      refine lv_fload hx hb dX12_brokens_57 (lv_at hl 0 rfl) ?_
      obtain ⟨c10, h⟩ := gd_some h
      refine lv_fadd hx hb dX12_brokens_59 (n32_of c10) ?_
      refine s_callI (As := [.float (FP.fadd v3 v5)]) (rest := []) cx hw hA (t_X12_bitsOf l G (FP.fadd v3 v5)) ml_X12_287 st_X12_bitsOf in_X12 co_X12_bitsOf hd_X12_bitsOf rfl ⟨(Nat.le_of_ble_eq_true rfl), (Nat.le_of_ble_eq_true rfl)⟩ hl.1 rfl (Nat.le_of_ble_eq_true rfl) dX12_brokens_60 rfl (fun H locs hw => ?_)
      exact s_iret cx hr hlk hw (Option.some.inj h) dX12_brokens_63
    rw [if_neg c9] at h
    by_cases c11 : a0 = (44 : Int32)
    · rw [if_pos c11] at h
      have z9 := ev6.trans c11
      subst z9
      refine lv_tableIn (tgt := 80) hx hb dX12_brokens_25 (by decide +kernel) (by decide +kernel) rfl (by decide) ?_
      refine lv_fload_n hx hb dX12_brokens_80 rfl (lv_at hl 1 rfl) ?_
      refine lv_fload hx hb dX12_brokens_81 (lv_at hl 0 rfl) ?_
      obtain ⟨c12, h⟩ := gd_some h
      refine lv_fdiv hx hb dX12_brokens_83 (n32_of c12) ?_
      refine s_callI (As := [.float (FP.fdiv v3 v5)]) (rest := []) cx hw hA (t_X12_bitsOf l G (FP.fdiv v3 v5)) ml_X12_287 st_X12_bitsOf in_X12 co_X12_bitsOf hd_X12_bitsOf rfl ⟨(Nat.le_of_ble_eq_true rfl), (Nat.le_of_ble_eq_true rfl)⟩ hl.1 rfl (Nat.le_of_ble_eq_true rfl) dX12_brokens_84 rfl (fun H locs hw => ?_)
      exact s_iret cx hr hlk hw (Option.some.inj h) dX12_brokens_87
    rw [if_neg c11] at h
    by_cases c13 : a0 = (45 : Int32)
    · rw [if_pos c13] at h
      have z9 := ev6.trans c13
      subst z9
      refine lv_tableIn (tgt := 64) hx hb dX12_brokens_25 (by decide +kernel) (by decide +kernel) rfl (by decide) ?_
      refine lv_fload_n hx hb dX12_brokens_64 rfl (lv_at hl 1 rfl) ?_
      refine lv_fload hx hb dX12_brokens_65 (lv_at hl 0 rfl) ?_
      obtain ⟨c14, h⟩ := gd_some h
      refine lv_fsub hx hb dX12_brokens_67 (n32_of c14) ?_
      refine s_callI (As := [.float (FP.fsub v3 v5)]) (rest := []) cx hw hA (t_X12_bitsOf l G (FP.fsub v3 v5)) ml_X12_287 st_X12_bitsOf in_X12 co_X12_bitsOf hd_X12_bitsOf rfl ⟨(Nat.le_of_ble_eq_true rfl), (Nat.le_of_ble_eq_true rfl)⟩ hl.1 rfl (Nat.le_of_ble_eq_true rfl) dX12_brokens_68 rfl (fun H locs hw => ?_)
      exact s_iret cx hr hlk hw (Option.some.inj h) dX12_brokens_71
    rw [if_neg c13] at h
    rw [ev6]
    refine lv_tableOut (tgt := 80) hx hb dX12_brokens_25 (sw_out (L := [(42 : Int32), (43 : Int32), (44 : Int32), (45 : Int32)]) (by decide +kernel) (by simp only [List.forall_mem_cons]; exact ⟨c7, c9, c11, c13, fun _ q => absurd q List.not_mem_nil⟩)) (by decide) ?_
    refine lv_fload_n hx hb dX12_brokens_80 rfl (lv_at hl 1 rfl) ?_
    refine lv_fload hx hb dX12_brokens_81 (lv_at hl 0 rfl) ?_
    obtain ⟨c15, h⟩ := gd_some h
    refine lv_fdiv hx hb dX12_brokens_83 (n32_of c15) ?_
    refine s_callI (As := [.float (FP.fdiv v3 v5)]) (rest := []) cx hw hA (t_X12_bitsOf l G (FP.fdiv v3 v5)) ml_X12_287 st_X12_bitsOf in_X12 co_X12_bitsOf hd_X12_bitsOf rfl ⟨(Nat.le_of_ble_eq_true rfl), (Nat.le_of_ble_eq_true rfl)⟩ hl.1 rfl (Nat.le_of_ble_eq_true rfl) dX12_brokens_84 rfl (fun H locs hw => ?_)
    exact s_iret cx hr hlk hw (Option.some.inj h) dX12_brokens_87
  · rw [if_neg c1] at h
    refine lv_ldcw hx hb cx.2.2.2.1 (cx.2.2.2.2.1 _ cs_X12_295) dX12_brokens_9 ?_
    exact s_iret cx hr hlk hw (Option.some.inj h) dX12_brokens_12

theorem p_X12_isLess_ex : ∃ f : Int32 → Int32 → Option Int32, ∀ (a0 : Int32) (a1 : Int32), f a0 a1 = (if (s_X12_isNan a0) = (0 : Int32) then (if (s_X12_isNan a1) = (0 : Int32) then gd (!vn_sni2f a0) (gd (!vn_sni2f a1) ((if (0 : Int32) ≤ (Op.cmpValue (FP.fcmp (a0.toUInt32) (a1.toUInt32)) CmpOp.g) then some (0 : Int32) else some (1 : Int32)))) else some (0 : Int32)) else some (0 : Int32)) := ⟨fun (a0 : Int32) (a1 : Int32) => (if (s_X12_isNan a0) = (0 : Int32) then (if (s_X12_isNan a1) = (0 : Int32) then gd (!vn_sni2f a0) (gd (!vn_sni2f a1) ((if (0 : Int32) ≤ (Op.cmpValue (FP.fcmp (a0.toUInt32) (a1.toUInt32)) CmpOp.g) then some (0 : Int32) else some (1 : Int32)))) else some (0 : Int32)) else some (0 : Int32)), fun _ _ => rfl⟩
noncomputable def p_X12_isLess : Int32 → Int32 → Option Int32 := Classical.choose p_X12_isLess_ex
theorem p_X12_isLess_eq (a0 : Int32) (a1 : Int32) : p_X12_isLess a0 a1 = (if (s_X12_isNan a0) = (0 : Int32) then (if (s_X12_isNan a1) = (0 : Int32) then gd (!vn_sni2f a0) (gd (!vn_sni2f a1) ((if (0 : Int32) ≤ (Op.cmpValue (FP.fcmp (a0.toUInt32) (a1.toUInt32)) CmpOp.g) then some (0 : Int32) else some (1 : Int32)))) else some (0 : Int32)) else some (0 : Int32)) := Classical.choose_spec p_X12_isLess_ex a0 a1
set_option maxHeartbeats 4000000 in
set_option maxRecDepth 100000 in
theorem t_X12_isLess (l : Launch) (G : Gt) (a0 : Int32) (a1 : Int32) {r : Int32} (h : p_X12_isLess a0 a1 = some r) : Mt l yX12_isLess cX12_isLess 2 (some .boolean) ({ frames := 1, cells := 0, slots := 0, locals := 24 } : Room) G [.int a0, .int a1] [] (sI G r) := by
  refine Bk.mt (by decide) rfl (Nat.le_of_ble_eq_true rfl) ?_
  intro p e s m below meth c A ls H locs cx hr hlk hA hl hw
  have hx := cx.1
  have hb := cx.2.1
  have hl : lv_has ls 2 [(0, .int a0), (1, .int a1)] := hl
  rw [p_X12_isLess_eq] at h
  refine lv_iload_n hx hb dX12_isLess_0 rfl (lv_at hl 0 rfl) ?_
  refine s_callI (As := [.int a0]) (rest := []) cx hw hA (t_X12_isNan l G a0) ml_X12_291 st_X12_isNan in_X12 co_X12_isNan hd_X12_isNan rfl ⟨(Nat.le_of_ble_eq_true rfl), (Nat.le_of_ble_eq_true rfl)⟩ hl.1 rfl (Nat.le_of_ble_eq_true rfl) dX12_isLess_1 rfl (fun H locs hw => ?_)
  refine lv_if_ne (tgt := 30) hx hb dX12_isLess_4 (by decide) (fun c1 => ?_) (fun c1 => ?_)
  · rw [if_neg c1] at h
    refine lv_iconst (v := 0) hx hb dX12_isLess_30 (by decide) ?_
    exact s_zret cx hr hlk rfl hw (Option.some.inj h) dX12_isLess_31
  · rw [if_pos c1] at h
    refine lv_iload_n hx hb dX12_isLess_7 rfl (lv_at hl 1 rfl) ?_
    refine s_callI (As := [.int a1]) (rest := []) cx hw hA (t_X12_isNan l G a1) ml_X12_291 st_X12_isNan in_X12 co_X12_isNan hd_X12_isNan rfl ⟨(Nat.le_of_ble_eq_true rfl), (Nat.le_of_ble_eq_true rfl)⟩ hl.1 rfl (Nat.le_of_ble_eq_true rfl) dX12_isLess_8 rfl (fun H locs hw => ?_)
    refine lv_if_ne (tgt := 30) hx hb dX12_isLess_11 (by decide) (fun c2 => ?_) (fun c2 => ?_)
    · rw [if_neg c2] at h
      refine lv_iconst (v := 0) hx hb dX12_isLess_30 (by decide) ?_
      exact s_zret cx hr hlk rfl hw (Option.some.inj h) dX12_isLess_31
    · rw [if_pos c2] at h
      refine lv_iload_n hx hb dX12_isLess_14 rfl (lv_at hl 0 rfl) ?_
      obtain ⟨c3, h⟩ := gd_some h
      refine r_i2f cx ml_X12_296 hl.1 (nb_of c3) (Nat.le_of_ble_eq_true rfl) (Nat.le_of_ble_eq_true rfl) dX12_isLess_15 ?_
      refine lv_iload_n hx hb dX12_isLess_18 rfl (lv_at hl 1 rfl) ?_
      obtain ⟨c4, h⟩ := gd_some h
      refine r_i2f cx ml_X12_296 hl.1 (nb_of c4) (Nat.le_of_ble_eq_true rfl) (Nat.le_of_ble_eq_true rfl) dX12_isLess_19 ?_
      refine lv_fcmp hx hb dX12_isLess_22 ?_
      refine lv_if_ge (tgt := 30) hx hb dX12_isLess_23 (by decide) (fun c5 => ?_) (fun c5 => ?_)
      · rw [if_pos c5] at h
        refine lv_iconst (v := 0) hx hb dX12_isLess_30 (by decide) ?_
        exact s_zret cx hr hlk rfl hw (Option.some.inj h) dX12_isLess_31
      · rw [if_neg c5] at h
        refine lv_iconst (v := 1) hx hb dX12_isLess_26 (by decide) ?_
        refine lv_goto (tgt := 31) hx hb dX12_isLess_27 (by decide) ?_
        exact s_zret cx hr hlk rfl hw (Option.some.inj h) dX12_isLess_31

theorem p_X12_isSame_ex : ∃ f : Int32 → Int32 → Option Int32, ∀ (a0 : Int32) (a1 : Int32), f a0 a1 = (if (s_X12_isNan a0) = (0 : Int32) then (if (s_X12_isNan a1) = (0 : Int32) then gd (!vn_sni2f a0) (gd (!vn_sni2f a1) ((if (Op.cmpValue (FP.fcmp (a0.toUInt32) (a1.toUInt32)) CmpOp.l) = (0 : Int32) then some (1 : Int32) else some (0 : Int32)))) else some (0 : Int32)) else some (0 : Int32)) := ⟨fun (a0 : Int32) (a1 : Int32) => (if (s_X12_isNan a0) = (0 : Int32) then (if (s_X12_isNan a1) = (0 : Int32) then gd (!vn_sni2f a0) (gd (!vn_sni2f a1) ((if (Op.cmpValue (FP.fcmp (a0.toUInt32) (a1.toUInt32)) CmpOp.l) = (0 : Int32) then some (1 : Int32) else some (0 : Int32)))) else some (0 : Int32)) else some (0 : Int32)), fun _ _ => rfl⟩
noncomputable def p_X12_isSame : Int32 → Int32 → Option Int32 := Classical.choose p_X12_isSame_ex
theorem p_X12_isSame_eq (a0 : Int32) (a1 : Int32) : p_X12_isSame a0 a1 = (if (s_X12_isNan a0) = (0 : Int32) then (if (s_X12_isNan a1) = (0 : Int32) then gd (!vn_sni2f a0) (gd (!vn_sni2f a1) ((if (Op.cmpValue (FP.fcmp (a0.toUInt32) (a1.toUInt32)) CmpOp.l) = (0 : Int32) then some (1 : Int32) else some (0 : Int32)))) else some (0 : Int32)) else some (0 : Int32)) := Classical.choose_spec p_X12_isSame_ex a0 a1
set_option maxHeartbeats 4000000 in
set_option maxRecDepth 100000 in
theorem t_X12_isSame (l : Launch) (G : Gt) (a0 : Int32) (a1 : Int32) {r : Int32} (h : p_X12_isSame a0 a1 = some r) : Mt l yX12_isSame cX12_isSame 2 (some .boolean) ({ frames := 1, cells := 0, slots := 0, locals := 24 } : Room) G [.int a0, .int a1] [] (sI G r) := by
  refine Bk.mt (by decide) rfl (Nat.le_of_ble_eq_true rfl) ?_
  intro p e s m below meth c A ls H locs cx hr hlk hA hl hw
  have hx := cx.1
  have hb := cx.2.1
  have hl : lv_has ls 2 [(0, .int a0), (1, .int a1)] := hl
  rw [p_X12_isSame_eq] at h
  refine lv_iload_n hx hb dX12_isSame_0 rfl (lv_at hl 0 rfl) ?_
  refine s_callI (As := [.int a0]) (rest := []) cx hw hA (t_X12_isNan l G a0) ml_X12_291 st_X12_isNan in_X12 co_X12_isNan hd_X12_isNan rfl ⟨(Nat.le_of_ble_eq_true rfl), (Nat.le_of_ble_eq_true rfl)⟩ hl.1 rfl (Nat.le_of_ble_eq_true rfl) dX12_isSame_1 rfl (fun H locs hw => ?_)
  refine lv_if_ne (tgt := 30) hx hb dX12_isSame_4 (by decide) (fun c1 => ?_) (fun c1 => ?_)
  · rw [if_neg c1] at h
    refine lv_iconst (v := 0) hx hb dX12_isSame_30 (by decide) ?_
    exact s_zret cx hr hlk rfl hw (Option.some.inj h) dX12_isSame_31
  · rw [if_pos c1] at h
    refine lv_iload_n hx hb dX12_isSame_7 rfl (lv_at hl 1 rfl) ?_
    refine s_callI (As := [.int a1]) (rest := []) cx hw hA (t_X12_isNan l G a1) ml_X12_291 st_X12_isNan in_X12 co_X12_isNan hd_X12_isNan rfl ⟨(Nat.le_of_ble_eq_true rfl), (Nat.le_of_ble_eq_true rfl)⟩ hl.1 rfl (Nat.le_of_ble_eq_true rfl) dX12_isSame_8 rfl (fun H locs hw => ?_)
    refine lv_if_ne (tgt := 30) hx hb dX12_isSame_11 (by decide) (fun c2 => ?_) (fun c2 => ?_)
    · rw [if_neg c2] at h
      refine lv_iconst (v := 0) hx hb dX12_isSame_30 (by decide) ?_
      exact s_zret cx hr hlk rfl hw (Option.some.inj h) dX12_isSame_31
    · rw [if_pos c2] at h
      refine lv_iload_n hx hb dX12_isSame_14 rfl (lv_at hl 0 rfl) ?_
      obtain ⟨c3, h⟩ := gd_some h
      refine r_i2f cx ml_X12_296 hl.1 (nb_of c3) (Nat.le_of_ble_eq_true rfl) (Nat.le_of_ble_eq_true rfl) dX12_isSame_15 ?_
      refine lv_iload_n hx hb dX12_isSame_18 rfl (lv_at hl 1 rfl) ?_
      obtain ⟨c4, h⟩ := gd_some h
      refine r_i2f cx ml_X12_296 hl.1 (nb_of c4) (Nat.le_of_ble_eq_true rfl) (Nat.le_of_ble_eq_true rfl) dX12_isSame_19 ?_
      refine lv_fcmp hx hb dX12_isSame_22 ?_
      refine lv_if_ne (tgt := 30) hx hb dX12_isSame_23 (by decide) (fun c5 => ?_) (fun c5 => ?_)
      · rw [if_neg c5] at h
        refine lv_iconst (v := 0) hx hb dX12_isSame_30 (by decide) ?_
        exact s_zret cx hr hlk rfl hw (Option.some.inj h) dX12_isSame_31
      · rw [if_pos c5] at h
        refine lv_iconst (v := 1) hx hb dX12_isSame_26 (by decide) ?_
        refine lv_goto (tgt := 31) hx hb dX12_isSame_27 (by decide) ?_
        exact s_zret cx hr hlk rfl hw (Option.some.inj h) dX12_isSame_31

theorem p_X12_join_b16_ex : ∃ f : Int32 → Int32 → Int32 → Int32 → Int32 → Int32 → Mem → Option Mem, ∀ (a1 : Int32) (a2 : Int32) (a3 : Int32) (a4 : Int32) (a5 : Int32) (k0 : Int32) (μ : Mem), f a1 a2 a3 a4 a5 k0 μ = (if a1 = (37 : Int32) then bs (p_X12_intOf a4 a5) (fun r35 => (if r35 = (0 : Int32) then bw (p_X12_give (0 : Int32) (0 : Int32) μ) (fun μ41 => some μ41) else bs (p_X12_intOf a2 a3) (fun r37 => gd (!(r35 == 0)) (bw (p_X12_give (0 : Int32) (r37 - r37 / r35 * r35) μ) (fun μ39 => some μ39))))) else (if a1 = (60 : Int32) then (if k0 = (0 : Int32) then (if a5 ≤ a3 then bw (p_X12_give (0 : Int32) (0 : Int32) μ) (fun μ25 => some μ25) else bw (p_X12_give (0 : Int32) (1 : Int32) μ) (fun μ27 => some μ27)) else bs (p_X12_isLess (s_X12_floatOf a2 a3) (s_X12_floatOf a4 a5)) (fun r29 => (if r29 = (0 : Int32) then bw (p_X12_give (0 : Int32) (0 : Int32) μ) (fun μ31 => some μ31) else bw (p_X12_give (0 : Int32) (1 : Int32) μ) (fun μ33 => some μ33)))) else (if a1 = (61 : Int32) then (if k0 = (0 : Int32) then (if a3 = a5 then bw (p_X12_give (0 : Int32) (1 : Int32) μ) (fun μ15 => some μ15) else bw (p_X12_give (0 : Int32) (0 : Int32) μ) (fun μ13 => some μ13)) else bs (p_X12_isSame (s_X12_floatOf a2 a3) (s_X12_floatOf a4 a5)) (fun r17 => (if r17 = (0 : Int32) then bw (p_X12_give (0 : Int32) (0 : Int32) μ) (fun μ19 => some μ19) else bw (p_X12_give (0 : Int32) (1 : Int32) μ) (fun μ21 => some μ21)))) else (if k0 = (0 : Int32) then bw (p_X12_give (0 : Int32) (s_X12_wholes a1 a3 a5) μ) (fun μ6 => some μ6) else bs (p_X12_brokens a1 (s_X12_floatOf a2 a3) (s_X12_floatOf a4 a5)) (fun r8 => bw (p_X12_give (1 : Int32) r8 μ) (fun μ9 => some μ9)))))) := ⟨fun (a1 : Int32) (a2 : Int32) (a3 : Int32) (a4 : Int32) (a5 : Int32) (k0 : Int32) (μ : Mem) => (if a1 = (37 : Int32) then bs (p_X12_intOf a4 a5) (fun r35 => (if r35 = (0 : Int32) then bw (p_X12_give (0 : Int32) (0 : Int32) μ) (fun μ41 => some μ41) else bs (p_X12_intOf a2 a3) (fun r37 => gd (!(r35 == 0)) (bw (p_X12_give (0 : Int32) (r37 - r37 / r35 * r35) μ) (fun μ39 => some μ39))))) else (if a1 = (60 : Int32) then (if k0 = (0 : Int32) then (if a5 ≤ a3 then bw (p_X12_give (0 : Int32) (0 : Int32) μ) (fun μ25 => some μ25) else bw (p_X12_give (0 : Int32) (1 : Int32) μ) (fun μ27 => some μ27)) else bs (p_X12_isLess (s_X12_floatOf a2 a3) (s_X12_floatOf a4 a5)) (fun r29 => (if r29 = (0 : Int32) then bw (p_X12_give (0 : Int32) (0 : Int32) μ) (fun μ31 => some μ31) else bw (p_X12_give (0 : Int32) (1 : Int32) μ) (fun μ33 => some μ33)))) else (if a1 = (61 : Int32) then (if k0 = (0 : Int32) then (if a3 = a5 then bw (p_X12_give (0 : Int32) (1 : Int32) μ) (fun μ15 => some μ15) else bw (p_X12_give (0 : Int32) (0 : Int32) μ) (fun μ13 => some μ13)) else bs (p_X12_isSame (s_X12_floatOf a2 a3) (s_X12_floatOf a4 a5)) (fun r17 => (if r17 = (0 : Int32) then bw (p_X12_give (0 : Int32) (0 : Int32) μ) (fun μ19 => some μ19) else bw (p_X12_give (0 : Int32) (1 : Int32) μ) (fun μ21 => some μ21)))) else (if k0 = (0 : Int32) then bw (p_X12_give (0 : Int32) (s_X12_wholes a1 a3 a5) μ) (fun μ6 => some μ6) else bs (p_X12_brokens a1 (s_X12_floatOf a2 a3) (s_X12_floatOf a4 a5)) (fun r8 => bw (p_X12_give (1 : Int32) r8 μ) (fun μ9 => some μ9)))))), fun _ _ _ _ _ _ _ => rfl⟩
noncomputable def p_X12_join_b16 : Int32 → Int32 → Int32 → Int32 → Int32 → Int32 → Mem → Option Mem := Classical.choose p_X12_join_b16_ex
theorem p_X12_join_b16_eq (a1 : Int32) (a2 : Int32) (a3 : Int32) (a4 : Int32) (a5 : Int32) (k0 : Int32) (μ : Mem) : p_X12_join_b16 a1 a2 a3 a4 a5 k0 μ = (if a1 = (37 : Int32) then bs (p_X12_intOf a4 a5) (fun r35 => (if r35 = (0 : Int32) then bw (p_X12_give (0 : Int32) (0 : Int32) μ) (fun μ41 => some μ41) else bs (p_X12_intOf a2 a3) (fun r37 => gd (!(r35 == 0)) (bw (p_X12_give (0 : Int32) (r37 - r37 / r35 * r35) μ) (fun μ39 => some μ39))))) else (if a1 = (60 : Int32) then (if k0 = (0 : Int32) then (if a5 ≤ a3 then bw (p_X12_give (0 : Int32) (0 : Int32) μ) (fun μ25 => some μ25) else bw (p_X12_give (0 : Int32) (1 : Int32) μ) (fun μ27 => some μ27)) else bs (p_X12_isLess (s_X12_floatOf a2 a3) (s_X12_floatOf a4 a5)) (fun r29 => (if r29 = (0 : Int32) then bw (p_X12_give (0 : Int32) (0 : Int32) μ) (fun μ31 => some μ31) else bw (p_X12_give (0 : Int32) (1 : Int32) μ) (fun μ33 => some μ33)))) else (if a1 = (61 : Int32) then (if k0 = (0 : Int32) then (if a3 = a5 then bw (p_X12_give (0 : Int32) (1 : Int32) μ) (fun μ15 => some μ15) else bw (p_X12_give (0 : Int32) (0 : Int32) μ) (fun μ13 => some μ13)) else bs (p_X12_isSame (s_X12_floatOf a2 a3) (s_X12_floatOf a4 a5)) (fun r17 => (if r17 = (0 : Int32) then bw (p_X12_give (0 : Int32) (0 : Int32) μ) (fun μ19 => some μ19) else bw (p_X12_give (0 : Int32) (1 : Int32) μ) (fun μ21 => some μ21)))) else (if k0 = (0 : Int32) then bw (p_X12_give (0 : Int32) (s_X12_wholes a1 a3 a5) μ) (fun μ6 => some μ6) else bs (p_X12_brokens a1 (s_X12_floatOf a2 a3) (s_X12_floatOf a4 a5)) (fun r8 => bw (p_X12_give (1 : Int32) r8 μ) (fun μ9 => some μ9)))))) := Classical.choose_spec p_X12_join_b16_ex a1 a2 a3 a4 a5 k0 μ
set_option maxHeartbeats 4000000 in
set_option maxRecDepth 100000 in
theorem t_X12_join_b16 (l : Launch) (G : Gt) (ad : Nat → Nat) (av : List Value) {μz : Mem} (a1 : Int32) (a2 : Int32) (a3 : Int32) (a4 : Int32) (a5 : Int32) (k0 : Int32) (μ : Mem) (h : p_X12_join_b16  a1 a2 a3 a4 a5 k0 μ = some μz) : Bk l cX12_join 8 RX12 none ({ frames := 4, cells := 0, slots := 0, locals := 88 } : Room) G av (eV 1 G ad μz) (wd 1 G ad μ) 16 [(0, .ref (ad 0)), (1, .int a1), (2, .int a2), (3, .int a3), (4, .int a4), (5, .int a5)] [.int k0] := by
  intro p e s m below meth c A ls H locs cx hr hlk hA hl hw
  have hx := cx.1
  have hb := cx.2.1
  rw [p_X12_join_b16_eq] at h
  refine lv_istore (lv' := [(6, .int k0), (0, .ref (ad 0)), (1, .int a1), (2, .int a2), (3, .int a3), (4, .int a4), (5, .int a5)]) hx hb dX12_join_16 hl (by decide) rfl (fun ls hl => ?_)
  refine lv_iload_n hx hb dX12_join_18 rfl (lv_at hl 2 rfl) ?_
  refine lv_bipush (v := 37) hx hb dX12_join_19 (by decide) ?_
  refine lv_icmp_ne (tgt := 58) hx hb dX12_join_21 (by decide) (fun c2 => ?_) (fun c2 => ?_)
  · rw [if_neg c2] at h
    refine lv_iload_n hx hb dX12_join_58 rfl (lv_at hl 2 rfl) ?_
    refine lv_bipush (v := 60) hx hb dX12_join_59 (by decide) ?_
    refine lv_icmp_ne (tgt := 109) hx hb dX12_join_61 (by decide) (fun c3 => ?_) (fun c3 => ?_)
    · rw [if_neg c3] at h
      refine lv_iload_n hx hb dX12_join_109 rfl (lv_at hl 2 rfl) ?_
      refine lv_bipush (v := 61) hx hb dX12_join_110 (by decide) ?_
      refine lv_icmp_ne (tgt := 160) hx hb dX12_join_112 (by decide) (fun c4 => ?_) (fun c4 => ?_)
      · rw [if_neg c4] at h
        refine lv_iload hx hb dX12_join_160 (lv_at hl 0 rfl) ?_
        refine lv_if_eq (tgt := 189) hx hb dX12_join_162 (by decide) (fun c5 => ?_) (fun c5 => ?_)
        · rw [if_pos c5] at h
          refine lv_aload_n hx hb dX12_join_189 rfl (lv_at hl 1 rfl) ?_
          refine lv_iconst (v := 0) hx hb dX12_join_190 (by decide) ?_
          refine lv_iload_n hx hb dX12_join_191 rfl (lv_at hl 2 rfl) ?_
          refine lv_iload_n hx hb dX12_join_192 rfl (lv_at hl 4 rfl) ?_
          refine lv_iload hx hb dX12_join_193 (lv_at hl 6 rfl) ?_
          refine s_callI (As := [.int a1, .int a3, .int a5]) (rest := [.int 0, .ref (ad 0)]) cx hw hA (t_X12_wholes l G a1 a3 a5) ml_X12_342 st_X12_wholes in_X12 co_X12_wholes hd_X12_wholes rfl ⟨(Nat.le_of_ble_eq_true rfl), (Nat.le_of_ble_eq_true rfl)⟩ hl.1 rfl (Nat.le_of_ble_eq_true rfl) dX12_join_195 rfl (fun H locs hw => ?_)
          obtain ⟨μ6, gμ6, h⟩ := bw_some h
          refine g_callVV (As := [.int 0, .int (s_X12_wholes a1 a3 a5)]) (rest := []) cx hw hA (t_X12_give l G ad (0 : Int32) (s_X12_wholes a1 a3 a5) μ gμ6) shm_0 rfl ml_X12_324 im_X12_give se_X12_give in_X12 co_X12_give rfl hd_X12_give rfl ⟨(Nat.le_of_ble_eq_true rfl), (Nat.le_of_ble_eq_true rfl)⟩ hl.1 rfl (Nat.le_of_ble_eq_true rfl) dX12_join_198 ⟨rfl, rfl⟩ (fun H locs hw => ?_)
          exact g_vret cx hr hlk hw h dX12_join_201
        · rw [if_neg c5] at h
          refine lv_aload_n hx hb dX12_join_165 rfl (lv_at hl 1 rfl) ?_
          refine lv_iconst (v := 1) hx hb dX12_join_166 (by decide) ?_
          refine lv_iload_n hx hb dX12_join_167 rfl (lv_at hl 2 rfl) ?_
          refine lv_iload_n hx hb dX12_join_168 rfl (lv_at hl 3 rfl) ?_
          refine lv_iload_n hx hb dX12_join_169 rfl (lv_at hl 4 rfl) ?_
          refine s_callI (As := [.int a2, .int a3]) (rest := [.int a1, .int 1, .ref (ad 0)]) cx hw hA (t_X12_floatOf l G a2 a3) ml_X12_328 st_X12_floatOf in_X12 co_X12_floatOf hd_X12_floatOf rfl ⟨(Nat.le_of_ble_eq_true rfl), (Nat.le_of_ble_eq_true rfl)⟩ hl.1 rfl (Nat.le_of_ble_eq_true rfl) dX12_join_170 rfl (fun H locs hw => ?_)
          refine lv_iload hx hb dX12_join_173 (lv_at hl 5 rfl) ?_
          refine lv_iload hx hb dX12_join_175 (lv_at hl 6 rfl) ?_
          refine s_callI (As := [.int a4, .int a5]) (rest := [.int (s_X12_floatOf a2 a3), .int a1, .int 1, .ref (ad 0)]) cx hw hA (t_X12_floatOf l G a4 a5) ml_X12_328 st_X12_floatOf in_X12 co_X12_floatOf hd_X12_floatOf rfl ⟨(Nat.le_of_ble_eq_true rfl), (Nat.le_of_ble_eq_true rfl)⟩ hl.1 rfl (Nat.le_of_ble_eq_true rfl) dX12_join_177 rfl (fun H locs hw => ?_)
          obtain ⟨r8, gr8, h⟩ := bs_some h
          refine s_callI (As := [.int a1, .int (s_X12_floatOf a2 a3), .int (s_X12_floatOf a4 a5)]) (rest := [.int 1, .ref (ad 0)]) cx hw hA (t_X12_brokens l G a1 (s_X12_floatOf a2 a3) (s_X12_floatOf a4 a5) gr8) ml_X12_338 st_X12_brokens in_X12 co_X12_brokens hd_X12_brokens rfl ⟨(Nat.le_of_ble_eq_true rfl), (Nat.le_of_ble_eq_true rfl)⟩ hl.1 rfl (Nat.le_of_ble_eq_true rfl) dX12_join_180 rfl (fun H locs hw => ?_)
          obtain ⟨μ9, gμ9, h⟩ := bw_some h
          refine g_callVV (As := [.int 1, .int r8]) (rest := []) cx hw hA (t_X12_give l G ad (1 : Int32) r8 μ gμ9) shm_0 rfl ml_X12_324 im_X12_give se_X12_give in_X12 co_X12_give rfl hd_X12_give rfl ⟨(Nat.le_of_ble_eq_true rfl), (Nat.le_of_ble_eq_true rfl)⟩ hl.1 rfl (Nat.le_of_ble_eq_true rfl) dX12_join_183 ⟨rfl, rfl⟩ (fun H locs hw => ?_)
          refine lv_goto (tgt := 201) hx hb dX12_join_186 (by decide) ?_
          exact g_vret cx hr hlk hw h dX12_join_201
      · rw [if_pos c4] at h
        refine lv_aload_n hx hb dX12_join_115 rfl (lv_at hl 1 rfl) ?_
        refine lv_iconst (v := 0) hx hb dX12_join_116 (by decide) ?_
        refine lv_iload hx hb dX12_join_117 (lv_at hl 0 rfl) ?_
        refine lv_if_eq (tgt := 143) hx hb dX12_join_119 (by decide) (fun c11 => ?_) (fun c11 => ?_)
        · rw [if_pos c11] at h
          refine lv_iload_n hx hb dX12_join_143 rfl (lv_at hl 4 rfl) ?_
          refine lv_iload hx hb dX12_join_144 (lv_at hl 6 rfl) ?_
          refine lv_icmp_ne (tgt := 153) hx hb dX12_join_146 (by decide) (fun c12 => ?_) (fun c12 => ?_)
          · rw [if_neg c12] at h
            refine lv_iconst (v := 0) hx hb dX12_join_153 (by decide) ?_
            obtain ⟨μ13, gμ13, h⟩ := bw_some h
            refine g_callVV (As := [.int 0, .int 0]) (rest := []) cx hw hA (t_X12_give l G ad (0 : Int32) (0 : Int32) μ gμ13) shm_0 rfl ml_X12_324 im_X12_give se_X12_give in_X12 co_X12_give rfl hd_X12_give rfl ⟨(Nat.le_of_ble_eq_true rfl), (Nat.le_of_ble_eq_true rfl)⟩ hl.1 rfl (Nat.le_of_ble_eq_true rfl) dX12_join_154 ⟨rfl, rfl⟩ (fun H locs hw => ?_)
            refine lv_goto (tgt := 201) hx hb dX12_join_157 (by decide) ?_
            exact g_vret cx hr hlk hw h dX12_join_201
          · rw [if_pos c12] at h
            refine lv_iconst (v := 1) hx hb dX12_join_149 (by decide) ?_
            refine lv_goto (tgt := 154) hx hb dX12_join_150 (by decide) ?_
            obtain ⟨μ15, gμ15, h⟩ := bw_some h
            refine g_callVV (As := [.int 0, .int 1]) (rest := []) cx hw hA (t_X12_give l G ad (0 : Int32) (1 : Int32) μ gμ15) shm_0 rfl ml_X12_324 im_X12_give se_X12_give in_X12 co_X12_give rfl hd_X12_give rfl ⟨(Nat.le_of_ble_eq_true rfl), (Nat.le_of_ble_eq_true rfl)⟩ hl.1 rfl (Nat.le_of_ble_eq_true rfl) dX12_join_154 ⟨rfl, rfl⟩ (fun H locs hw => ?_)
            refine lv_goto (tgt := 201) hx hb dX12_join_157 (by decide) ?_
            exact g_vret cx hr hlk hw h dX12_join_201
        · rw [if_neg c11] at h
          refine lv_iload_n hx hb dX12_join_122 rfl (lv_at hl 3 rfl) ?_
          refine lv_iload_n hx hb dX12_join_123 rfl (lv_at hl 4 rfl) ?_
          refine s_callI (As := [.int a2, .int a3]) (rest := [.int 0, .ref (ad 0)]) cx hw hA (t_X12_floatOf l G a2 a3) ml_X12_328 st_X12_floatOf in_X12 co_X12_floatOf hd_X12_floatOf rfl ⟨(Nat.le_of_ble_eq_true rfl), (Nat.le_of_ble_eq_true rfl)⟩ hl.1 rfl (Nat.le_of_ble_eq_true rfl) dX12_join_124 rfl (fun H locs hw => ?_)
          refine lv_iload hx hb dX12_join_127 (lv_at hl 5 rfl) ?_
          refine lv_iload hx hb dX12_join_129 (lv_at hl 6 rfl) ?_
          refine s_callI (As := [.int a4, .int a5]) (rest := [.int (s_X12_floatOf a2 a3), .int 0, .ref (ad 0)]) cx hw hA (t_X12_floatOf l G a4 a5) ml_X12_328 st_X12_floatOf in_X12 co_X12_floatOf hd_X12_floatOf rfl ⟨(Nat.le_of_ble_eq_true rfl), (Nat.le_of_ble_eq_true rfl)⟩ hl.1 rfl (Nat.le_of_ble_eq_true rfl) dX12_join_131 rfl (fun H locs hw => ?_)
          obtain ⟨r17, gr17, h⟩ := bs_some h
          refine s_callI (As := [.int (s_X12_floatOf a2 a3), .int (s_X12_floatOf a4 a5)]) (rest := [.int 0, .ref (ad 0)]) cx hw hA (t_X12_isSame l G (s_X12_floatOf a2 a3) (s_X12_floatOf a4 a5) gr17) ml_X12_335 st_X12_isSame in_X12 co_X12_isSame hd_X12_isSame rfl ⟨(Nat.le_of_ble_eq_true rfl), (Nat.le_of_ble_eq_true rfl)⟩ hl.1 rfl (Nat.le_of_ble_eq_true rfl) dX12_join_134 rfl (fun H locs hw => ?_)
          refine lv_if_eq (tgt := 153) hx hb dX12_join_137 (by decide) (fun c18 => ?_) (fun c18 => ?_)
          · rw [if_pos c18] at h
            refine lv_iconst (v := 0) hx hb dX12_join_153 (by decide) ?_
            obtain ⟨μ19, gμ19, h⟩ := bw_some h
            refine g_callVV (As := [.int 0, .int 0]) (rest := []) cx hw hA (t_X12_give l G ad (0 : Int32) (0 : Int32) μ gμ19) shm_0 rfl ml_X12_324 im_X12_give se_X12_give in_X12 co_X12_give rfl hd_X12_give rfl ⟨(Nat.le_of_ble_eq_true rfl), (Nat.le_of_ble_eq_true rfl)⟩ hl.1 rfl (Nat.le_of_ble_eq_true rfl) dX12_join_154 ⟨rfl, rfl⟩ (fun H locs hw => ?_)
            refine lv_goto (tgt := 201) hx hb dX12_join_157 (by decide) ?_
            exact g_vret cx hr hlk hw h dX12_join_201
          · rw [if_neg c18] at h
            refine lv_goto (tgt := 149) hx hb dX12_join_140 (by decide) ?_
            refine lv_iconst (v := 1) hx hb dX12_join_149 (by decide) ?_
            refine lv_goto (tgt := 154) hx hb dX12_join_150 (by decide) ?_
            obtain ⟨μ21, gμ21, h⟩ := bw_some h
            refine g_callVV (As := [.int 0, .int 1]) (rest := []) cx hw hA (t_X12_give l G ad (0 : Int32) (1 : Int32) μ gμ21) shm_0 rfl ml_X12_324 im_X12_give se_X12_give in_X12 co_X12_give rfl hd_X12_give rfl ⟨(Nat.le_of_ble_eq_true rfl), (Nat.le_of_ble_eq_true rfl)⟩ hl.1 rfl (Nat.le_of_ble_eq_true rfl) dX12_join_154 ⟨rfl, rfl⟩ (fun H locs hw => ?_)
            refine lv_goto (tgt := 201) hx hb dX12_join_157 (by decide) ?_
            exact g_vret cx hr hlk hw h dX12_join_201
    · rw [if_pos c3] at h
      refine lv_aload_n hx hb dX12_join_64 rfl (lv_at hl 1 rfl) ?_
      refine lv_iconst (v := 0) hx hb dX12_join_65 (by decide) ?_
      refine lv_iload hx hb dX12_join_66 (lv_at hl 0 rfl) ?_
      refine lv_if_eq (tgt := 92) hx hb dX12_join_68 (by decide) (fun c23 => ?_) (fun c23 => ?_)
      · rw [if_pos c23] at h
        refine lv_iload_n hx hb dX12_join_92 rfl (lv_at hl 4 rfl) ?_
        refine lv_iload hx hb dX12_join_93 (lv_at hl 6 rfl) ?_
        refine lv_icmp_ge (tgt := 102) hx hb dX12_join_95 (by decide) (fun c24 => ?_) (fun c24 => ?_)
        · rw [if_pos c24] at h
          refine lv_iconst (v := 0) hx hb dX12_join_102 (by decide) ?_
          obtain ⟨μ25, gμ25, h⟩ := bw_some h
          refine g_callVV (As := [.int 0, .int 0]) (rest := []) cx hw hA (t_X12_give l G ad (0 : Int32) (0 : Int32) μ gμ25) shm_0 rfl ml_X12_324 im_X12_give se_X12_give in_X12 co_X12_give rfl hd_X12_give rfl ⟨(Nat.le_of_ble_eq_true rfl), (Nat.le_of_ble_eq_true rfl)⟩ hl.1 rfl (Nat.le_of_ble_eq_true rfl) dX12_join_103 ⟨rfl, rfl⟩ (fun H locs hw => ?_)
          refine lv_goto (tgt := 201) hx hb dX12_join_106 (by decide) ?_
          exact g_vret cx hr hlk hw h dX12_join_201
        · rw [if_neg c24] at h
          refine lv_iconst (v := 1) hx hb dX12_join_98 (by decide) ?_
          refine lv_goto (tgt := 103) hx hb dX12_join_99 (by decide) ?_
          obtain ⟨μ27, gμ27, h⟩ := bw_some h
          refine g_callVV (As := [.int 0, .int 1]) (rest := []) cx hw hA (t_X12_give l G ad (0 : Int32) (1 : Int32) μ gμ27) shm_0 rfl ml_X12_324 im_X12_give se_X12_give in_X12 co_X12_give rfl hd_X12_give rfl ⟨(Nat.le_of_ble_eq_true rfl), (Nat.le_of_ble_eq_true rfl)⟩ hl.1 rfl (Nat.le_of_ble_eq_true rfl) dX12_join_103 ⟨rfl, rfl⟩ (fun H locs hw => ?_)
          refine lv_goto (tgt := 201) hx hb dX12_join_106 (by decide) ?_
          exact g_vret cx hr hlk hw h dX12_join_201
      · rw [if_neg c23] at h
        refine lv_iload_n hx hb dX12_join_71 rfl (lv_at hl 3 rfl) ?_
        refine lv_iload_n hx hb dX12_join_72 rfl (lv_at hl 4 rfl) ?_
        refine s_callI (As := [.int a2, .int a3]) (rest := [.int 0, .ref (ad 0)]) cx hw hA (t_X12_floatOf l G a2 a3) ml_X12_328 st_X12_floatOf in_X12 co_X12_floatOf hd_X12_floatOf rfl ⟨(Nat.le_of_ble_eq_true rfl), (Nat.le_of_ble_eq_true rfl)⟩ hl.1 rfl (Nat.le_of_ble_eq_true rfl) dX12_join_73 rfl (fun H locs hw => ?_)
        refine lv_iload hx hb dX12_join_76 (lv_at hl 5 rfl) ?_
        refine lv_iload hx hb dX12_join_78 (lv_at hl 6 rfl) ?_
        refine s_callI (As := [.int a4, .int a5]) (rest := [.int (s_X12_floatOf a2 a3), .int 0, .ref (ad 0)]) cx hw hA (t_X12_floatOf l G a4 a5) ml_X12_328 st_X12_floatOf in_X12 co_X12_floatOf hd_X12_floatOf rfl ⟨(Nat.le_of_ble_eq_true rfl), (Nat.le_of_ble_eq_true rfl)⟩ hl.1 rfl (Nat.le_of_ble_eq_true rfl) dX12_join_80 rfl (fun H locs hw => ?_)
        obtain ⟨r29, gr29, h⟩ := bs_some h
        refine s_callI (As := [.int (s_X12_floatOf a2 a3), .int (s_X12_floatOf a4 a5)]) (rest := [.int 0, .ref (ad 0)]) cx hw hA (t_X12_isLess l G (s_X12_floatOf a2 a3) (s_X12_floatOf a4 a5) gr29) ml_X12_331 st_X12_isLess in_X12 co_X12_isLess hd_X12_isLess rfl ⟨(Nat.le_of_ble_eq_true rfl), (Nat.le_of_ble_eq_true rfl)⟩ hl.1 rfl (Nat.le_of_ble_eq_true rfl) dX12_join_83 rfl (fun H locs hw => ?_)
        refine lv_if_eq (tgt := 102) hx hb dX12_join_86 (by decide) (fun c30 => ?_) (fun c30 => ?_)
        · rw [if_pos c30] at h
          refine lv_iconst (v := 0) hx hb dX12_join_102 (by decide) ?_
          obtain ⟨μ31, gμ31, h⟩ := bw_some h
          refine g_callVV (As := [.int 0, .int 0]) (rest := []) cx hw hA (t_X12_give l G ad (0 : Int32) (0 : Int32) μ gμ31) shm_0 rfl ml_X12_324 im_X12_give se_X12_give in_X12 co_X12_give rfl hd_X12_give rfl ⟨(Nat.le_of_ble_eq_true rfl), (Nat.le_of_ble_eq_true rfl)⟩ hl.1 rfl (Nat.le_of_ble_eq_true rfl) dX12_join_103 ⟨rfl, rfl⟩ (fun H locs hw => ?_)
          refine lv_goto (tgt := 201) hx hb dX12_join_106 (by decide) ?_
          exact g_vret cx hr hlk hw h dX12_join_201
        · rw [if_neg c30] at h
          refine lv_goto (tgt := 98) hx hb dX12_join_89 (by decide) ?_
          refine lv_iconst (v := 1) hx hb dX12_join_98 (by decide) ?_
          refine lv_goto (tgt := 103) hx hb dX12_join_99 (by decide) ?_
          obtain ⟨μ33, gμ33, h⟩ := bw_some h
          refine g_callVV (As := [.int 0, .int 1]) (rest := []) cx hw hA (t_X12_give l G ad (0 : Int32) (1 : Int32) μ gμ33) shm_0 rfl ml_X12_324 im_X12_give se_X12_give in_X12 co_X12_give rfl hd_X12_give rfl ⟨(Nat.le_of_ble_eq_true rfl), (Nat.le_of_ble_eq_true rfl)⟩ hl.1 rfl (Nat.le_of_ble_eq_true rfl) dX12_join_103 ⟨rfl, rfl⟩ (fun H locs hw => ?_)
          refine lv_goto (tgt := 201) hx hb dX12_join_106 (by decide) ?_
          exact g_vret cx hr hlk hw h dX12_join_201
  · rw [if_pos c2] at h
    refine lv_iload hx hb dX12_join_24 (lv_at hl 5 rfl) ?_
    refine lv_iload hx hb dX12_join_26 (lv_at hl 6 rfl) ?_
    obtain ⟨r35, gr35, h⟩ := bs_some h
    refine s_callI (As := [.int a4, .int a5]) (rest := []) cx hw hA (t_X12_intOf l G a4 a5 gr35) ml_X12_320 st_X12_intOf in_X12 co_X12_intOf hd_X12_intOf rfl ⟨(Nat.le_of_ble_eq_true rfl), (Nat.le_of_ble_eq_true rfl)⟩ hl.1 rfl (Nat.le_of_ble_eq_true rfl) dX12_join_28 rfl (fun H locs hw => ?_)
    refine lv_istore (lv' := [(7, .int r35), (6, .int k0), (0, .ref (ad 0)), (1, .int a1), (2, .int a2), (3, .int a3), (4, .int a4), (5, .int a5)]) hx hb dX12_join_31 hl (by decide) rfl (fun ls hl => ?_)
    refine lv_aload_n hx hb dX12_join_33 rfl (lv_at hl 2 rfl) ?_
    refine lv_iconst (v := 0) hx hb dX12_join_34 (by decide) ?_
    refine lv_iload hx hb dX12_join_35 (lv_at hl 0 rfl) ?_
    refine lv_if_ne (tgt := 44) hx hb dX12_join_37 (by decide) (fun c36 => ?_) (fun c36 => ?_)
    · rw [if_neg c36] at h
      refine lv_iload_n hx hb dX12_join_44 rfl (lv_at hl 4 rfl) ?_
      refine lv_iload_n hx hb dX12_join_45 rfl (lv_at hl 5 rfl) ?_
      obtain ⟨r37, gr37, h⟩ := bs_some h
      refine s_callI (As := [.int a2, .int a3]) (rest := [.int 0, .ref (ad 0)]) cx hw hA (t_X12_intOf l G a2 a3 gr37) ml_X12_320 st_X12_intOf in_X12 co_X12_intOf hd_X12_intOf rfl ⟨(Nat.le_of_ble_eq_true rfl), (Nat.le_of_ble_eq_true rfl)⟩ hl.1 rfl (Nat.le_of_ble_eq_true rfl) dX12_join_46 rfl (fun H locs hw => ?_)
      refine lv_iload hx hb dX12_join_49 (lv_at hl 0 rfl) ?_
      obtain ⟨c38, h⟩ := gd_some h
      refine lv_irem hx hb dX12_join_51 (nz_of c38) ?_
      obtain ⟨μ39, gμ39, h⟩ := bw_some h
      refine g_callVV (As := [.int 0, .int (r37 - r37 / r35 * r35)]) (rest := []) cx hw hA (t_X12_give l G ad (0 : Int32) (r37 - r37 / r35 * r35) μ gμ39) shm_0 rfl ml_X12_324 im_X12_give se_X12_give in_X12 co_X12_give rfl hd_X12_give rfl ⟨(Nat.le_of_ble_eq_true rfl), (Nat.le_of_ble_eq_true rfl)⟩ hl.1 rfl (Nat.le_of_ble_eq_true rfl) dX12_join_52 ⟨rfl, rfl⟩ (fun H locs hw => ?_)
      refine lv_goto (tgt := 201) hx hb dX12_join_55 (by decide) ?_
      exact g_vret cx hr hlk hw h dX12_join_201
    · rw [if_pos c36] at h
      refine lv_iconst (v := 0) hx hb dX12_join_40 (by decide) ?_
      refine lv_goto (tgt := 52) hx hb dX12_join_41 (by decide) ?_
      obtain ⟨μ41, gμ41, h⟩ := bw_some h
      refine g_callVV (As := [.int 0, .int 0]) (rest := []) cx hw hA (t_X12_give l G ad (0 : Int32) (0 : Int32) μ gμ41) shm_0 rfl ml_X12_324 im_X12_give se_X12_give in_X12 co_X12_give rfl hd_X12_give rfl ⟨(Nat.le_of_ble_eq_true rfl), (Nat.le_of_ble_eq_true rfl)⟩ hl.1 rfl (Nat.le_of_ble_eq_true rfl) dX12_join_52 ⟨rfl, rfl⟩ (fun H locs hw => ?_)
      refine lv_goto (tgt := 201) hx hb dX12_join_55 (by decide) ?_
      exact g_vret cx hr hlk hw h dX12_join_201
theorem p_X12_join_b11_ex : ∃ f : Int32 → Int32 → Int32 → Int32 → Int32 → Mem → Option Mem, ∀ (a1 : Int32) (a2 : Int32) (a3 : Int32) (a4 : Int32) (a5 : Int32) (μ : Mem), f a1 a2 a3 a4 a5 μ = p_X12_join_b16  a1 a2 a3 a4 a5 (1 : Int32) μ := ⟨fun (a1 : Int32) (a2 : Int32) (a3 : Int32) (a4 : Int32) (a5 : Int32) (μ : Mem) => p_X12_join_b16  a1 a2 a3 a4 a5 (1 : Int32) μ, fun _ _ _ _ _ _ => rfl⟩
noncomputable def p_X12_join_b11 : Int32 → Int32 → Int32 → Int32 → Int32 → Mem → Option Mem := Classical.choose p_X12_join_b11_ex
theorem p_X12_join_b11_eq (a1 : Int32) (a2 : Int32) (a3 : Int32) (a4 : Int32) (a5 : Int32) (μ : Mem) : p_X12_join_b11 a1 a2 a3 a4 a5 μ = p_X12_join_b16  a1 a2 a3 a4 a5 (1 : Int32) μ := Classical.choose_spec p_X12_join_b11_ex a1 a2 a3 a4 a5 μ
set_option maxHeartbeats 4000000 in
set_option maxRecDepth 100000 in
theorem t_X12_join_b11 (l : Launch) (G : Gt) (ad : Nat → Nat) (av : List Value) {μz : Mem} (a1 : Int32) (a2 : Int32) (a3 : Int32) (a4 : Int32) (a5 : Int32) (μ : Mem) (h : p_X12_join_b11  a1 a2 a3 a4 a5 μ = some μz) : Bk l cX12_join 8 RX12 none ({ frames := 4, cells := 0, slots := 0, locals := 88 } : Room) G av (eV 1 G ad μz) (wd 1 G ad μ) 11 [(0, .ref (ad 0)), (1, .int a1), (2, .int a2), (3, .int a3), (4, .int a4), (5, .int a5)] [] := by
  intro p e s m below meth c A ls H locs cx hr hlk hA hl hw
  have hx := cx.1
  have hb := cx.2.1
  rw [p_X12_join_b11_eq] at h
  refine lv_iconst (v := 1) hx hb dX12_join_11 (by decide) ?_
  refine lv_goto (tgt := 16) hx hb dX12_join_12 (by decide) ?_
  exact t_X12_join_b16 l G ad av  a1 a2 a3 a4 a5 (1 : Int32) μ h p e s m below meth c A ls H locs cx hr hlk hA (lv_sub hl [0, 1, 2, 3, 4, 5] rfl) hw
theorem p_X12_join_ex : ∃ f : Int32 → Int32 → Int32 → Int32 → Int32 → Mem → Option Mem, ∀ (a1 : Int32) (a2 : Int32) (a3 : Int32) (a4 : Int32) (a5 : Int32) (μ : Mem), f a1 a2 a3 a4 a5 μ = (if a2 = (1 : Int32) then p_X12_join_b11  a1 a2 a3 a4 a5 μ else (if a4 = (1 : Int32) then p_X12_join_b11  a1 a2 a3 a4 a5 μ else p_X12_join_b16  a1 a2 a3 a4 a5 (0 : Int32) μ)) := ⟨fun (a1 : Int32) (a2 : Int32) (a3 : Int32) (a4 : Int32) (a5 : Int32) (μ : Mem) => (if a2 = (1 : Int32) then p_X12_join_b11  a1 a2 a3 a4 a5 μ else (if a4 = (1 : Int32) then p_X12_join_b11  a1 a2 a3 a4 a5 μ else p_X12_join_b16  a1 a2 a3 a4 a5 (0 : Int32) μ)), fun _ _ _ _ _ _ => rfl⟩
noncomputable def p_X12_join : Int32 → Int32 → Int32 → Int32 → Int32 → Mem → Option Mem := Classical.choose p_X12_join_ex
theorem p_X12_join_eq (a1 : Int32) (a2 : Int32) (a3 : Int32) (a4 : Int32) (a5 : Int32) (μ : Mem) : p_X12_join a1 a2 a3 a4 a5 μ = (if a2 = (1 : Int32) then p_X12_join_b11  a1 a2 a3 a4 a5 μ else (if a4 = (1 : Int32) then p_X12_join_b11  a1 a2 a3 a4 a5 μ else p_X12_join_b16  a1 a2 a3 a4 a5 (0 : Int32) μ)) := Classical.choose_spec p_X12_join_ex a1 a2 a3 a4 a5 μ
set_option maxHeartbeats 4000000 in
set_option maxRecDepth 100000 in
theorem t_X12_join (l : Launch) (G : Gt) (ad : Nat → Nat) (a1 : Int32) (a2 : Int32) (a3 : Int32) (a4 : Int32) (a5 : Int32) (μ : Mem) {μz : Mem} (h : p_X12_join a1 a2 a3 a4 a5 μ = some μz) : Mt l yX12_join cX12_join 8 none ({ frames := 4, cells := 0, slots := 0, locals := 88 } : Room) G [.ref (ad 0), .int a1, .int a2, .int a3, .int a4, .int a5] (wd 1 G ad μ) (eV 1 G ad μz) := by
  refine Bk.mt (by decide) rfl (Nat.le_of_ble_eq_true rfl) ?_
  intro p e s m below meth c A ls H locs cx hr hlk hA hl hw
  have hx := cx.1
  have hb := cx.2.1
  have hl : lv_has ls 8 [(0, .ref (ad 0)), (1, .int a1), (2, .int a2), (3, .int a3), (4, .int a4), (5, .int a5)] := hl
  rw [p_X12_join_eq] at h
  refine lv_iload_n hx hb dX12_join_0 rfl (lv_at hl 2 rfl) ?_
  refine lv_iconst (v := 1) hx hb dX12_join_1 (by decide) ?_
  refine lv_icmp_eq (tgt := 11) hx hb dX12_join_2 (by decide) (fun c1 => ?_) (fun c1 => ?_)
  · rw [if_pos c1] at h
    exact t_X12_join_b11 l G ad _  a1 a2 a3 a4 a5 μ h p e s m below meth c A ls H locs cx hr hlk hA (lv_sub hl [0, 1, 2, 3, 4, 5] rfl) hw
  · rw [if_neg c1] at h
    refine lv_iload hx hb dX12_join_5 (lv_at hl 4 rfl) ?_
    refine lv_iconst (v := 1) hx hb dX12_join_7 (by decide) ?_
    refine lv_icmp_ne (tgt := 15) hx hb dX12_join_8 (by decide) (fun c43 => ?_) (fun c43 => ?_)
    · rw [if_neg c43] at h
      refine lv_iconst (v := 0) hx hb dX12_join_15 (by decide) ?_
      exact t_X12_join_b16 l G ad _  a1 a2 a3 a4 a5 (0 : Int32) μ h p e s m below meth c A ls H locs cx hr hlk hA (lv_sub hl [0, 1, 2, 3, 4, 5] rfl) hw
    · rw [if_pos c43] at h
      exact t_X12_join_b11 l G ad _  a1 a2 a3 a4 a5 μ h p e s m below meth c A ls H locs cx hr hlk hA (lv_sub hl [0, 1, 2, 3, 4, 5] rfl) hw

theorem p_X12_turn_ex : ∃ f : Int32 → Int32 → Int32 → Mem → Option Mem, ∀ (a1 : Int32) (a2 : Int32) (a3 : Int32) (μ : Mem), f a1 a2 a3 μ = (if a1 = (0 : Int32) then bs (p_X12_intOf a2 a3) (fun r7 => bw (p_X12_give (0 : Int32) r7 μ) (fun μ8 => some μ8)) else (if a1 = (1 : Int32) then bw (p_X12_give (1 : Int32) (s_X12_floatOf a2 a3) μ) (fun μ5 => some μ5) else bw (p_X12_give (0 : Int32) (s_X12_floatOf a2 a3) μ) (fun μ3 => some μ3))) := ⟨fun (a1 : Int32) (a2 : Int32) (a3 : Int32) (μ : Mem) => (if a1 = (0 : Int32) then bs (p_X12_intOf a2 a3) (fun r7 => bw (p_X12_give (0 : Int32) r7 μ) (fun μ8 => some μ8)) else (if a1 = (1 : Int32) then bw (p_X12_give (1 : Int32) (s_X12_floatOf a2 a3) μ) (fun μ5 => some μ5) else bw (p_X12_give (0 : Int32) (s_X12_floatOf a2 a3) μ) (fun μ3 => some μ3))), fun _ _ _ _ => rfl⟩
noncomputable def p_X12_turn : Int32 → Int32 → Int32 → Mem → Option Mem := Classical.choose p_X12_turn_ex
theorem p_X12_turn_eq (a1 : Int32) (a2 : Int32) (a3 : Int32) (μ : Mem) : p_X12_turn a1 a2 a3 μ = (if a1 = (0 : Int32) then bs (p_X12_intOf a2 a3) (fun r7 => bw (p_X12_give (0 : Int32) r7 μ) (fun μ8 => some μ8)) else (if a1 = (1 : Int32) then bw (p_X12_give (1 : Int32) (s_X12_floatOf a2 a3) μ) (fun μ5 => some μ5) else bw (p_X12_give (0 : Int32) (s_X12_floatOf a2 a3) μ) (fun μ3 => some μ3))) := Classical.choose_spec p_X12_turn_ex a1 a2 a3 μ
set_option maxHeartbeats 4000000 in
set_option maxRecDepth 100000 in
theorem t_X12_turn (l : Launch) (G : Gt) (ad : Nat → Nat) (a1 : Int32) (a2 : Int32) (a3 : Int32) (μ : Mem) {μz : Mem} (h : p_X12_turn a1 a2 a3 μ = some μz) : Mt l yX12_turn cX12_turn 4 none ({ frames := 4, cells := 0, slots := 0, locals := 85 } : Room) G [.ref (ad 0), .int a1, .int a2, .int a3] (wd 1 G ad μ) (eV 1 G ad μz) := by
  refine Bk.mt (by decide) rfl (Nat.le_of_ble_eq_true rfl) ?_
  intro p e s m below meth c A ls H locs cx hr hlk hA hl hw
  have hx := cx.1
  have hb := cx.2.1
  have hl : lv_has ls 4 [(0, .ref (ad 0)), (1, .int a1), (2, .int a2), (3, .int a3)] := hl
  rw [p_X12_turn_eq] at h
  refine lv_iload_n hx hb dX12_turn_0 rfl (lv_at hl 1 rfl) ?_
  refine lv_if_ne (tgt := 17) hx hb dX12_turn_1 (by decide) (fun c1 => ?_) (fun c1 => ?_)
  · rw [if_neg c1] at h
    refine lv_aload_n hx hb dX12_turn_17 rfl (lv_at hl 0 rfl) ?_
    refine lv_iload_n hx hb dX12_turn_18 rfl (lv_at hl 1 rfl) ?_
    refine lv_iconst (v := 1) hx hb dX12_turn_19 (by decide) ?_
    refine lv_icmp_ne (tgt := 27) hx hb dX12_turn_20 (by decide) (fun c2 => ?_) (fun c2 => ?_)
    · rw [if_neg c2] at h
      refine lv_iconst (v := 0) hx hb dX12_turn_27 (by decide) ?_
      refine lv_iload_n hx hb dX12_turn_28 rfl (lv_at hl 2 rfl) ?_
      refine lv_iload_n hx hb dX12_turn_29 rfl (lv_at hl 3 rfl) ?_
      refine s_callI (As := [.int a2, .int a3]) (rest := [.int 0, .ref (ad 0)]) cx hw hA (t_X12_floatOf l G a2 a3) ml_X12_328 st_X12_floatOf in_X12 co_X12_floatOf hd_X12_floatOf rfl ⟨(Nat.le_of_ble_eq_true rfl), (Nat.le_of_ble_eq_true rfl)⟩ hl.1 rfl (Nat.le_of_ble_eq_true rfl) dX12_turn_30 rfl (fun H locs hw => ?_)
      obtain ⟨μ3, gμ3, h⟩ := bw_some h
      refine g_callVV (As := [.int 0, .int (s_X12_floatOf a2 a3)]) (rest := []) cx hw hA (t_X12_give l G ad (0 : Int32) (s_X12_floatOf a2 a3) μ gμ3) shm_0 rfl ml_X12_324 im_X12_give se_X12_give in_X12 co_X12_give rfl hd_X12_give rfl ⟨(Nat.le_of_ble_eq_true rfl), (Nat.le_of_ble_eq_true rfl)⟩ hl.1 rfl (Nat.le_of_ble_eq_true rfl) dX12_turn_33 ⟨rfl, rfl⟩ (fun H locs hw => ?_)
      exact g_vret cx hr hlk hw h dX12_turn_36
    · rw [if_pos c2] at h
      refine lv_iconst (v := 1) hx hb dX12_turn_23 (by decide) ?_
      refine lv_goto (tgt := 28) hx hb dX12_turn_24 (by decide) ?_
      refine lv_iload_n hx hb dX12_turn_28 rfl (lv_at hl 2 rfl) ?_
      refine lv_iload_n hx hb dX12_turn_29 rfl (lv_at hl 3 rfl) ?_
      refine s_callI (As := [.int a2, .int a3]) (rest := [.int 1, .ref (ad 0)]) cx hw hA (t_X12_floatOf l G a2 a3) ml_X12_328 st_X12_floatOf in_X12 co_X12_floatOf hd_X12_floatOf rfl ⟨(Nat.le_of_ble_eq_true rfl), (Nat.le_of_ble_eq_true rfl)⟩ hl.1 rfl (Nat.le_of_ble_eq_true rfl) dX12_turn_30 rfl (fun H locs hw => ?_)
      obtain ⟨μ5, gμ5, h⟩ := bw_some h
      refine g_callVV (As := [.int 1, .int (s_X12_floatOf a2 a3)]) (rest := []) cx hw hA (t_X12_give l G ad (1 : Int32) (s_X12_floatOf a2 a3) μ gμ5) shm_0 rfl ml_X12_324 im_X12_give se_X12_give in_X12 co_X12_give rfl hd_X12_give rfl ⟨(Nat.le_of_ble_eq_true rfl), (Nat.le_of_ble_eq_true rfl)⟩ hl.1 rfl (Nat.le_of_ble_eq_true rfl) dX12_turn_33 ⟨rfl, rfl⟩ (fun H locs hw => ?_)
      exact g_vret cx hr hlk hw h dX12_turn_36
  · rw [if_pos c1] at h
    refine lv_aload_n hx hb dX12_turn_4 rfl (lv_at hl 0 rfl) ?_
    refine lv_iconst (v := 0) hx hb dX12_turn_5 (by decide) ?_
    refine lv_iload_n hx hb dX12_turn_6 rfl (lv_at hl 2 rfl) ?_
    refine lv_iload_n hx hb dX12_turn_7 rfl (lv_at hl 3 rfl) ?_
    obtain ⟨r7, gr7, h⟩ := bs_some h
    refine s_callI (As := [.int a2, .int a3]) (rest := [.int 0, .ref (ad 0)]) cx hw hA (t_X12_intOf l G a2 a3 gr7) ml_X12_320 st_X12_intOf in_X12 co_X12_intOf hd_X12_intOf rfl ⟨(Nat.le_of_ble_eq_true rfl), (Nat.le_of_ble_eq_true rfl)⟩ hl.1 rfl (Nat.le_of_ble_eq_true rfl) dX12_turn_8 rfl (fun H locs hw => ?_)
    obtain ⟨μ8, gμ8, h⟩ := bw_some h
    refine g_callVV (As := [.int 0, .int r7]) (rest := []) cx hw hA (t_X12_give l G ad (0 : Int32) r7 μ gμ8) shm_0 rfl ml_X12_324 im_X12_give se_X12_give in_X12 co_X12_give rfl hd_X12_give rfl ⟨(Nat.le_of_ble_eq_true rfl), (Nat.le_of_ble_eq_true rfl)⟩ hl.1 rfl (Nat.le_of_ble_eq_true rfl) dX12_turn_11 ⟨rfl, rfl⟩ (fun H locs hw => ?_)
    refine lv_goto (tgt := 36) hx hb dX12_turn_14 (by decide) ?_
    exact g_vret cx hr hlk hw h dX12_turn_36

theorem s_X12_isSign_ex : ∃ f : Int32 → Int32, ∀ (a0 : Int32), f a0 = (if a0 = (43 : Int32) then (1 : Int32) else (if a0 = (45 : Int32) then (1 : Int32) else (if a0 = (42 : Int32) then (1 : Int32) else (if a0 = (47 : Int32) then (1 : Int32) else (if a0 = (37 : Int32) then (1 : Int32) else (if a0 = (60 : Int32) then (1 : Int32) else (if a0 = (61 : Int32) then (1 : Int32) else (0 : Int32)))))))) := ⟨fun (a0 : Int32) => (if a0 = (43 : Int32) then (1 : Int32) else (if a0 = (45 : Int32) then (1 : Int32) else (if a0 = (42 : Int32) then (1 : Int32) else (if a0 = (47 : Int32) then (1 : Int32) else (if a0 = (37 : Int32) then (1 : Int32) else (if a0 = (60 : Int32) then (1 : Int32) else (if a0 = (61 : Int32) then (1 : Int32) else (0 : Int32)))))))), fun _ => rfl⟩
noncomputable def s_X12_isSign : Int32 → Int32 := Classical.choose s_X12_isSign_ex
theorem s_X12_isSign_eq (a0 : Int32) : s_X12_isSign a0 = (if a0 = (43 : Int32) then (1 : Int32) else (if a0 = (45 : Int32) then (1 : Int32) else (if a0 = (42 : Int32) then (1 : Int32) else (if a0 = (47 : Int32) then (1 : Int32) else (if a0 = (37 : Int32) then (1 : Int32) else (if a0 = (60 : Int32) then (1 : Int32) else (if a0 = (61 : Int32) then (1 : Int32) else (0 : Int32)))))))) := Classical.choose_spec s_X12_isSign_ex a0
set_option maxHeartbeats 4000000 in
set_option maxRecDepth 100000 in
theorem t_X12_isSign (l : Launch) (G : Gt) (a0 : Int32) : Mt l yX12_isSign cX12_isSign 1 (some .boolean) ({ frames := 0, cells := 0, slots := 0, locals := 0 } : Room) G [.int a0] [] (sI G (s_X12_isSign a0)) := by
  obtain ⟨r, h⟩ : ∃ r, s_X12_isSign a0 = r := ⟨_, rfl⟩
  rw [h]
  refine Bk.mt (by decide) rfl (Nat.le_of_ble_eq_true rfl) ?_
  intro p e s m below meth c A ls H locs cx hr hlk hA hl hw
  have hx := cx.1
  have hb := cx.2.1
  have hl : lv_has ls 1 [(0, .int a0)] := hl
  rw [s_X12_isSign_eq] at h
  refine lv_iload_n hx hb dX12_isSign_0 rfl (lv_at hl 0 rfl) ?_
  refine lv_bipush (v := 43) hx hb dX12_isSign_1 (by decide) ?_
  refine lv_icmp_eq (tgt := 42) hx hb dX12_isSign_3 (by decide) (fun c1 => ?_) (fun c1 => ?_)
  · rw [if_pos c1] at h
    refine lv_iconst (v := 1) hx hb dX12_isSign_42 (by decide) ?_
    refine lv_goto (tgt := 47) hx hb dX12_isSign_43 (by decide) ?_
    exact s_zret cx hr hlk rfl hw h dX12_isSign_47
  · rw [if_neg c1] at h
    refine lv_iload_n hx hb dX12_isSign_6 rfl (lv_at hl 0 rfl) ?_
    refine lv_bipush (v := 45) hx hb dX12_isSign_7 (by decide) ?_
    refine lv_icmp_eq (tgt := 42) hx hb dX12_isSign_9 (by decide) (fun c2 => ?_) (fun c2 => ?_)
    · rw [if_pos c2] at h
      refine lv_iconst (v := 1) hx hb dX12_isSign_42 (by decide) ?_
      refine lv_goto (tgt := 47) hx hb dX12_isSign_43 (by decide) ?_
      exact s_zret cx hr hlk rfl hw h dX12_isSign_47
    · rw [if_neg c2] at h
      refine lv_iload_n hx hb dX12_isSign_12 rfl (lv_at hl 0 rfl) ?_
      refine lv_bipush (v := 42) hx hb dX12_isSign_13 (by decide) ?_
      refine lv_icmp_eq (tgt := 42) hx hb dX12_isSign_15 (by decide) (fun c3 => ?_) (fun c3 => ?_)
      · rw [if_pos c3] at h
        refine lv_iconst (v := 1) hx hb dX12_isSign_42 (by decide) ?_
        refine lv_goto (tgt := 47) hx hb dX12_isSign_43 (by decide) ?_
        exact s_zret cx hr hlk rfl hw h dX12_isSign_47
      · rw [if_neg c3] at h
        refine lv_iload_n hx hb dX12_isSign_18 rfl (lv_at hl 0 rfl) ?_
        refine lv_bipush (v := 47) hx hb dX12_isSign_19 (by decide) ?_
        refine lv_icmp_eq (tgt := 42) hx hb dX12_isSign_21 (by decide) (fun c4 => ?_) (fun c4 => ?_)
        · rw [if_pos c4] at h
          refine lv_iconst (v := 1) hx hb dX12_isSign_42 (by decide) ?_
          refine lv_goto (tgt := 47) hx hb dX12_isSign_43 (by decide) ?_
          exact s_zret cx hr hlk rfl hw h dX12_isSign_47
        · rw [if_neg c4] at h
          refine lv_iload_n hx hb dX12_isSign_24 rfl (lv_at hl 0 rfl) ?_
          refine lv_bipush (v := 37) hx hb dX12_isSign_25 (by decide) ?_
          refine lv_icmp_eq (tgt := 42) hx hb dX12_isSign_27 (by decide) (fun c5 => ?_) (fun c5 => ?_)
          · rw [if_pos c5] at h
            refine lv_iconst (v := 1) hx hb dX12_isSign_42 (by decide) ?_
            refine lv_goto (tgt := 47) hx hb dX12_isSign_43 (by decide) ?_
            exact s_zret cx hr hlk rfl hw h dX12_isSign_47
          · rw [if_neg c5] at h
            refine lv_iload_n hx hb dX12_isSign_30 rfl (lv_at hl 0 rfl) ?_
            refine lv_bipush (v := 60) hx hb dX12_isSign_31 (by decide) ?_
            refine lv_icmp_eq (tgt := 42) hx hb dX12_isSign_33 (by decide) (fun c6 => ?_) (fun c6 => ?_)
            · rw [if_pos c6] at h
              refine lv_iconst (v := 1) hx hb dX12_isSign_42 (by decide) ?_
              refine lv_goto (tgt := 47) hx hb dX12_isSign_43 (by decide) ?_
              exact s_zret cx hr hlk rfl hw h dX12_isSign_47
            · rw [if_neg c6] at h
              refine lv_iload_n hx hb dX12_isSign_36 rfl (lv_at hl 0 rfl) ?_
              refine lv_bipush (v := 61) hx hb dX12_isSign_37 (by decide) ?_
              refine lv_icmp_ne (tgt := 46) hx hb dX12_isSign_39 (by decide) (fun c7 => ?_) (fun c7 => ?_)
              · rw [if_neg c7] at h
                refine lv_iconst (v := 0) hx hb dX12_isSign_46 (by decide) ?_
                exact s_zret cx hr hlk rfl hw h dX12_isSign_47
              · rw [if_pos c7] at h
                refine lv_iconst (v := 1) hx hb dX12_isSign_42 (by decide) ?_
                refine lv_goto (tgt := 47) hx hb dX12_isSign_43 (by decide) ?_
                exact s_zret cx hr hlk rfl hw h dX12_isSign_47

theorem p_X12_op_ex : ∃ f : Int32 → Int32 → Int32 → Mem → Option (Int32 × Mem), ∀ (a1 : Int32) (a2 : Int32) (a3 : Int32) (μ : Mem), f a1 a2 a3 μ = (if (s_X12_isSign a2) = (0 : Int32) then some ((0 : Int32), μ) else bw (p_X12_join a2 (1 : Int32) a1 (1 : Int32) a3 μ) (fun μ2 => some ((μ2.1 0 1), μ2))) := ⟨fun (a1 : Int32) (a2 : Int32) (a3 : Int32) (μ : Mem) => (if (s_X12_isSign a2) = (0 : Int32) then some ((0 : Int32), μ) else bw (p_X12_join a2 (1 : Int32) a1 (1 : Int32) a3 μ) (fun μ2 => some ((μ2.1 0 1), μ2))), fun _ _ _ _ => rfl⟩
noncomputable def p_X12_op : Int32 → Int32 → Int32 → Mem → Option (Int32 × Mem) := Classical.choose p_X12_op_ex
theorem p_X12_op_eq (a1 : Int32) (a2 : Int32) (a3 : Int32) (μ : Mem) : p_X12_op a1 a2 a3 μ = (if (s_X12_isSign a2) = (0 : Int32) then some ((0 : Int32), μ) else bw (p_X12_join a2 (1 : Int32) a1 (1 : Int32) a3 μ) (fun μ2 => some ((μ2.1 0 1), μ2))) := Classical.choose_spec p_X12_op_ex a1 a2 a3 μ
set_option maxHeartbeats 4000000 in
set_option maxRecDepth 100000 in
theorem t_X12_op (l : Launch) (G : Gt) (ad : Nat → Nat) (a1 : Int32) (a2 : Int32) (a3 : Int32) (μ : Mem) {r : Int32} {μz : Mem} (h : p_X12_op a1 a2 a3 μ = some (r, μz)) : Mt l yX12_op cX12_op 4 (some .int) ({ frames := 5, cells := 0, slots := 0, locals := 115 } : Room) G [.ref (ad 0), .int a1, .int a2, .int a3] (wd 1 G ad μ) (eI 1 G ad r μz) := by
  refine Bk.mt (by decide) rfl (Nat.le_of_ble_eq_true rfl) ?_
  intro p e s m below meth c A ls H locs cx hr hlk hA hl hw
  have hx := cx.1
  have hb := cx.2.1
  have hl : lv_has ls 4 [(0, .ref (ad 0)), (1, .int a1), (2, .int a2), (3, .int a3)] := hl
  rw [p_X12_op_eq] at h
  refine lv_iload_n hx hb dX12_op_0 rfl (lv_at hl 2 rfl) ?_
  refine s_callI (As := [.int a2]) (rest := []) cx hw hA (t_X12_isSign l G a2) ml_X12_345 st_X12_isSign in_X12 co_X12_isSign hd_X12_isSign rfl ⟨(Nat.le_of_ble_eq_true rfl), (Nat.le_of_ble_eq_true rfl)⟩ hl.1 rfl (Nat.le_of_ble_eq_true rfl) dX12_op_1 rfl (fun H locs hw => ?_)
  refine lv_if_ne (tgt := 9) hx hb dX12_op_4 (by decide) (fun c1 => ?_) (fun c1 => ?_)
  · rw [if_neg c1] at h
    refine lv_aload_n hx hb dX12_op_9 rfl (lv_at hl 0 rfl) ?_
    refine lv_iload_n hx hb dX12_op_10 rfl (lv_at hl 2 rfl) ?_
    refine lv_iconst (v := 1) hx hb dX12_op_11 (by decide) ?_
    refine lv_iload_n hx hb dX12_op_12 rfl (lv_at hl 1 rfl) ?_
    refine lv_iconst (v := 1) hx hb dX12_op_13 (by decide) ?_
    refine lv_iload_n hx hb dX12_op_14 rfl (lv_at hl 3 rfl) ?_
    obtain ⟨μ2, gμ2, h⟩ := bw_some h
    refine g_callVV (As := [.int a2, .int 1, .int a1, .int 1, .int a3]) (rest := []) cx hw hA (t_X12_join l G ad a2 (1 : Int32) a1 (1 : Int32) a3 μ gμ2) shm_0 rfl ml_X12_348 im_X12_join se_X12_join in_X12 co_X12_join rfl hd_X12_join rfl ⟨(Nat.le_of_ble_eq_true rfl), (Nat.le_of_ble_eq_true rfl)⟩ hl.1 rfl (Nat.le_of_ble_eq_true rfl) dX12_op_15 ⟨rfl, rfl⟩ (fun H locs hw => ?_)
    refine lv_aload_n hx hb dX12_op_18 rfl (lv_at hl 0 rfl) ?_
    refine g_get cx hw inX12 (ci := 11) rfl 1 (by decide) rfl (v := .int (μ2.1 0 1)) shm_0 rfl fl_X12_308 dX12_op_19 ?_
    exact g_iret cx hr hlk hw h dX12_op_22
  · rw [if_pos c1] at h
    refine lv_iconst (v := 0) hx hb dX12_op_7 (by decide) ?_
    exact g_iret cx hr hlk hw h dX12_op_8

theorem s_X12_isTrue_ex : ∃ f : Int32 → Int32 → Int32, ∀ (a0 : Int32) (a1 : Int32), f a0 a1 = (if a0 = (1 : Int32) then (if (a1 &&& (2147483647 : Int32)) = (0 : Int32) then (0 : Int32) else (1 : Int32)) else (if a1 = (0 : Int32) then (0 : Int32) else (1 : Int32))) := ⟨fun (a0 : Int32) (a1 : Int32) => (if a0 = (1 : Int32) then (if (a1 &&& (2147483647 : Int32)) = (0 : Int32) then (0 : Int32) else (1 : Int32)) else (if a1 = (0 : Int32) then (0 : Int32) else (1 : Int32))), fun _ _ => rfl⟩
noncomputable def s_X12_isTrue : Int32 → Int32 → Int32 := Classical.choose s_X12_isTrue_ex
theorem s_X12_isTrue_eq (a0 : Int32) (a1 : Int32) : s_X12_isTrue a0 a1 = (if a0 = (1 : Int32) then (if (a1 &&& (2147483647 : Int32)) = (0 : Int32) then (0 : Int32) else (1 : Int32)) else (if a1 = (0 : Int32) then (0 : Int32) else (1 : Int32))) := Classical.choose_spec s_X12_isTrue_ex a0 a1
set_option maxHeartbeats 4000000 in
set_option maxRecDepth 100000 in
theorem t_X12_isTrue (l : Launch) (G : Gt) (a0 : Int32) (a1 : Int32) : Mt l yX12_isTrue cX12_isTrue 2 (some .boolean) ({ frames := 0, cells := 0, slots := 0, locals := 0 } : Room) G [.int a0, .int a1] [] (sI G (s_X12_isTrue a0 a1)) := by
  obtain ⟨r, h⟩ : ∃ r, s_X12_isTrue a0 a1 = r := ⟨_, rfl⟩
  rw [h]
  refine Bk.mt (by decide) rfl (Nat.le_of_ble_eq_true rfl) ?_
  intro p e s m below meth c A ls H locs cx hr hlk hA hl hw
  have hx := cx.1
  have hb := cx.2.1
  have hl : lv_has ls 2 [(0, .int a0), (1, .int a1)] := hl
  rw [s_X12_isTrue_eq] at h
  refine lv_iload_n hx hb dX12_isTrue_0 rfl (lv_at hl 0 rfl) ?_
  refine lv_iconst (v := 1) hx hb dX12_isTrue_1 (by decide) ?_
  refine lv_icmp_ne (tgt := 21) hx hb dX12_isTrue_2 (by decide) (fun c1 => ?_) (fun c1 => ?_)
  · rw [if_neg c1] at h
    refine lv_iload_n hx hb dX12_isTrue_21 rfl (lv_at hl 1 rfl) ?_
    refine lv_if_eq (tgt := 29) hx hb dX12_isTrue_22 (by decide) (fun c2 => ?_) (fun c2 => ?_)
    · rw [if_pos c2] at h
      refine lv_iconst (v := 0) hx hb dX12_isTrue_29 (by decide) ?_
      exact s_zret cx hr hlk rfl hw h dX12_isTrue_30
    · rw [if_neg c2] at h
      refine lv_iconst (v := 1) hx hb dX12_isTrue_25 (by decide) ?_
      refine lv_goto (tgt := 30) hx hb dX12_isTrue_26 (by decide) ?_
      exact s_zret cx hr hlk rfl hw h dX12_isTrue_30
  · rw [if_pos c1] at h
    refine lv_iload_n hx hb dX12_isTrue_5 rfl (lv_at hl 1 rfl) ?_
    refine lv_ldcw hx hb cx.2.2.2.1 (cx.2.2.2.2.1 _ cs_X12_311) dX12_isTrue_6 ?_
    refine lv_iand hx hb dX12_isTrue_9 ?_
    refine lv_if_eq (tgt := 17) hx hb dX12_isTrue_10 (by decide) (fun c3 => ?_) (fun c3 => ?_)
    · rw [if_pos c3] at h
      refine lv_iconst (v := 0) hx hb dX12_isTrue_17 (by decide) ?_
      refine lv_goto (tgt := 30) hx hb dX12_isTrue_18 (by decide) ?_
      exact s_zret cx hr hlk rfl hw h dX12_isTrue_30
    · rw [if_neg c3] at h
      refine lv_iconst (v := 1) hx hb dX12_isTrue_13 (by decide) ?_
      refine lv_goto (tgt := 30) hx hb dX12_isTrue_14 (by decide) ?_
      exact s_zret cx hr hlk rfl hw h dX12_isTrue_30

theorem p_X12_four_b3_ex : ∃ f : Nat → Int32 → Int32 → Mem → Option Mem, (∀ (a1 : Int32) (a2 : Int32) (μ : Mem), f  0 a1 a2 μ = none) ∧ (∀ (n : Nat) (a1 : Int32) (a2 : Int32) (μ : Mem), f  (n + 1) a1 a2 μ = (if a2 < (0 : Int32) then some μ else gd (inb (μ.1 0 3) 800) (bv (sF μ 1 (μ.1 0 3).toNatClampNeg (vp_nar .byte ((a1 >>> (a2 &&& 31)).toInt8.toInt32))) (fun μ2 => bv (sF μ2 0 3 ((μ2.1 0 3) + (1 : Int32))) (fun μ3 => bv (a2 + (-8)) (fun v4 => f n a1 v4 μ3)))))) := ⟨fun n => Nat.rec (fun (a1 : Int32) (a2 : Int32) (μ : Mem) => none) (fun _ ih => fun (a1 : Int32) (a2 : Int32) (μ : Mem) => (if a2 < (0 : Int32) then some μ else gd (inb (μ.1 0 3) 800) (bv (sF μ 1 (μ.1 0 3).toNatClampNeg (vp_nar .byte ((a1 >>> (a2 &&& 31)).toInt8.toInt32))) (fun μ2 => bv (sF μ2 0 3 ((μ2.1 0 3) + (1 : Int32))) (fun μ3 => bv (a2 + (-8)) (fun v4 => ih a1 v4 μ3)))))) n, fun  _ _ _ => rfl, fun  _ _ _ _ => rfl⟩
noncomputable def p_X12_four_b3 : Nat → Int32 → Int32 → Mem → Option Mem := Classical.choose p_X12_four_b3_ex
theorem p_X12_four_b3_z (a1 : Int32) (a2 : Int32) (μ : Mem) : p_X12_four_b3  0 a1 a2 μ = none := (Classical.choose_spec p_X12_four_b3_ex).1  a1 a2 μ
theorem p_X12_four_b3_s (n : Nat) (a1 : Int32) (a2 : Int32) (μ : Mem) : p_X12_four_b3  (n + 1) a1 a2 μ = (if a2 < (0 : Int32) then some μ else gd (inb (μ.1 0 3) 800) (bv (sF μ 1 (μ.1 0 3).toNatClampNeg (vp_nar .byte ((a1 >>> (a2 &&& 31)).toInt8.toInt32))) (fun μ2 => bv (sF μ2 0 3 ((μ2.1 0 3) + (1 : Int32))) (fun μ3 => bv (a2 + (-8)) (fun v4 => p_X12_four_b3  n a1 v4 μ3))))) := (Classical.choose_spec p_X12_four_b3_ex).2  n a1 a2 μ
set_option maxHeartbeats 4000000 in
set_option maxRecDepth 100000 in
theorem t_X12_four_b3 (l : Launch) (G : Gt) (ad : Nat → Nat) (av : List Value) {μz : Mem} : ∀ (n : Nat) (a1 : Int32) (a2 : Int32) (μ : Mem), p_X12_four_b3  n a1 a2 μ = some μz → Bk l cX12_four 3 RX12 none ({ frames := 0, cells := 0, slots := 0, locals := 0 } : Room) G av (eV 1 G ad μz) (wd 1 G ad μ) 3 [(0, .ref (ad 0)), (1, .int a1), (2, .int a2)] [] := by
  intro n
  induction n with
  | zero => intro a1 a2 μ h; rw [p_X12_four_b3_z] at h; cases h
  | succ n ih =>
    intro a1 a2 μ h p e s m below meth c A ls H locs cx hr hlk hA hl hw
    have hx := cx.1
    have hb := cx.2.1
    rw [p_X12_four_b3_s] at h
    refine lv_iload_n hx hb dX12_four_3 rfl (lv_at hl 2 rfl) ?_
    refine lv_if_lt (tgt := 36) hx hb dX12_four_4 (by decide) (fun c1 => ?_) (fun c1 => ?_)
    · rw [if_pos c1] at h
      exact g_vret cx hr hlk hw h dX12_four_36
    · rw [if_neg c1] at h
      refine lv_aload_n hx hb dX12_four_7 rfl (lv_at hl 0 rfl) ?_
      refine g_get cx hw inX12 (ci := 11) rfl 2 (by decide) rfl (v := .ref (ad 1)) shm_0 rfl fl_X12_7 dX12_four_8 ?_
      refine lv_aload_n hx hb dX12_four_11 rfl (lv_at hl 0 rfl) ?_
      refine g_get cx hw inX12 (ci := 11) rfl 3 (by decide) rfl (v := .int (μ.1 0 3)) shm_0 rfl fl_X12_352 dX12_four_12 ?_
      refine lv_iload_n hx hb dX12_four_15 rfl (lv_at hl 1 rfl) ?_
      refine lv_iload_n hx hb dX12_four_16 rfl (lv_at hl 2 rfl) ?_
      refine lv_ishr hx hb dX12_four_17 ?_
      refine lv_i2b hx hb dX12_four_18 rfl ?_
      refine g_bast cx hw shm_1 h dX12_four_19 (fun μ2 H locs h hw => ?_)
      refine lv_aload_n hx hb dX12_four_20 rfl (lv_at hl 0 rfl) ?_
      refine lv_dup hx hb dX12_four_21 rfl ?_
      refine g_get cx hw inX12 (ci := 11) rfl 3 (by decide) rfl (v := .int (μ2.1 0 3)) shm_0 rfl fl_X12_352 dX12_four_22 ?_
      refine lv_iconst (v := 1) hx hb dX12_four_25 (by decide) ?_
      refine lv_iadd hx hb dX12_four_26 ?_
      refine g_put cx hw inX12 (ci := 11) rfl tyX12_ok nmX12 3 (by decide) rfl rfl rfl rfl shm_0 h fl_X12_352 dX12_four_27 (fun μ3 H locs h hw => ?_)
      obtain ⟨v4, ev4, h⟩ := bv_ex h
      refine lv_iinc (v := v4) (lv' := [(2, .int v4), (0, .ref (ad 0)), (1, .int a1)]) hx hb dX12_four_30 hl (k := 2) rfl (by rw [ev4]; rfl) (by decide) rfl (fun ls hl => ?_)
      refine lv_goto (tgt := 3) hx hb dX12_four_33 (by decide) ?_
      exact ih a1 v4 μ3 h p e s m below meth c A ls H locs cx hr hlk hA (lv_sub hl [1, 2, 0] rfl) hw
theorem p_X12_four_ex : ∃ f : Int32 → Mem → Option Mem, ∀ (a1 : Int32) (μ : Mem), f a1 μ = p_X12_four_b3  FUEL a1 (24 : Int32) μ := ⟨fun (a1 : Int32) (μ : Mem) => p_X12_four_b3  FUEL a1 (24 : Int32) μ, fun _ _ => rfl⟩
noncomputable def p_X12_four : Int32 → Mem → Option Mem := Classical.choose p_X12_four_ex
theorem p_X12_four_eq (a1 : Int32) (μ : Mem) : p_X12_four a1 μ = p_X12_four_b3  FUEL a1 (24 : Int32) μ := Classical.choose_spec p_X12_four_ex a1 μ
set_option maxHeartbeats 4000000 in
set_option maxRecDepth 100000 in
theorem t_X12_four (l : Launch) (G : Gt) (ad : Nat → Nat) (a1 : Int32) (μ : Mem) {μz : Mem} (h : p_X12_four a1 μ = some μz) : Mt l yX12_four cX12_four 3 none ({ frames := 0, cells := 0, slots := 0, locals := 0 } : Room) G [.ref (ad 0), .int a1] (wd 1 G ad μ) (eV 1 G ad μz) := by
  refine Bk.mt (by decide) rfl (Nat.le_of_ble_eq_true rfl) ?_
  intro p e s m below meth c A ls H locs cx hr hlk hA hl hw
  have hx := cx.1
  have hb := cx.2.1
  have hl : lv_has ls 3 [(0, .ref (ad 0)), (1, .int a1)] := hl
  rw [p_X12_four_eq] at h
  refine lv_bipush (v := 24) hx hb dX12_four_0 (by decide) ?_
  refine lv_istore_n (lv' := [(2, .int 24), (0, .ref (ad 0)), (1, .int a1)]) hx hb dX12_four_2 rfl hl (by decide) rfl (fun ls hl => ?_)
  exact t_X12_four_b3 l G ad _  FUEL a1 (24 : Int32) μ h p e s m below meth c A ls H locs cx hr hlk hA (lv_sub hl [1, 2, 0] rfl) hw

theorem p_X12_feed_ex : ∃ f : Int32 → Int32 → Int32 → Int32 → Int32 → Mem → Option (Int32 × Mem), ∀ (a1 : Int32) (a2 : Int32) (a3 : Int32) (a4 : Int32) (a5 : Int32) (μ : Mem), f a1 a2 a3 a4 a5 μ = (if ((μ.1 0 3) + (20 : Int32)) ≤ (800 : Int32) then bw (p_X12_four a1 μ) (fun μ2 => bw (p_X12_four a2 μ2) (fun μ4 => bw (p_X12_four a3 μ4) (fun μ6 => bw (p_X12_four a4 μ6) (fun μ8 => bw (p_X12_four a5 μ8) (fun μ10 => some ((μ10.1 0 3), μ10)))))) else some ((-1 : Int32), μ)) := ⟨fun (a1 : Int32) (a2 : Int32) (a3 : Int32) (a4 : Int32) (a5 : Int32) (μ : Mem) => (if ((μ.1 0 3) + (20 : Int32)) ≤ (800 : Int32) then bw (p_X12_four a1 μ) (fun μ2 => bw (p_X12_four a2 μ2) (fun μ4 => bw (p_X12_four a3 μ4) (fun μ6 => bw (p_X12_four a4 μ6) (fun μ8 => bw (p_X12_four a5 μ8) (fun μ10 => some ((μ10.1 0 3), μ10)))))) else some ((-1 : Int32), μ)), fun _ _ _ _ _ _ => rfl⟩
noncomputable def p_X12_feed : Int32 → Int32 → Int32 → Int32 → Int32 → Mem → Option (Int32 × Mem) := Classical.choose p_X12_feed_ex
theorem p_X12_feed_eq (a1 : Int32) (a2 : Int32) (a3 : Int32) (a4 : Int32) (a5 : Int32) (μ : Mem) : p_X12_feed a1 a2 a3 a4 a5 μ = (if ((μ.1 0 3) + (20 : Int32)) ≤ (800 : Int32) then bw (p_X12_four a1 μ) (fun μ2 => bw (p_X12_four a2 μ2) (fun μ4 => bw (p_X12_four a3 μ4) (fun μ6 => bw (p_X12_four a4 μ6) (fun μ8 => bw (p_X12_four a5 μ8) (fun μ10 => some ((μ10.1 0 3), μ10)))))) else some ((-1 : Int32), μ)) := Classical.choose_spec p_X12_feed_ex a1 a2 a3 a4 a5 μ
set_option maxHeartbeats 4000000 in
set_option maxRecDepth 100000 in
theorem t_X12_feed (l : Launch) (G : Gt) (ad : Nat → Nat) (a1 : Int32) (a2 : Int32) (a3 : Int32) (a4 : Int32) (a5 : Int32) (μ : Mem) {r : Int32} {μz : Mem} (h : p_X12_feed a1 a2 a3 a4 a5 μ = some (r, μz)) : Mt l yX12_feed cX12_feed 6 (some .int) ({ frames := 1, cells := 0, slots := 0, locals := 22 } : Room) G [.ref (ad 0), .int a1, .int a2, .int a3, .int a4, .int a5] (wd 1 G ad μ) (eI 1 G ad r μz) := by
  refine Bk.mt (by decide) rfl (Nat.le_of_ble_eq_true rfl) ?_
  intro p e s m below meth c A ls H locs cx hr hlk hA hl hw
  have hx := cx.1
  have hb := cx.2.1
  have hl : lv_has ls 6 [(0, .ref (ad 0)), (1, .int a1), (2, .int a2), (3, .int a3), (4, .int a4), (5, .int a5)] := hl
  rw [p_X12_feed_eq] at h
  refine lv_aload_n hx hb dX12_feed_0 rfl (lv_at hl 0 rfl) ?_
  refine g_get cx hw inX12 (ci := 11) rfl 3 (by decide) rfl (v := .int (μ.1 0 3)) shm_0 rfl fl_X12_352 dX12_feed_1 ?_
  refine lv_bipush (v := 20) hx hb dX12_feed_4 (by decide) ?_
  refine lv_iadd hx hb dX12_feed_6 ?_
  refine lv_sipush (v := 800) hx hb dX12_feed_7 (by decide) ?_
  refine lv_icmp_le (tgt := 15) hx hb dX12_feed_10 (by decide) (fun c1 => ?_) (fun c1 => ?_)
  · rw [if_pos c1] at h
    refine lv_aload_n hx hb dX12_feed_15 rfl (lv_at hl 0 rfl) ?_
    refine lv_iload_n hx hb dX12_feed_16 rfl (lv_at hl 1 rfl) ?_
    obtain ⟨μ2, gμ2, h⟩ := bw_some h
    refine g_callVV (As := [.int a1]) (rest := []) cx hw hA (t_X12_four l G ad a1 μ gμ2) shm_0 rfl ml_X12_355 im_X12_four se_X12_four in_X12 co_X12_four rfl hd_X12_four rfl ⟨(Nat.le_of_ble_eq_true rfl), (Nat.le_of_ble_eq_true rfl)⟩ hl.1 rfl (Nat.le_of_ble_eq_true rfl) dX12_feed_17 ⟨rfl, rfl⟩ (fun H locs hw => ?_)
    refine lv_aload_n hx hb dX12_feed_20 rfl (lv_at hl 0 rfl) ?_
    refine lv_iload_n hx hb dX12_feed_21 rfl (lv_at hl 2 rfl) ?_
    obtain ⟨μ4, gμ4, h⟩ := bw_some h
    refine g_callVV (As := [.int a2]) (rest := []) cx hw hA (t_X12_four l G ad a2 μ2 gμ4) shm_0 rfl ml_X12_355 im_X12_four se_X12_four in_X12 co_X12_four rfl hd_X12_four rfl ⟨(Nat.le_of_ble_eq_true rfl), (Nat.le_of_ble_eq_true rfl)⟩ hl.1 rfl (Nat.le_of_ble_eq_true rfl) dX12_feed_22 ⟨rfl, rfl⟩ (fun H locs hw => ?_)
    refine lv_aload_n hx hb dX12_feed_25 rfl (lv_at hl 0 rfl) ?_
    refine lv_iload_n hx hb dX12_feed_26 rfl (lv_at hl 3 rfl) ?_
    obtain ⟨μ6, gμ6, h⟩ := bw_some h
    refine g_callVV (As := [.int a3]) (rest := []) cx hw hA (t_X12_four l G ad a3 μ4 gμ6) shm_0 rfl ml_X12_355 im_X12_four se_X12_four in_X12 co_X12_four rfl hd_X12_four rfl ⟨(Nat.le_of_ble_eq_true rfl), (Nat.le_of_ble_eq_true rfl)⟩ hl.1 rfl (Nat.le_of_ble_eq_true rfl) dX12_feed_27 ⟨rfl, rfl⟩ (fun H locs hw => ?_)
    refine lv_aload_n hx hb dX12_feed_30 rfl (lv_at hl 0 rfl) ?_
    refine lv_iload hx hb dX12_feed_31 (lv_at hl 4 rfl) ?_
    obtain ⟨μ8, gμ8, h⟩ := bw_some h
    refine g_callVV (As := [.int a4]) (rest := []) cx hw hA (t_X12_four l G ad a4 μ6 gμ8) shm_0 rfl ml_X12_355 im_X12_four se_X12_four in_X12 co_X12_four rfl hd_X12_four rfl ⟨(Nat.le_of_ble_eq_true rfl), (Nat.le_of_ble_eq_true rfl)⟩ hl.1 rfl (Nat.le_of_ble_eq_true rfl) dX12_feed_33 ⟨rfl, rfl⟩ (fun H locs hw => ?_)
    refine lv_aload_n hx hb dX12_feed_36 rfl (lv_at hl 0 rfl) ?_
    refine lv_iload hx hb dX12_feed_37 (lv_at hl 5 rfl) ?_
    obtain ⟨μ10, gμ10, h⟩ := bw_some h
    refine g_callVV (As := [.int a5]) (rest := []) cx hw hA (t_X12_four l G ad a5 μ8 gμ10) shm_0 rfl ml_X12_355 im_X12_four se_X12_four in_X12 co_X12_four rfl hd_X12_four rfl ⟨(Nat.le_of_ble_eq_true rfl), (Nat.le_of_ble_eq_true rfl)⟩ hl.1 rfl (Nat.le_of_ble_eq_true rfl) dX12_feed_39 ⟨rfl, rfl⟩ (fun H locs hw => ?_)
    refine lv_aload_n hx hb dX12_feed_42 rfl (lv_at hl 0 rfl) ?_
    refine g_get cx hw inX12 (ci := 11) rfl 3 (by decide) rfl (v := .int (μ10.1 0 3)) shm_0 rfl fl_X12_352 dX12_feed_43 ?_
    exact g_iret cx hr hlk hw h dX12_feed_46
  · rw [if_neg c1] at h
    refine lv_iconst (v := (-1)) hx hb dX12_feed_13 (by decide) ?_
    exact g_iret cx hr hlk hw h dX12_feed_14

theorem p_X12_end_ex : ∃ f : Int32 → Mem → Option (Int32 × Mem), ∀ (a1 : Int32) (μ : Mem), f a1 μ = (if (s_X12_isIn a1 (0 : Int32) (μ.1 0 3)) = (0 : Int32) then some ((-1 : Int32), μ) else bv (sF μ 0 3 a1) (fun μ2 => some (a1, μ2))) := ⟨fun (a1 : Int32) (μ : Mem) => (if (s_X12_isIn a1 (0 : Int32) (μ.1 0 3)) = (0 : Int32) then some ((-1 : Int32), μ) else bv (sF μ 0 3 a1) (fun μ2 => some (a1, μ2))), fun _ _ => rfl⟩
noncomputable def p_X12_end : Int32 → Mem → Option (Int32 × Mem) := Classical.choose p_X12_end_ex
theorem p_X12_end_eq (a1 : Int32) (μ : Mem) : p_X12_end a1 μ = (if (s_X12_isIn a1 (0 : Int32) (μ.1 0 3)) = (0 : Int32) then some ((-1 : Int32), μ) else bv (sF μ 0 3 a1) (fun μ2 => some (a1, μ2))) := Classical.choose_spec p_X12_end_ex a1 μ
set_option maxHeartbeats 4000000 in
set_option maxRecDepth 100000 in
theorem t_X12_end (l : Launch) (G : Gt) (ad : Nat → Nat) (a1 : Int32) (μ : Mem) {r : Int32} {μz : Mem} (h : p_X12_end a1 μ = some (r, μz)) : Mt l yX12_end cX12_end 2 (some .int) ({ frames := 1, cells := 0, slots := 0, locals := 22 } : Room) G [.ref (ad 0), .int a1] (wd 1 G ad μ) (eI 1 G ad r μz) := by
  refine Bk.mt (by decide) rfl (Nat.le_of_ble_eq_true rfl) ?_
  intro p e s m below meth c A ls H locs cx hr hlk hA hl hw
  have hx := cx.1
  have hb := cx.2.1
  have hl : lv_has ls 2 [(0, .ref (ad 0)), (1, .int a1)] := hl
  rw [p_X12_end_eq] at h
  refine lv_iload_n hx hb dX12_end_0 rfl (lv_at hl 1 rfl) ?_
  refine lv_iconst (v := 0) hx hb dX12_end_1 (by decide) ?_
  refine lv_aload_n hx hb dX12_end_2 rfl (lv_at hl 0 rfl) ?_
  refine g_get cx hw inX12 (ci := 11) rfl 3 (by decide) rfl (v := .int (μ.1 0 3)) shm_0 rfl fl_X12_352 dX12_end_3 ?_
  refine s_callI (As := [.int a1, .int 0, .int (μ.1 0 3)]) (rest := []) cx hw hA (t_X12_isIn l G a1 (0 : Int32) (μ.1 0 3)) ml_X12_359 st_X12_isIn in_X12 co_X12_isIn hd_X12_isIn rfl ⟨(Nat.le_of_ble_eq_true rfl), (Nat.le_of_ble_eq_true rfl)⟩ hl.1 rfl (Nat.le_of_ble_eq_true rfl) dX12_end_6 rfl (fun H locs hw => ?_)
  refine lv_if_ne (tgt := 14) hx hb dX12_end_9 (by decide) (fun c1 => ?_) (fun c1 => ?_)
  · rw [if_neg c1] at h
    refine lv_aload_n hx hb dX12_end_14 rfl (lv_at hl 0 rfl) ?_
    refine lv_iload_n hx hb dX12_end_15 rfl (lv_at hl 1 rfl) ?_
    refine g_put cx hw inX12 (ci := 11) rfl tyX12_ok nmX12 3 (by decide) rfl rfl rfl rfl shm_0 h fl_X12_352 dX12_end_16 (fun μ2 H locs h hw => ?_)
    refine lv_iload_n hx hb dX12_end_19 rfl (lv_at hl 1 rfl) ?_
    exact g_iret cx hr hlk hw h dX12_end_20
  · rw [if_pos c1] at h
    refine lv_iconst (v := (-1)) hx hb dX12_end_12 (by decide) ?_
    exact g_iret cx hr hlk hw h dX12_end_13

theorem p_X12_here_ex : ∃ f : Mem → Option (Int32 × Mem), ∀  (μ : Mem), f  μ = (if (μ.1 0 3) ≤ (μ.1 0 4) then some ((-1 : Int32), μ) else gd (inb (μ.1 0 4) 800) (some (((μ.1 1 (μ.1 0 4).toNatClampNeg) &&& (255 : Int32)), μ))) := ⟨fun  (μ : Mem) => (if (μ.1 0 3) ≤ (μ.1 0 4) then some ((-1 : Int32), μ) else gd (inb (μ.1 0 4) 800) (some (((μ.1 1 (μ.1 0 4).toNatClampNeg) &&& (255 : Int32)), μ))), fun _ => rfl⟩
noncomputable def p_X12_here : Mem → Option (Int32 × Mem) := Classical.choose p_X12_here_ex
theorem p_X12_here_eq  (μ : Mem) : p_X12_here  μ = (if (μ.1 0 3) ≤ (μ.1 0 4) then some ((-1 : Int32), μ) else gd (inb (μ.1 0 4) 800) (some (((μ.1 1 (μ.1 0 4).toNatClampNeg) &&& (255 : Int32)), μ))) := Classical.choose_spec p_X12_here_ex  μ
set_option maxHeartbeats 4000000 in
set_option maxRecDepth 100000 in
theorem t_X12_here (l : Launch) (G : Gt) (ad : Nat → Nat)  (μ : Mem) {r : Int32} {μz : Mem} (h : p_X12_here  μ = some (r, μz)) : Mt l yX12_here cX12_here 1 (some .int) ({ frames := 0, cells := 0, slots := 0, locals := 0 } : Room) G [.ref (ad 0)] (wd 1 G ad μ) (eI 1 G ad r μz) := by
  refine Bk.mt (by decide) rfl (Nat.le_of_ble_eq_true rfl) ?_
  intro p e s m below meth c A ls H locs cx hr hlk hA hl hw
  have hx := cx.1
  have hb := cx.2.1
  have hl : lv_has ls 1 [(0, .ref (ad 0))] := hl
  rw [p_X12_here_eq] at h
  refine lv_aload_n hx hb dX12_here_0 rfl (lv_at hl 0 rfl) ?_
  refine g_get cx hw inX12 (ci := 11) rfl 4 (by decide) rfl (v := .int (μ.1 0 4)) shm_0 rfl fl_X12_362 dX12_here_1 ?_
  refine lv_aload_n hx hb dX12_here_4 rfl (lv_at hl 0 rfl) ?_
  refine g_get cx hw inX12 (ci := 11) rfl 3 (by decide) rfl (v := .int (μ.1 0 3)) shm_0 rfl fl_X12_352 dX12_here_5 ?_
  refine lv_icmp_ge (tgt := 27) hx hb dX12_here_8 (by decide) (fun c1 => ?_) (fun c1 => ?_)
  · rw [if_pos c1] at h
    refine lv_iconst (v := (-1)) hx hb dX12_here_27 (by decide) ?_
    exact g_iret cx hr hlk hw h dX12_here_28
  · rw [if_neg c1] at h
    refine lv_aload_n hx hb dX12_here_11 rfl (lv_at hl 0 rfl) ?_
    refine g_get cx hw inX12 (ci := 11) rfl 2 (by decide) rfl (v := .ref (ad 1)) shm_0 rfl fl_X12_7 dX12_here_12 ?_
    refine lv_aload_n hx hb dX12_here_15 rfl (lv_at hl 0 rfl) ?_
    refine g_get cx hw inX12 (ci := 11) rfl 4 (by decide) rfl (v := .int (μ.1 0 4)) shm_0 rfl fl_X12_362 dX12_here_16 ?_
    refine g_bald cx hw shm_1 h dX12_here_19 (fun h => ?_)
    refine lv_sipush (v := 255) hx hb dX12_here_20 (by decide) ?_
    refine lv_iand hx hb dX12_here_23 ?_
    refine lv_goto (tgt := 28) hx hb dX12_here_24 (by decide) ?_
    exact g_iret cx hr hlk hw h dX12_here_28

theorem s_X12_isFigure_ex : ∃ f : Int32 → Int32, ∀ (a0 : Int32), f a0 = (if a0 < (48 : Int32) then (0 : Int32) else (if (57 : Int32) < a0 then (0 : Int32) else (1 : Int32))) := ⟨fun (a0 : Int32) => (if a0 < (48 : Int32) then (0 : Int32) else (if (57 : Int32) < a0 then (0 : Int32) else (1 : Int32))), fun _ => rfl⟩
noncomputable def s_X12_isFigure : Int32 → Int32 := Classical.choose s_X12_isFigure_ex
theorem s_X12_isFigure_eq (a0 : Int32) : s_X12_isFigure a0 = (if a0 < (48 : Int32) then (0 : Int32) else (if (57 : Int32) < a0 then (0 : Int32) else (1 : Int32))) := Classical.choose_spec s_X12_isFigure_ex a0
set_option maxHeartbeats 4000000 in
set_option maxRecDepth 100000 in
theorem t_X12_isFigure (l : Launch) (G : Gt) (a0 : Int32) : Mt l yX12_isFigure cX12_isFigure 1 (some .boolean) ({ frames := 0, cells := 0, slots := 0, locals := 0 } : Room) G [.int a0] [] (sI G (s_X12_isFigure a0)) := by
  obtain ⟨r, h⟩ : ∃ r, s_X12_isFigure a0 = r := ⟨_, rfl⟩
  rw [h]
  refine Bk.mt (by decide) rfl (Nat.le_of_ble_eq_true rfl) ?_
  intro p e s m below meth c A ls H locs cx hr hlk hA hl hw
  have hx := cx.1
  have hb := cx.2.1
  have hl : lv_has ls 1 [(0, .int a0)] := hl
  rw [s_X12_isFigure_eq] at h
  refine lv_iload_n hx hb dX12_isFigure_0 rfl (lv_at hl 0 rfl) ?_
  refine lv_bipush (v := 48) hx hb dX12_isFigure_1 (by decide) ?_
  refine lv_icmp_lt (tgt := 16) hx hb dX12_isFigure_3 (by decide) (fun c1 => ?_) (fun c1 => ?_)
  · rw [if_pos c1] at h
    refine lv_iconst (v := 0) hx hb dX12_isFigure_16 (by decide) ?_
    exact s_zret cx hr hlk rfl hw h dX12_isFigure_17
  · rw [if_neg c1] at h
    refine lv_iload_n hx hb dX12_isFigure_6 rfl (lv_at hl 0 rfl) ?_
    refine lv_bipush (v := 57) hx hb dX12_isFigure_7 (by decide) ?_
    refine lv_icmp_gt (tgt := 16) hx hb dX12_isFigure_9 (by decide) (fun c2 => ?_) (fun c2 => ?_)
    · rw [if_pos c2] at h
      refine lv_iconst (v := 0) hx hb dX12_isFigure_16 (by decide) ?_
      exact s_zret cx hr hlk rfl hw h dX12_isFigure_17
    · rw [if_neg c2] at h
      refine lv_iconst (v := 1) hx hb dX12_isFigure_12 (by decide) ?_
      refine lv_goto (tgt := 17) hx hb dX12_isFigure_13 (by decide) ?_
      exact s_zret cx hr hlk rfl hw h dX12_isFigure_17

theorem s_X12_isVarLetter_ex : ∃ f : Int32 → Int32, ∀ (a0 : Int32), f a0 = (if a0 < (109 : Int32) then (0 : Int32) else (if (122 : Int32) < a0 then (0 : Int32) else (1 : Int32))) := ⟨fun (a0 : Int32) => (if a0 < (109 : Int32) then (0 : Int32) else (if (122 : Int32) < a0 then (0 : Int32) else (1 : Int32))), fun _ => rfl⟩
noncomputable def s_X12_isVarLetter : Int32 → Int32 := Classical.choose s_X12_isVarLetter_ex
theorem s_X12_isVarLetter_eq (a0 : Int32) : s_X12_isVarLetter a0 = (if a0 < (109 : Int32) then (0 : Int32) else (if (122 : Int32) < a0 then (0 : Int32) else (1 : Int32))) := Classical.choose_spec s_X12_isVarLetter_ex a0
set_option maxHeartbeats 4000000 in
set_option maxRecDepth 100000 in
theorem t_X12_isVarLetter (l : Launch) (G : Gt) (a0 : Int32) : Mt l yX12_isVarLetter cX12_isVarLetter 1 (some .boolean) ({ frames := 0, cells := 0, slots := 0, locals := 0 } : Room) G [.int a0] [] (sI G (s_X12_isVarLetter a0)) := by
  obtain ⟨r, h⟩ : ∃ r, s_X12_isVarLetter a0 = r := ⟨_, rfl⟩
  rw [h]
  refine Bk.mt (by decide) rfl (Nat.le_of_ble_eq_true rfl) ?_
  intro p e s m below meth c A ls H locs cx hr hlk hA hl hw
  have hx := cx.1
  have hb := cx.2.1
  have hl : lv_has ls 1 [(0, .int a0)] := hl
  rw [s_X12_isVarLetter_eq] at h
  refine lv_iload_n hx hb dX12_isVarLetter_0 rfl (lv_at hl 0 rfl) ?_
  refine lv_bipush (v := 109) hx hb dX12_isVarLetter_1 (by decide) ?_
  refine lv_icmp_lt (tgt := 16) hx hb dX12_isVarLetter_3 (by decide) (fun c1 => ?_) (fun c1 => ?_)
  · rw [if_pos c1] at h
    refine lv_iconst (v := 0) hx hb dX12_isVarLetter_16 (by decide) ?_
    exact s_zret cx hr hlk rfl hw h dX12_isVarLetter_17
  · rw [if_neg c1] at h
    refine lv_iload_n hx hb dX12_isVarLetter_6 rfl (lv_at hl 0 rfl) ?_
    refine lv_bipush (v := 122) hx hb dX12_isVarLetter_7 (by decide) ?_
    refine lv_icmp_gt (tgt := 16) hx hb dX12_isVarLetter_9 (by decide) (fun c2 => ?_) (fun c2 => ?_)
    · rw [if_pos c2] at h
      refine lv_iconst (v := 0) hx hb dX12_isVarLetter_16 (by decide) ?_
      exact s_zret cx hr hlk rfl hw h dX12_isVarLetter_17
    · rw [if_neg c2] at h
      refine lv_iconst (v := 1) hx hb dX12_isVarLetter_12 (by decide) ?_
      refine lv_goto (tgt := 17) hx hb dX12_isVarLetter_13 (by decide) ?_
      exact s_zret cx hr hlk rfl hw h dX12_isVarLetter_17

theorem s_X12_isFunctionLetter_ex : ∃ f : Int32 → Int32, ∀ (a0 : Int32), f a0 = (if a0 < (97 : Int32) then (0 : Int32) else (if (108 : Int32) < a0 then (0 : Int32) else (1 : Int32))) := ⟨fun (a0 : Int32) => (if a0 < (97 : Int32) then (0 : Int32) else (if (108 : Int32) < a0 then (0 : Int32) else (1 : Int32))), fun _ => rfl⟩
noncomputable def s_X12_isFunctionLetter : Int32 → Int32 := Classical.choose s_X12_isFunctionLetter_ex
theorem s_X12_isFunctionLetter_eq (a0 : Int32) : s_X12_isFunctionLetter a0 = (if a0 < (97 : Int32) then (0 : Int32) else (if (108 : Int32) < a0 then (0 : Int32) else (1 : Int32))) := Classical.choose_spec s_X12_isFunctionLetter_ex a0
set_option maxHeartbeats 4000000 in
set_option maxRecDepth 100000 in
theorem t_X12_isFunctionLetter (l : Launch) (G : Gt) (a0 : Int32) : Mt l yX12_isFunctionLetter cX12_isFunctionLetter 1 (some .boolean) ({ frames := 0, cells := 0, slots := 0, locals := 0 } : Room) G [.int a0] [] (sI G (s_X12_isFunctionLetter a0)) := by
  obtain ⟨r, h⟩ : ∃ r, s_X12_isFunctionLetter a0 = r := ⟨_, rfl⟩
  rw [h]
  refine Bk.mt (by decide) rfl (Nat.le_of_ble_eq_true rfl) ?_
  intro p e s m below meth c A ls H locs cx hr hlk hA hl hw
  have hx := cx.1
  have hb := cx.2.1
  have hl : lv_has ls 1 [(0, .int a0)] := hl
  rw [s_X12_isFunctionLetter_eq] at h
  refine lv_iload_n hx hb dX12_isFunctionLetter_0 rfl (lv_at hl 0 rfl) ?_
  refine lv_bipush (v := 97) hx hb dX12_isFunctionLetter_1 (by decide) ?_
  refine lv_icmp_lt (tgt := 16) hx hb dX12_isFunctionLetter_3 (by decide) (fun c1 => ?_) (fun c1 => ?_)
  · rw [if_pos c1] at h
    refine lv_iconst (v := 0) hx hb dX12_isFunctionLetter_16 (by decide) ?_
    exact s_zret cx hr hlk rfl hw h dX12_isFunctionLetter_17
  · rw [if_neg c1] at h
    refine lv_iload_n hx hb dX12_isFunctionLetter_6 rfl (lv_at hl 0 rfl) ?_
    refine lv_bipush (v := 108) hx hb dX12_isFunctionLetter_7 (by decide) ?_
    refine lv_icmp_gt (tgt := 16) hx hb dX12_isFunctionLetter_9 (by decide) (fun c2 => ?_) (fun c2 => ?_)
    · rw [if_pos c2] at h
      refine lv_iconst (v := 0) hx hb dX12_isFunctionLetter_16 (by decide) ?_
      exact s_zret cx hr hlk rfl hw h dX12_isFunctionLetter_17
    · rw [if_neg c2] at h
      refine lv_iconst (v := 1) hx hb dX12_isFunctionLetter_12 (by decide) ?_
      refine lv_goto (tgt := 17) hx hb dX12_isFunctionLetter_13 (by decide) ?_
      exact s_zret cx hr hlk rfl hw h dX12_isFunctionLetter_17

theorem p_X12_fails_ex : ∃ f : Int32 → Mem → Option (Int32 × Mem), ∀ (a1 : Int32) (μ : Mem), f a1 μ = bv (sF μ 0 5 a1) (fun μ1 => some ((0 : Int32), μ1)) := ⟨fun (a1 : Int32) (μ : Mem) => bv (sF μ 0 5 a1) (fun μ1 => some ((0 : Int32), μ1)), fun _ _ => rfl⟩
noncomputable def p_X12_fails : Int32 → Mem → Option (Int32 × Mem) := Classical.choose p_X12_fails_ex
theorem p_X12_fails_eq (a1 : Int32) (μ : Mem) : p_X12_fails a1 μ = bv (sF μ 0 5 a1) (fun μ1 => some ((0 : Int32), μ1)) := Classical.choose_spec p_X12_fails_ex a1 μ
set_option maxHeartbeats 4000000 in
set_option maxRecDepth 100000 in
theorem t_X12_fails (l : Launch) (G : Gt) (ad : Nat → Nat) (a1 : Int32) (μ : Mem) {r : Int32} {μz : Mem} (h : p_X12_fails a1 μ = some (r, μz)) : Mt l yX12_fails cX12_fails 2 (some .boolean) ({ frames := 0, cells := 0, slots := 0, locals := 0 } : Room) G [.ref (ad 0), .int a1] (wd 1 G ad μ) (eI 1 G ad r μz) := by
  refine Bk.mt (by decide) rfl (Nat.le_of_ble_eq_true rfl) ?_
  intro p e s m below meth c A ls H locs cx hr hlk hA hl hw
  have hx := cx.1
  have hb := cx.2.1
  have hl : lv_has ls 2 [(0, .ref (ad 0)), (1, .int a1)] := hl
  rw [p_X12_fails_eq] at h
  refine lv_aload_n hx hb dX12_fails_0 rfl (lv_at hl 0 rfl) ?_
  refine lv_iload_n hx hb dX12_fails_1 rfl (lv_at hl 1 rfl) ?_
  refine g_put cx hw inX12 (ci := 11) rfl tyX12_ok nmX12 5 (by decide) rfl rfl rfl rfl shm_0 h fl_X12_13 dX12_fails_2 (fun μ1 H locs h hw => ?_)
  refine lv_iconst (v := 0) hx hb dX12_fails_5 (by decide) ?_
  exact g_zret cx hr hlk rfl hw h dX12_fails_6

theorem p_X12_takes_ex : ∃ f : Int32 → Mem → Option (Int32 × Mem), ∀ (a1 : Int32) (μ : Mem), f a1 μ = bd (p_X12_here μ) (fun r2 μ1 => (if r2 = a1 then bv (sF μ1 0 4 ((μ1.1 0 4) + (1 : Int32))) (fun μ4 => some ((1 : Int32), μ4)) else bd (p_X12_fails (μ1.1 0 4) μ1) (fun r6 μ5 => gd (isB r6) (some (r6, μ5))))) := ⟨fun (a1 : Int32) (μ : Mem) => bd (p_X12_here μ) (fun r2 μ1 => (if r2 = a1 then bv (sF μ1 0 4 ((μ1.1 0 4) + (1 : Int32))) (fun μ4 => some ((1 : Int32), μ4)) else bd (p_X12_fails (μ1.1 0 4) μ1) (fun r6 μ5 => gd (isB r6) (some (r6, μ5))))), fun _ _ => rfl⟩
noncomputable def p_X12_takes : Int32 → Mem → Option (Int32 × Mem) := Classical.choose p_X12_takes_ex
theorem p_X12_takes_eq (a1 : Int32) (μ : Mem) : p_X12_takes a1 μ = bd (p_X12_here μ) (fun r2 μ1 => (if r2 = a1 then bv (sF μ1 0 4 ((μ1.1 0 4) + (1 : Int32))) (fun μ4 => some ((1 : Int32), μ4)) else bd (p_X12_fails (μ1.1 0 4) μ1) (fun r6 μ5 => gd (isB r6) (some (r6, μ5))))) := Classical.choose_spec p_X12_takes_ex a1 μ
set_option maxHeartbeats 4000000 in
set_option maxRecDepth 100000 in
theorem t_X12_takes (l : Launch) (G : Gt) (ad : Nat → Nat) (a1 : Int32) (μ : Mem) {r : Int32} {μz : Mem} (h : p_X12_takes a1 μ = some (r, μz)) : Mt l yX12_takes cX12_takes 2 (some .boolean) ({ frames := 1, cells := 0, slots := 0, locals := 21 } : Room) G [.ref (ad 0), .int a1] (wd 1 G ad μ) (eI 1 G ad r μz) := by
  refine Bk.mt (by decide) rfl (Nat.le_of_ble_eq_true rfl) ?_
  intro p e s m below meth c A ls H locs cx hr hlk hA hl hw
  have hx := cx.1
  have hb := cx.2.1
  have hl : lv_has ls 2 [(0, .ref (ad 0)), (1, .int a1)] := hl
  rw [p_X12_takes_eq] at h
  refine lv_aload_n hx hb dX12_takes_0 rfl (lv_at hl 0 rfl) ?_
  obtain ⟨r2, μ1, gr2, h⟩ := bd_some h
  refine g_callVI (As := []) (rest := []) cx hw hA (t_X12_here l G ad μ gr2) shm_0 rfl ml_X12_365 im_X12_here se_X12_here in_X12 co_X12_here rfl hd_X12_here rfl ⟨(Nat.le_of_ble_eq_true rfl), (Nat.le_of_ble_eq_true rfl)⟩ hl.1 rfl (Nat.le_of_ble_eq_true rfl) dX12_takes_1 ⟨rfl, rfl⟩ (fun H locs hw => ?_)
  refine lv_iload_n hx hb dX12_takes_4 rfl (lv_at hl 1 rfl) ?_
  refine lv_icmp_eq (tgt := 17) hx hb dX12_takes_5 (by decide) (fun c3 => ?_) (fun c3 => ?_)
  · rw [if_pos c3] at h
    refine lv_aload_n hx hb dX12_takes_17 rfl (lv_at hl 0 rfl) ?_
    refine lv_dup hx hb dX12_takes_18 rfl ?_
    refine g_get cx hw inX12 (ci := 11) rfl 4 (by decide) rfl (v := .int (μ1.1 0 4)) shm_0 rfl fl_X12_362 dX12_takes_19 ?_
    refine lv_iconst (v := 1) hx hb dX12_takes_22 (by decide) ?_
    refine lv_iadd hx hb dX12_takes_23 ?_
    refine g_put cx hw inX12 (ci := 11) rfl tyX12_ok nmX12 4 (by decide) rfl rfl rfl rfl shm_0 h fl_X12_362 dX12_takes_24 (fun μ4 H locs h hw => ?_)
    refine lv_iconst (v := 1) hx hb dX12_takes_27 (by decide) ?_
    exact g_zret cx hr hlk rfl hw h dX12_takes_28
  · rw [if_neg c3] at h
    refine lv_aload_n hx hb dX12_takes_8 rfl (lv_at hl 0 rfl) ?_
    refine lv_aload_n hx hb dX12_takes_9 rfl (lv_at hl 0 rfl) ?_
    refine g_get cx hw inX12 (ci := 11) rfl 4 (by decide) rfl (v := .int (μ1.1 0 4)) shm_0 rfl fl_X12_362 dX12_takes_10 ?_
    obtain ⟨r6, μ5, gr6, h⟩ := bd_some h
    refine g_callVI (As := [.int (μ1.1 0 4)]) (rest := []) cx hw hA (t_X12_fails l G ad (μ1.1 0 4) μ1 gr6) shm_0 rfl ml_X12_369 im_X12_fails se_X12_fails in_X12 co_X12_fails rfl hd_X12_fails rfl ⟨(Nat.le_of_ble_eq_true rfl), (Nat.le_of_ble_eq_true rfl)⟩ hl.1 rfl (Nat.le_of_ble_eq_true rfl) dX12_takes_13 ⟨rfl, rfl⟩ (fun H locs hw => ?_)
    obtain ⟨c7, h⟩ := gd_some h
    exact g_zret cx hr hlk (isB_n c7) hw h dX12_takes_16

theorem p_X12_beginText_ex : ∃ f : Mem → Option Mem, ∀  (μ : Mem), f  μ = bv (sF μ 0 4 (0 : Int32)) (fun μ1 => bv (sF μ1 0 5 (-1 : Int32)) (fun μ2 => some μ2)) := ⟨fun  (μ : Mem) => bv (sF μ 0 4 (0 : Int32)) (fun μ1 => bv (sF μ1 0 5 (-1 : Int32)) (fun μ2 => some μ2)), fun _ => rfl⟩
noncomputable def p_X12_beginText : Mem → Option Mem := Classical.choose p_X12_beginText_ex
theorem p_X12_beginText_eq  (μ : Mem) : p_X12_beginText  μ = bv (sF μ 0 4 (0 : Int32)) (fun μ1 => bv (sF μ1 0 5 (-1 : Int32)) (fun μ2 => some μ2)) := Classical.choose_spec p_X12_beginText_ex  μ
set_option maxHeartbeats 4000000 in
set_option maxRecDepth 100000 in
theorem t_X12_beginText (l : Launch) (G : Gt) (ad : Nat → Nat)  (μ : Mem) {μz : Mem} (h : p_X12_beginText  μ = some μz) : Mt l yX12_beginText cX12_beginText 1 none ({ frames := 0, cells := 0, slots := 0, locals := 0 } : Room) G [.ref (ad 0)] (wd 1 G ad μ) (eV 1 G ad μz) := by
  refine Bk.mt (by decide) rfl (Nat.le_of_ble_eq_true rfl) ?_
  intro p e s m below meth c A ls H locs cx hr hlk hA hl hw
  have hx := cx.1
  have hb := cx.2.1
  have hl : lv_has ls 1 [(0, .ref (ad 0))] := hl
  rw [p_X12_beginText_eq] at h
  refine lv_aload_n hx hb dX12_beginText_0 rfl (lv_at hl 0 rfl) ?_
  refine lv_iconst (v := 0) hx hb dX12_beginText_1 (by decide) ?_
  refine g_put cx hw inX12 (ci := 11) rfl tyX12_ok nmX12 4 (by decide) rfl rfl rfl rfl shm_0 h fl_X12_362 dX12_beginText_2 (fun μ1 H locs h hw => ?_)
  refine lv_aload_n hx hb dX12_beginText_5 rfl (lv_at hl 0 rfl) ?_
  refine lv_iconst (v := (-1)) hx hb dX12_beginText_6 (by decide) ?_
  refine g_put cx hw inX12 (ci := 11) rfl tyX12_ok nmX12 5 (by decide) rfl rfl rfl rfl shm_0 h fl_X12_13 dX12_beginText_7 (fun μ2 H locs h hw => ?_)
  exact g_vret cx hr hlk hw h dX12_beginText_10
