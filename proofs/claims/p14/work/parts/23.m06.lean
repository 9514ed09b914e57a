theorem s_X0_add_b41_ex : ∃ f : Int32 → Int32 → Int32 → Int32 → Int32, ∀ (a0 : Int32) (a1 : Int32) (a2 : Int32) (k0 : Int32), f a0 a1 a2 k0 = (if k0 = (0 : Int32) then (if a2 = (0 : Int32) then a1 else a0) else (2143289344 : Int32)) := ⟨fun (a0 : Int32) (a1 : Int32) (a2 : Int32) (k0 : Int32) => (if k0 = (0 : Int32) then (if a2 = (0 : Int32) then a1 else a0) else (2143289344 : Int32)), fun _ _ _ _ => rfl⟩
noncomputable def s_X0_add_b41 : Int32 → Int32 → Int32 → Int32 → Int32 := Classical.choose s_X0_add_b41_ex
theorem s_X0_add_b41_eq (a0 : Int32) (a1 : Int32) (a2 : Int32) (k0 : Int32) : s_X0_add_b41 a0 a1 a2 k0 = (if k0 = (0 : Int32) then (if a2 = (0 : Int32) then a1 else a0) else (2143289344 : Int32)) := Classical.choose_spec s_X0_add_b41_ex a0 a1 a2 k0
set_option maxHeartbeats 4000000 in
set_option maxRecDepth 100000 in
theorem t_X0_add_b41 (l : Launch) (G : Gt) (av : List Value) {r : Int32} (a0 : Int32) (a1 : Int32) (a2 : Int32) (k0 : Int32) (h : s_X0_add_b41  a0 a1 a2 k0 = r) : Bk l cX0_add 8 RX0 (some .int) ({ frames := 3, cells := 0, slots := 0, locals := 75 } : Room) G av (sI G r) [] 41 [(0, .int a0), (1, .int a1), (2, .int a2)] [.int k0] := by
  intro p e s m below meth c A ls H locs cx hr hlk hA hl hw
  have hx := cx.1
  have hb := cx.2.1
  rw [s_X0_add_b41_eq] at h
  refine lv_istore_n (lv' := [(3, .int k0), (0, .int a0), (1, .int a1), (2, .int a2)]) hx hb dX0_add_41 rfl hl (by decide) rfl (fun ls hl => ?_)
  refine lv_iload_n hx hb dX0_add_42 rfl (lv_at hl 0 rfl) ?_
  refine lv_if_eq (tgt := 51) hx hb dX0_add_43 (by decide) (fun c4 => ?_) (fun c4 => ?_)
  · rw [if_pos c4] at h
    refine lv_iload_n hx hb dX0_add_51 rfl (lv_at hl 3 rfl) ?_
    refine lv_if_eq (tgt := 59) hx hb dX0_add_52 (by decide) (fun c5 => ?_) (fun c5 => ?_)
    · rw [if_pos c5] at h
      refine lv_iload_n hx hb dX0_add_59 rfl (lv_at hl 2 rfl) ?_
      exact s_iret cx hr hlk hw h dX0_add_60
    · rw [if_neg c5] at h
      refine lv_iload_n hx hb dX0_add_55 rfl (lv_at hl 1 rfl) ?_
      refine lv_goto (tgt := 60) hx hb dX0_add_56 (by decide) ?_
      exact s_iret cx hr hlk hw h dX0_add_60
  · rw [if_neg c4] at h
    refine lv_ldc hx hb cx.2.2.2.1 (cx.2.2.2.2.1 _ cs_X0_47) dX0_add_46 ?_
    refine lv_goto (tgt := 60) hx hb dX0_add_48 (by decide) ?_
    exact s_iret cx hr hlk hw h dX0_add_60
theorem s_X0_add_b28_ex : ∃ f : Int32 → Int32 → Int32 → Int32, ∀ (a0 : Int32) (a1 : Int32) (a2 : Int32), f a0 a1 a2 = (if (a0 ^^^ a1) = (-2147483648 : Int32) then s_X0_add_b41  a0 a1 a2 (1 : Int32) else s_X0_add_b41  a0 a1 a2 (0 : Int32)) := ⟨fun (a0 : Int32) (a1 : Int32) (a2 : Int32) => (if (a0 ^^^ a1) = (-2147483648 : Int32) then s_X0_add_b41  a0 a1 a2 (1 : Int32) else s_X0_add_b41  a0 a1 a2 (0 : Int32)), fun _ _ _ => rfl⟩
noncomputable def s_X0_add_b28 : Int32 → Int32 → Int32 → Int32 := Classical.choose s_X0_add_b28_ex
theorem s_X0_add_b28_eq (a0 : Int32) (a1 : Int32) (a2 : Int32) : s_X0_add_b28 a0 a1 a2 = (if (a0 ^^^ a1) = (-2147483648 : Int32) then s_X0_add_b41  a0 a1 a2 (1 : Int32) else s_X0_add_b41  a0 a1 a2 (0 : Int32)) := Classical.choose_spec s_X0_add_b28_ex a0 a1 a2
set_option maxHeartbeats 4000000 in
set_option maxRecDepth 100000 in
theorem t_X0_add_b28 (l : Launch) (G : Gt) (av : List Value) {r : Int32} (a0 : Int32) (a1 : Int32) (a2 : Int32) (h : s_X0_add_b28  a0 a1 a2 = r) : Bk l cX0_add 8 RX0 (some .int) ({ frames := 3, cells := 0, slots := 0, locals := 75 } : Room) G av (sI G r) [] 28 [(0, .int a0), (1, .int a1), (2, .int a2)] [] := by
  intro p e s m below meth c A ls H locs cx hr hlk hA hl hw
  have hx := cx.1
  have hb := cx.2.1
  rw [s_X0_add_b28_eq] at h
  refine lv_iload_n hx hb dX0_add_28 rfl (lv_at hl 0 rfl) ?_
  refine lv_iload_n hx hb dX0_add_29 rfl (lv_at hl 1 rfl) ?_
  refine lv_ixor hx hb dX0_add_30 ?_
  refine lv_ldc hx hb cx.2.2.2.1 (cx.2.2.2.2.1 _ cs_X0_51) dX0_add_31 ?_
  refine lv_icmp_ne (tgt := 40) hx hb dX0_add_33 (by decide) (fun c3 => ?_) (fun c3 => ?_)
  · rw [if_neg c3] at h
    refine lv_iconst (v := 0) hx hb dX0_add_40 (by decide) ?_
    exact t_X0_add_b41 l G av  a0 a1 a2 (0 : Int32) h p e s m below meth c A ls H locs cx hr hlk hA (lv_sub hl [0, 1, 2] rfl) hw
  · rw [if_pos c3] at h
    refine lv_iconst (v := 1) hx hb dX0_add_36 (by decide) ?_
    refine lv_goto (tgt := 41) hx hb dX0_add_37 (by decide) ?_
    exact t_X0_add_b41 l G av  a0 a1 a2 (1 : Int32) h p e s m below meth c A ls H locs cx hr hlk hA (lv_sub hl [0, 1, 2] rfl) hw
theorem s_X0_add_b145_ex : ∃ f : Int32 → Int32 → Int32 → Int32 → Int64 → Int32, ∀ (a0 : Int32) (a1 : Int32) (a3 : Int32) (a4 : Int32) (k0 : Int64), f a0 a1 a3 a4 k0 = (if (lg_cmp k0 (0 : Int64)) = (0 : Int32) then ((a0 &&& a1) &&& (-2147483648 : Int32)) else (s_X0_pack ((a3.toUInt32 >>> ((31 : Int32).toUInt32 &&& Int32.toUInt32 31)).toInt32) k0 (s_X0_lastBitOf a4))) := ⟨fun (a0 : Int32) (a1 : Int32) (a3 : Int32) (a4 : Int32) (k0 : Int64) => (if (lg_cmp k0 (0 : Int64)) = (0 : Int32) then ((a0 &&& a1) &&& (-2147483648 : Int32)) else (s_X0_pack ((a3.toUInt32 >>> ((31 : Int32).toUInt32 &&& Int32.toUInt32 31)).toInt32) k0 (s_X0_lastBitOf a4))), fun _ _ _ _ _ => rfl⟩
noncomputable def s_X0_add_b145 : Int32 → Int32 → Int32 → Int32 → Int64 → Int32 := Classical.choose s_X0_add_b145_ex
theorem s_X0_add_b145_eq (a0 : Int32) (a1 : Int32) (a3 : Int32) (a4 : Int32) (k0 : Int64) : s_X0_add_b145 a0 a1 a3 a4 k0 = (if (lg_cmp k0 (0 : Int64)) = (0 : Int32) then ((a0 &&& a1) &&& (-2147483648 : Int32)) else (s_X0_pack ((a3.toUInt32 >>> ((31 : Int32).toUInt32 &&& Int32.toUInt32 31)).toInt32) k0 (s_X0_lastBitOf a4))) := Classical.choose_spec s_X0_add_b145_ex a0 a1 a3 a4 k0
set_option maxHeartbeats 4000000 in
set_option maxRecDepth 100000 in
theorem t_X0_add_b145 (l : Launch) (G : Gt) (av : List Value) {r : Int32} (a0 : Int32) (a1 : Int32) (a3 : Int32) (a4 : Int32) (k0 : Int64) (h : s_X0_add_b145  a0 a1 a3 a4 k0 = r) : Bk l cX0_add 8 RX0 (some .int) ({ frames := 3, cells := 0, slots := 0, locals := 75 } : Room) G av (sI G r) [] 145 [(0, .int a0), (1, .int a1), (3, .int a3), (4, .int a4)] [.long k0] := by
  intro p e s m below meth c A ls H locs cx hr hlk hA hl hw
  have hx := cx.1
  have hb := cx.2.1
  rw [s_X0_add_b145_eq] at h
  refine lv_lstore (lv' := [(6, .long k0), (0, .int a0), (1, .int a1), (3, .int a3), (4, .int a4)]) hx hb dX0_add_145 hl (by decide) rfl (fun ls hl => ?_)
  refine lv_lload hx hb dX0_add_147 (lv_at hl 0 rfl) ?_
  refine lv_lconst (v := 0) hx hb dX0_add_149 (by decide) ?_
  refine W.lcmp hx hb dX0_add_150 ?_
  refine lv_if_ne (tgt := 161) hx hb dX0_add_151 (by decide) (fun c13 => ?_) (fun c13 => ?_)
  · rw [if_neg c13] at h
    refine lv_iload_n hx hb dX0_add_161 rfl (lv_at hl 3 rfl) ?_
    refine lv_bipush (v := 31) hx hb dX0_add_162 (by decide) ?_
    refine lv_iushr hx hb dX0_add_164 rfl ?_
    refine lv_lload hx hb dX0_add_165 (lv_at hl 0 rfl) ?_
    refine lv_iload hx hb dX0_add_167 (lv_at hl 4 rfl) ?_
    refine s_callI (As := [.int a4]) (rest := [.long k0, .int ((a3.toUInt32 >>> ((31 : Int32).toUInt32 &&& Int32.toUInt32 31)).toInt32)]) cx hw hA (t_X0_lastBitOf l G a4) ml_X0_63 st_X0_lastBitOf in_X0 co_X0_lastBitOf hd_X0_lastBitOf rfl ⟨(Nat.le_of_ble_eq_true rfl), (Nat.le_of_ble_eq_true rfl)⟩ hl.1 rfl (Nat.le_of_ble_eq_true rfl) dX0_add_169 rfl (fun H locs hw => ?_)
    refine s_callI (As := [.int ((a3.toUInt32 >>> ((31 : Int32).toUInt32 &&& Int32.toUInt32 31)).toInt32), .long k0, .int (s_X0_lastBitOf a4)]) (rest := []) cx hw hA (t_X0_pack l G ((a3.toUInt32 >>> ((31 : Int32).toUInt32 &&& Int32.toUInt32 31)).toInt32) k0 (s_X0_lastBitOf a4)) ml_X0_59 st_X0_pack in_X0 co_X0_pack hd_X0_pack rfl ⟨(Nat.le_of_ble_eq_true rfl), (Nat.le_of_ble_eq_true rfl)⟩ hl.1 rfl (Nat.le_of_ble_eq_true rfl) dX0_add_172 rfl (fun H locs hw => ?_)
    exact s_iret cx hr hlk hw h dX0_add_175
  · rw [if_pos c13] at h
    refine lv_iload_n hx hb dX0_add_154 rfl (lv_at hl 1 rfl) ?_
    refine lv_iload_n hx hb dX0_add_155 rfl (lv_at hl 2 rfl) ?_
    refine lv_iand hx hb dX0_add_156 ?_
    refine lv_ldc hx hb cx.2.2.2.1 (cx.2.2.2.2.1 _ cs_X0_51) dX0_add_157 ?_
    refine lv_iand hx hb dX0_add_159 ?_
    exact s_iret cx hr hlk hw h dX0_add_160
theorem s_X0_add_b88_ex : ∃ f : Int32 → Int32 → Int32 → Int32 → Int32, ∀ (a0 : Int32) (a1 : Int32) (a3 : Int32) (k0 : Int32), f a0 a1 a3 k0 = bv ((s_X0_lastBitOf a3) - (s_X0_lastBitOf k0)) (fun v9 => (if v9 ≤ (36 : Int32) then bv ((s_X0_wholeOf a3) <<< (v9.toInt64 &&& 63)) (fun v11 => (if (0 : Int32) ≤ (a0 ^^^ a1) then s_X0_add_b145  a0 a1 a3 k0 (v11 + (s_X0_wholeOf k0)) else s_X0_add_b145  a0 a1 a3 k0 (v11 - (s_X0_wholeOf k0)))) else a3)) := ⟨fun (a0 : Int32) (a1 : Int32) (a3 : Int32) (k0 : Int32) => bv ((s_X0_lastBitOf a3) - (s_X0_lastBitOf k0)) (fun v9 => (if v9 ≤ (36 : Int32) then bv ((s_X0_wholeOf a3) <<< (v9.toInt64 &&& 63)) (fun v11 => (if (0 : Int32) ≤ (a0 ^^^ a1) then s_X0_add_b145  a0 a1 a3 k0 (v11 + (s_X0_wholeOf k0)) else s_X0_add_b145  a0 a1 a3 k0 (v11 - (s_X0_wholeOf k0)))) else a3)), fun _ _ _ _ => rfl⟩
noncomputable def s_X0_add_b88 : Int32 → Int32 → Int32 → Int32 → Int32 := Classical.choose s_X0_add_b88_ex
theorem s_X0_add_b88_eq (a0 : Int32) (a1 : Int32) (a3 : Int32) (k0 : Int32) : s_X0_add_b88 a0 a1 a3 k0 = bv ((s_X0_lastBitOf a3) - (s_X0_lastBitOf k0)) (fun v9 => (if v9 ≤ (36 : Int32) then bv ((s_X0_wholeOf a3) <<< (v9.toInt64 &&& 63)) (fun v11 => (if (0 : Int32) ≤ (a0 ^^^ a1) then s_X0_add_b145  a0 a1 a3 k0 (v11 + (s_X0_wholeOf k0)) else s_X0_add_b145  a0 a1 a3 k0 (v11 - (s_X0_wholeOf k0)))) else a3)) := Classical.choose_spec s_X0_add_b88_ex a0 a1 a3 k0
set_option maxHeartbeats 4000000 in
set_option maxRecDepth 100000 in
theorem t_X0_add_b88 (l : Launch) (G : Gt) (av : List Value) {r : Int32} (a0 : Int32) (a1 : Int32) (a3 : Int32) (k0 : Int32) (h : s_X0_add_b88  a0 a1 a3 k0 = r) : Bk l cX0_add 8 RX0 (some .int) ({ frames := 3, cells := 0, slots := 0, locals := 75 } : Room) G av (sI G r) [] 88 [(0, .int a0), (1, .int a1), (3, .int a3)] [.int k0] := by
  intro p e s m below meth c A ls H locs cx hr hlk hA hl hw
  have hx := cx.1
  have hb := cx.2.1
  rw [s_X0_add_b88_eq] at h
  refine lv_istore (lv' := [(4, .int k0), (0, .int a0), (1, .int a1), (3, .int a3)]) hx hb dX0_add_88 hl (by decide) rfl (fun ls hl => ?_)
  refine lv_iload_n hx hb dX0_add_90 rfl (lv_at hl 3 rfl) ?_
  refine s_callI (As := [.int a3]) (rest := []) cx hw hA (t_X0_lastBitOf l G a3) ml_X0_63 st_X0_lastBitOf in_X0 co_X0_lastBitOf hd_X0_lastBitOf rfl ⟨(Nat.le_of_ble_eq_true rfl), (Nat.le_of_ble_eq_true rfl)⟩ hl.1 rfl (Nat.le_of_ble_eq_true rfl) dX0_add_91 rfl (fun H locs hw => ?_)
  refine lv_iload hx hb dX0_add_94 (lv_at hl 0 rfl) ?_
  refine s_callI (As := [.int k0]) (rest := [.int (s_X0_lastBitOf a3)]) cx hw hA (t_X0_lastBitOf l G k0) ml_X0_63 st_X0_lastBitOf in_X0 co_X0_lastBitOf hd_X0_lastBitOf rfl ⟨(Nat.le_of_ble_eq_true rfl), (Nat.le_of_ble_eq_true rfl)⟩ hl.1 rfl (Nat.le_of_ble_eq_true rfl) dX0_add_96 rfl (fun H locs hw => ?_)
  refine lv_isub hx hb dX0_add_99 ?_
  obtain ⟨v9, ev9, h⟩ := bv_ex h
  refine lv_topi (fun y9 z9 => ?_)
  obtain rfl : v9 = y9 := ev9.trans z9.symm
  refine lv_istore (lv' := [(5, .int v9), (4, .int k0), (0, .int a0), (1, .int a1), (3, .int a3)]) hx hb dX0_add_100 hl (by decide) rfl (fun ls hl => ?_)
  refine lv_iload hx hb dX0_add_102 (lv_at hl 0 rfl) ?_
  refine lv_bipush (v := 36) hx hb dX0_add_104 (by decide) ?_
  refine lv_icmp_le (tgt := 111) hx hb dX0_add_106 (by decide) (fun c10 => ?_) (fun c10 => ?_)
  · rw [if_pos c10] at h
    refine lv_iload_n hx hb dX0_add_111 rfl (lv_at hl 4 rfl) ?_
    refine s_callL (As := [.int a3]) (rest := []) cx hw hA (t_X0_wholeOf l G a3) ml_X0_67 st_X0_wholeOf in_X0 co_X0_wholeOf hd_X0_wholeOf rfl ⟨(Nat.le_of_ble_eq_true rfl), (Nat.le_of_ble_eq_true rfl)⟩ hl.1 rfl (Nat.le_of_ble_eq_true rfl) dX0_add_112 rfl (fun H locs hw => ?_)
    refine lv_iload hx hb dX0_add_115 (lv_at hl 0 rfl) ?_
    refine lv_lshl hx hb dX0_add_117 rfl ?_
    obtain ⟨v11, ev11, h⟩ := bv_ex h
    refine lv_topl (fun y9 z9 => ?_)
    obtain rfl : v11 = y9 := ev11.trans z9.symm
    refine lv_lstore (lv' := [(6, .long v11), (5, .int v9), (4, .int k0), (0, .int a0), (1, .int a1), (3, .int a3)]) hx hb dX0_add_118 hl (by decide) rfl (fun ls hl => ?_)
    refine lv_iload_n hx hb dX0_add_120 rfl (lv_at hl 3 rfl) ?_
    refine lv_iload_n hx hb dX0_add_121 rfl (lv_at hl 4 rfl) ?_
    refine lv_ixor hx hb dX0_add_122 ?_
    refine lv_if_ge (tgt := 137) hx hb dX0_add_123 (by decide) (fun c12 => ?_) (fun c12 => ?_)
    · rw [if_pos c12] at h
      refine lv_lload hx hb dX0_add_137 (lv_at hl 0 rfl) ?_
      refine lv_iload hx hb dX0_add_139 (lv_at hl 2 rfl) ?_
      refine s_callL (As := [.int k0]) (rest := [.long v11]) cx hw hA (t_X0_wholeOf l G k0) ml_X0_67 st_X0_wholeOf in_X0 co_X0_wholeOf hd_X0_wholeOf rfl ⟨(Nat.le_of_ble_eq_true rfl), (Nat.le_of_ble_eq_true rfl)⟩ hl.1 rfl (Nat.le_of_ble_eq_true rfl) dX0_add_141 rfl (fun H locs hw => ?_)
      refine lv_ladd hx hb dX0_add_144 ?_
      exact t_X0_add_b145 l G av  a0 a1 a3 k0 (v11 + (s_X0_wholeOf k0)) h p e s m below meth c A ls H locs cx hr hlk hA (lv_sub hl [3, 4, 5, 2] rfl) hw
    · rw [if_neg c12] at h
      refine lv_lload hx hb dX0_add_126 (lv_at hl 0 rfl) ?_
      refine lv_iload hx hb dX0_add_128 (lv_at hl 2 rfl) ?_
      refine s_callL (As := [.int k0]) (rest := [.long v11]) cx hw hA (t_X0_wholeOf l G k0) ml_X0_67 st_X0_wholeOf in_X0 co_X0_wholeOf hd_X0_wholeOf rfl ⟨(Nat.le_of_ble_eq_true rfl), (Nat.le_of_ble_eq_true rfl)⟩ hl.1 rfl (Nat.le_of_ble_eq_true rfl) dX0_add_130 rfl (fun H locs hw => ?_)
      refine lv_lsub hx hb dX0_add_133 ?_
      refine lv_goto (tgt := 145) hx hb dX0_add_134 (by decide) ?_
      exact t_X0_add_b145 l G av  a0 a1 a3 k0 (v11 - (s_X0_wholeOf k0)) h p e s m below meth c A ls H locs cx hr hlk hA (lv_sub hl [3, 4, 5, 2] rfl) hw
  · rw [if_neg c10] at h
    refine lv_iload_n hx hb dX0_add_109 rfl (lv_at hl 4 rfl) ?_
    exact s_iret cx hr hlk hw h dX0_add_110
theorem s_X0_add_b77_ex : ∃ f : Int32 → Int32 → Int32 → Int32, ∀ (a0 : Int32) (a1 : Int32) (k0 : Int32), f a0 a1 k0 = (if k0 = a0 then s_X0_add_b88  a0 a1 k0 a1 else s_X0_add_b88  a0 a1 k0 a0) := ⟨fun (a0 : Int32) (a1 : Int32) (k0 : Int32) => (if k0 = a0 then s_X0_add_b88  a0 a1 k0 a1 else s_X0_add_b88  a0 a1 k0 a0), fun _ _ _ => rfl⟩
noncomputable def s_X0_add_b77 : Int32 → Int32 → Int32 → Int32 := Classical.choose s_X0_add_b77_ex
theorem s_X0_add_b77_eq (a0 : Int32) (a1 : Int32) (k0 : Int32) : s_X0_add_b77 a0 a1 k0 = (if k0 = a0 then s_X0_add_b88  a0 a1 k0 a1 else s_X0_add_b88  a0 a1 k0 a0) := Classical.choose_spec s_X0_add_b77_ex a0 a1 k0
set_option maxHeartbeats 4000000 in
set_option maxRecDepth 100000 in
theorem t_X0_add_b77 (l : Launch) (G : Gt) (av : List Value) {r : Int32} (a0 : Int32) (a1 : Int32) (k0 : Int32) (h : s_X0_add_b77  a0 a1 k0 = r) : Bk l cX0_add 8 RX0 (some .int) ({ frames := 3, cells := 0, slots := 0, locals := 75 } : Room) G av (sI G r) [] 77 [(0, .int a0), (1, .int a1)] [.int k0] := by
  intro p e s m below meth c A ls H locs cx hr hlk hA hl hw
  have hx := cx.1
  have hb := cx.2.1
  rw [s_X0_add_b77_eq] at h
  refine lv_istore_n (lv' := [(3, .int k0), (0, .int a0), (1, .int a1)]) hx hb dX0_add_77 rfl hl (by decide) rfl (fun ls hl => ?_)
  refine lv_iload_n hx hb dX0_add_78 rfl (lv_at hl 0 rfl) ?_
  refine lv_iload_n hx hb dX0_add_79 rfl (lv_at hl 1 rfl) ?_
  refine lv_icmp_ne (tgt := 87) hx hb dX0_add_80 (by decide) (fun c8 => ?_) (fun c8 => ?_)
  · rw [if_neg c8] at h
    refine lv_iload_n hx hb dX0_add_87 rfl (lv_at hl 1 rfl) ?_
    exact t_X0_add_b88 l G av  a0 a1 k0 a0 h p e s m below meth c A ls H locs cx hr hlk hA (lv_sub hl [1, 2, 0] rfl) hw
  · rw [if_pos c8] at h
    refine lv_iload_n hx hb dX0_add_83 rfl (lv_at hl 2 rfl) ?_
    refine lv_goto (tgt := 88) hx hb dX0_add_84 (by decide) ?_
    exact t_X0_add_b88 l G av  a0 a1 k0 a1 h p e s m below meth c A ls H locs cx hr hlk hA (lv_sub hl [1, 2, 0] rfl) hw
theorem s_X0_add_b14_ex : ∃ f : Int32 → Int32 → Int32 → Int32, ∀ (a0 : Int32) (a1 : Int32) (k0 : Int32), f a0 a1 k0 = (if k0 = (0 : Int32) then (if (a1 &&& (2147483647 : Int32)) = (2139095040 : Int32) then s_X0_add_b28  a0 a1 k0 else (if (a0 &&& (2147483647 : Int32)) < (a1 &&& (2147483647 : Int32)) then s_X0_add_b77  a0 a1 a1 else s_X0_add_b77  a0 a1 a0)) else s_X0_add_b28  a0 a1 k0) := ⟨fun (a0 : Int32) (a1 : Int32) (k0 : Int32) => (if k0 = (0 : Int32) then (if (a1 &&& (2147483647 : Int32)) = (2139095040 : Int32) then s_X0_add_b28  a0 a1 k0 else (if (a0 &&& (2147483647 : Int32)) < (a1 &&& (2147483647 : Int32)) then s_X0_add_b77  a0 a1 a1 else s_X0_add_b77  a0 a1 a0)) else s_X0_add_b28  a0 a1 k0), fun _ _ _ => rfl⟩
noncomputable def s_X0_add_b14 : Int32 → Int32 → Int32 → Int32 := Classical.choose s_X0_add_b14_ex
theorem s_X0_add_b14_eq (a0 : Int32) (a1 : Int32) (k0 : Int32) : s_X0_add_b14 a0 a1 k0 = (if k0 = (0 : Int32) then (if (a1 &&& (2147483647 : Int32)) = (2139095040 : Int32) then s_X0_add_b28  a0 a1 k0 else (if (a0 &&& (2147483647 : Int32)) < (a1 &&& (2147483647 : Int32)) then s_X0_add_b77  a0 a1 a1 else s_X0_add_b77  a0 a1 a0)) else s_X0_add_b28  a0 a1 k0) := Classical.choose_spec s_X0_add_b14_ex a0 a1 k0
set_option maxHeartbeats 4000000 in
set_option maxRecDepth 100000 in
theorem t_X0_add_b14 (l : Launch) (G : Gt) (av : List Value) {r : Int32} (a0 : Int32) (a1 : Int32) (k0 : Int32) (h : s_X0_add_b14  a0 a1 k0 = r) : Bk l cX0_add 8 RX0 (some .int) ({ frames := 3, cells := 0, slots := 0, locals := 75 } : Room) G av (sI G r) [] 14 [(0, .int a0), (1, .int a1)] [.int k0] := by
  intro p e s m below meth c A ls H locs cx hr hlk hA hl hw
  have hx := cx.1
  have hb := cx.2.1
  rw [s_X0_add_b14_eq] at h
  refine lv_istore_n (lv' := [(2, .int k0), (0, .int a0), (1, .int a1)]) hx hb dX0_add_14 rfl hl (by decide) rfl (fun ls hl => ?_)
  refine lv_iload_n hx hb dX0_add_15 rfl (lv_at hl 0 rfl) ?_
  refine lv_if_ne (tgt := 28) hx hb dX0_add_16 (by decide) (fun c2 => ?_) (fun c2 => ?_)
  · rw [if_neg c2] at h
    exact t_X0_add_b28 l G av  a0 a1 k0 h p e s m below meth c A ls H locs cx hr hlk hA (lv_sub hl [1, 2, 0] rfl) hw
  · rw [if_pos c2] at h
    refine lv_iload_n hx hb dX0_add_19 rfl (lv_at hl 2 rfl) ?_
    refine lv_ldc hx hb cx.2.2.2.1 (cx.2.2.2.2.1 _ cs_X0_58) dX0_add_20 ?_
    refine lv_iand hx hb dX0_add_22 ?_
    refine lv_ldc hx hb cx.2.2.2.1 (cx.2.2.2.2.1 _ cs_X0_71) dX0_add_23 ?_
    refine lv_icmp_ne (tgt := 61) hx hb dX0_add_25 (by decide) (fun c6 => ?_) (fun c6 => ?_)
    · rw [if_neg c6] at h
      refine lv_iload_n hx hb dX0_add_61 rfl (lv_at hl 1 rfl) ?_
      refine lv_ldc hx hb cx.2.2.2.1 (cx.2.2.2.2.1 _ cs_X0_58) dX0_add_62 ?_
      refine lv_iand hx hb dX0_add_64 ?_
      refine lv_iload_n hx hb dX0_add_65 rfl (lv_at hl 2 rfl) ?_
      refine lv_ldc hx hb cx.2.2.2.1 (cx.2.2.2.2.1 _ cs_X0_58) dX0_add_66 ?_
      refine lv_iand hx hb dX0_add_68 ?_
      refine lv_icmp_lt (tgt := 76) hx hb dX0_add_69 (by decide) (fun c7 => ?_) (fun c7 => ?_)
      · rw [if_pos c7] at h
        refine lv_iload_n hx hb dX0_add_76 rfl (lv_at hl 2 rfl) ?_
        exact t_X0_add_b77 l G av  a0 a1 a1 h p e s m below meth c A ls H locs cx hr hlk hA (lv_sub hl [1, 2] rfl) hw
      · rw [if_neg c7] at h
        refine lv_iload_n hx hb dX0_add_72 rfl (lv_at hl 1 rfl) ?_
        refine lv_goto (tgt := 77) hx hb dX0_add_73 (by decide) ?_
        exact t_X0_add_b77 l G av  a0 a1 a0 h p e s m below meth c A ls H locs cx hr hlk hA (lv_sub hl [1, 2] rfl) hw
    · rw [if_pos c6] at h
      exact t_X0_add_b28 l G av  a0 a1 k0 h p e s m below meth c A ls H locs cx hr hlk hA (lv_sub hl [1, 2, 0] rfl) hw
theorem s_X0_add_ex : ∃ f : Int32 → Int32 → Int32, ∀ (a0 : Int32) (a1 : Int32), f a0 a1 = (if (a0 &&& (2147483647 : Int32)) = (2139095040 : Int32) then s_X0_add_b14  a0 a1 (1 : Int32) else s_X0_add_b14  a0 a1 (0 : Int32)) := ⟨fun (a0 : Int32) (a1 : Int32) => (if (a0 &&& (2147483647 : Int32)) = (2139095040 : Int32) then s_X0_add_b14  a0 a1 (1 : Int32) else s_X0_add_b14  a0 a1 (0 : Int32)), fun _ _ => rfl⟩
noncomputable def s_X0_add : Int32 → Int32 → Int32 := Classical.choose s_X0_add_ex
theorem s_X0_add_eq (a0 : Int32) (a1 : Int32) : s_X0_add a0 a1 = (if (a0 &&& (2147483647 : Int32)) = (2139095040 : Int32) then s_X0_add_b14  a0 a1 (1 : Int32) else s_X0_add_b14  a0 a1 (0 : Int32)) := Classical.choose_spec s_X0_add_ex a0 a1
set_option maxHeartbeats 4000000 in
set_option maxRecDepth 100000 in
theorem t_X0_add (l : Launch) (G : Gt) (a0 : Int32) (a1 : Int32) : Mt l yX0_add cX0_add 8 (some .int) ({ frames := 3, cells := 0, slots := 0, locals := 75 } : Room) G [.int a0, .int a1] [] (sI G (s_X0_add a0 a1)) := by
  obtain ⟨r, h⟩ : ∃ r, s_X0_add a0 a1 = r := ⟨_, rfl⟩
  rw [h]
  refine Bk.mt (by decide) rfl (Nat.le_of_ble_eq_true rfl) ?_
  intro p e s m below meth c A ls H locs cx hr hlk hA hl hw
  have hx := cx.1
  have hb := cx.2.1
  have hl : lv_has ls 8 [(0, .int a0), (1, .int a1)] := hl
  rw [s_X0_add_eq] at h
  refine lv_iload_n hx hb dX0_add_0 rfl (lv_at hl 0 rfl) ?_
  refine lv_ldc hx hb cx.2.2.2.1 (cx.2.2.2.2.1 _ cs_X0_58) dX0_add_1 ?_
  refine lv_iand hx hb dX0_add_3 ?_
  refine lv_ldc hx hb cx.2.2.2.1 (cx.2.2.2.2.1 _ cs_X0_71) dX0_add_4 ?_
  refine lv_icmp_ne (tgt := 13) hx hb dX0_add_6 (by decide) (fun c1 => ?_) (fun c1 => ?_)
  · rw [if_neg c1] at h
    refine lv_iconst (v := 0) hx hb dX0_add_13 (by decide) ?_
    exact t_X0_add_b14 l G _  a0 a1 (0 : Int32) h p e s m below meth c A ls H locs cx hr hlk hA (lv_sub hl [0, 1] rfl) hw
  · rw [if_pos c1] at h
    refine lv_iconst (v := 1) hx hb dX0_add_9 (by decide) ?_
    refine lv_goto (tgt := 14) hx hb dX0_add_10 (by decide) ?_
    exact t_X0_add_b14 l G _  a0 a1 (1 : Int32) h p e s m below meth c A ls H locs cx hr hlk hA (lv_sub hl [0, 1] rfl) hw

theorem s_X0_multiply_b50_ex : ∃ f : Int32 → Int32 → Int32 → Int32 → Int32 → Int32, ∀ (a0 : Int32) (a1 : Int32) (a2 : Int32) (a3 : Int32) (k0 : Int32), f a0 a1 a2 a3 k0 = (if a3 = (0 : Int32) then (s_X0_pack a2 ((s_X0_wholeOf a0) * (s_X0_wholeOf a1)) ((s_X0_lastBitOf a0) + (s_X0_lastBitOf a1))) else (if k0 = (0 : Int32) then ((a2 <<< ((31 : Int32) &&& 31)) ||| (2139095040 : Int32)) else (2143289344 : Int32))) := ⟨fun (a0 : Int32) (a1 : Int32) (a2 : Int32) (a3 : Int32) (k0 : Int32) => (if a3 = (0 : Int32) then (s_X0_pack a2 ((s_X0_wholeOf a0) * (s_X0_wholeOf a1)) ((s_X0_lastBitOf a0) + (s_X0_lastBitOf a1))) else (if k0 = (0 : Int32) then ((a2 <<< ((31 : Int32) &&& 31)) ||| (2139095040 : Int32)) else (2143289344 : Int32))), fun _ _ _ _ _ => rfl⟩
noncomputable def s_X0_multiply_b50 : Int32 → Int32 → Int32 → Int32 → Int32 → Int32 := Classical.choose s_X0_multiply_b50_ex
theorem s_X0_multiply_b50_eq (a0 : Int32) (a1 : Int32) (a2 : Int32) (a3 : Int32) (k0 : Int32) : s_X0_multiply_b50 a0 a1 a2 a3 k0 = (if a3 = (0 : Int32) then (s_X0_pack a2 ((s_X0_wholeOf a0) * (s_X0_wholeOf a1)) ((s_X0_lastBitOf a0) + (s_X0_lastBitOf a1))) else (if k0 = (0 : Int32) then ((a2 <<< ((31 : Int32) &&& 31)) ||| (2139095040 : Int32)) else (2143289344 : Int32))) := Classical.choose_spec s_X0_multiply_b50_ex a0 a1 a2 a3 k0
set_option maxHeartbeats 4000000 in
set_option maxRecDepth 100000 in
theorem t_X0_multiply_b50 (l : Launch) (G : Gt) (av : List Value) {r : Int32} (a0 : Int32) (a1 : Int32) (a2 : Int32) (a3 : Int32) (k0 : Int32) (h : s_X0_multiply_b50  a0 a1 a2 a3 k0 = r) : Bk l cX0_multiply 5 RX0 (some .int) ({ frames := 3, cells := 0, slots := 0, locals := 75 } : Room) G av (sI G r) [] 50 [(0, .int a0), (1, .int a1), (2, .int a2), (3, .int a3)] [.int k0] := by
  intro p e s m below meth c A ls H locs cx hr hlk hA hl hw
  have hx := cx.1
  have hb := cx.2.1
  rw [s_X0_multiply_b50_eq] at h
  refine lv_istore (lv' := [(4, .int k0), (0, .int a0), (1, .int a1), (2, .int a2), (3, .int a3)]) hx hb dX0_multiply_50 hl (by decide) rfl (fun ls hl => ?_)
  refine lv_iload_n hx hb dX0_multiply_52 rfl (lv_at hl 4 rfl) ?_
  refine lv_if_eq (tgt := 74) hx hb dX0_multiply_53 (by decide) (fun c4 => ?_) (fun c4 => ?_)
  · rw [if_pos c4] at h
    refine lv_iload_n hx hb dX0_multiply_74 rfl (lv_at hl 3 rfl) ?_
    refine lv_iload_n hx hb dX0_multiply_75 rfl (lv_at hl 1 rfl) ?_
    refine s_callL (As := [.int a0]) (rest := [.int a2]) cx hw hA (t_X0_wholeOf l G a0) ml_X0_67 st_X0_wholeOf in_X0 co_X0_wholeOf hd_X0_wholeOf rfl ⟨(Nat.le_of_ble_eq_true rfl), (Nat.le_of_ble_eq_true rfl)⟩ hl.1 rfl (Nat.le_of_ble_eq_true rfl) dX0_multiply_76 rfl (fun H locs hw => ?_)
    refine lv_iload_n hx hb dX0_multiply_79 rfl (lv_at hl 2 rfl) ?_
    refine s_callL (As := [.int a1]) (rest := [.long (s_X0_wholeOf a0), .int a2]) cx hw hA (t_X0_wholeOf l G a1) ml_X0_67 st_X0_wholeOf in_X0 co_X0_wholeOf hd_X0_wholeOf rfl ⟨(Nat.le_of_ble_eq_true rfl), (Nat.le_of_ble_eq_true rfl)⟩ hl.1 rfl (Nat.le_of_ble_eq_true rfl) dX0_multiply_80 rfl (fun H locs hw => ?_)
    refine lv_lmul hx hb dX0_multiply_83 ?_
    refine lv_iload_n hx hb dX0_multiply_84 rfl (lv_at hl 1 rfl) ?_
    refine s_callI (As := [.int a0]) (rest := [.long ((s_X0_wholeOf a0) * (s_X0_wholeOf a1)), .int a2]) cx hw hA (t_X0_lastBitOf l G a0) ml_X0_63 st_X0_lastBitOf in_X0 co_X0_lastBitOf hd_X0_lastBitOf rfl ⟨(Nat.le_of_ble_eq_true rfl), (Nat.le_of_ble_eq_true rfl)⟩ hl.1 rfl (Nat.le_of_ble_eq_true rfl) dX0_multiply_85 rfl (fun H locs hw => ?_)
    refine lv_iload_n hx hb dX0_multiply_88 rfl (lv_at hl 2 rfl) ?_
    refine s_callI (As := [.int a1]) (rest := [.int (s_X0_lastBitOf a0), .long ((s_X0_wholeOf a0) * (s_X0_wholeOf a1)), .int a2]) cx hw hA (t_X0_lastBitOf l G a1) ml_X0_63 st_X0_lastBitOf in_X0 co_X0_lastBitOf hd_X0_lastBitOf rfl ⟨(Nat.le_of_ble_eq_true rfl), (Nat.le_of_ble_eq_true rfl)⟩ hl.1 rfl (Nat.le_of_ble_eq_true rfl) dX0_multiply_89 rfl (fun H locs hw => ?_)
    refine lv_iadd hx hb dX0_multiply_92 ?_
    refine s_callI (As := [.int a2, .long ((s_X0_wholeOf a0) * (s_X0_wholeOf a1)), .int ((s_X0_lastBitOf a0) + (s_X0_lastBitOf a1))]) (rest := []) cx hw hA (t_X0_pack l G a2 ((s_X0_wholeOf a0) * (s_X0_wholeOf a1)) ((s_X0_lastBitOf a0) + (s_X0_lastBitOf a1))) ml_X0_59 st_X0_pack in_X0 co_X0_pack hd_X0_pack rfl ⟨(Nat.le_of_ble_eq_true rfl), (Nat.le_of_ble_eq_true rfl)⟩ hl.1 rfl (Nat.le_of_ble_eq_true rfl) dX0_multiply_93 rfl (fun H locs hw => ?_)
    exact s_iret cx hr hlk hw h dX0_multiply_96
  · rw [if_neg c4] at h
    refine lv_iload hx hb dX0_multiply_56 (lv_at hl 0 rfl) ?_
    refine lv_if_eq (tgt := 66) hx hb dX0_multiply_58 (by decide) (fun c5 => ?_) (fun c5 => ?_)
    · rw [if_pos c5] at h
      refine lv_iload_n hx hb dX0_multiply_66 rfl (lv_at hl 3 rfl) ?_
      refine lv_bipush (v := 31) hx hb dX0_multiply_67 (by decide) ?_
      refine lv_ishl hx hb dX0_multiply_69 ?_
      refine lv_ldc hx hb cx.2.2.2.1 (cx.2.2.2.2.1 _ cs_X0_71) dX0_multiply_70 ?_
      refine lv_ior hx hb dX0_multiply_72 ?_
      exact s_iret cx hr hlk hw h dX0_multiply_73
    · rw [if_neg c5] at h
      refine lv_ldc hx hb cx.2.2.2.1 (cx.2.2.2.2.1 _ cs_X0_47) dX0_multiply_61 ?_
      refine lv_goto (tgt := 73) hx hb dX0_multiply_63 (by decide) ?_
      exact s_iret cx hr hlk hw h dX0_multiply_73
theorem s_X0_multiply_b45_ex : ∃ f : Int32 → Int32 → Int32 → Int32 → Int32, ∀ (a0 : Int32) (a1 : Int32) (a2 : Int32) (a3 : Int32), f a0 a1 a2 a3 = s_X0_multiply_b50  a0 a1 a2 a3 (1 : Int32) := ⟨fun (a0 : Int32) (a1 : Int32) (a2 : Int32) (a3 : Int32) => s_X0_multiply_b50  a0 a1 a2 a3 (1 : Int32), fun _ _ _ _ => rfl⟩
noncomputable def s_X0_multiply_b45 : Int32 → Int32 → Int32 → Int32 → Int32 := Classical.choose s_X0_multiply_b45_ex
theorem s_X0_multiply_b45_eq (a0 : Int32) (a1 : Int32) (a2 : Int32) (a3 : Int32) : s_X0_multiply_b45 a0 a1 a2 a3 = s_X0_multiply_b50  a0 a1 a2 a3 (1 : Int32) := Classical.choose_spec s_X0_multiply_b45_ex a0 a1 a2 a3
set_option maxHeartbeats 4000000 in
set_option maxRecDepth 100000 in
theorem t_X0_multiply_b45 (l : Launch) (G : Gt) (av : List Value) {r : Int32} (a0 : Int32) (a1 : Int32) (a2 : Int32) (a3 : Int32) (h : s_X0_multiply_b45  a0 a1 a2 a3 = r) : Bk l cX0_multiply 5 RX0 (some .int) ({ frames := 3, cells := 0, slots := 0, locals := 75 } : Room) G av (sI G r) [] 45 [(0, .int a0), (1, .int a1), (2, .int a2), (3, .int a3)] [] := by
  intro p e s m below meth c A ls H locs cx hr hlk hA hl hw
  have hx := cx.1
  have hb := cx.2.1
  rw [s_X0_multiply_b45_eq] at h
  refine lv_iconst (v := 1) hx hb dX0_multiply_45 (by decide) ?_
  refine lv_goto (tgt := 50) hx hb dX0_multiply_46 (by decide) ?_
  exact t_X0_multiply_b50 l G av  a0 a1 a2 a3 (1 : Int32) h p e s m below meth c A ls H locs cx hr hlk hA (lv_sub hl [0, 1, 2, 3] rfl) hw
theorem s_X0_multiply_b30_ex : ∃ f : Int32 → Int32 → Int32 → Int32 → Int32, ∀ (a0 : Int32) (a1 : Int32) (a2 : Int32) (k0 : Int32), f a0 a1 a2 k0 = (if (a0 &&& (2147483647 : Int32)) = (0 : Int32) then s_X0_multiply_b45  a0 a1 a2 k0 else (if (a1 &&& (2147483647 : Int32)) = (0 : Int32) then s_X0_multiply_b45  a0 a1 a2 k0 else s_X0_multiply_b50  a0 a1 a2 k0 (0 : Int32))) := ⟨fun (a0 : Int32) (a1 : Int32) (a2 : Int32) (k0 : Int32) => (if (a0 &&& (2147483647 : Int32)) = (0 : Int32) then s_X0_multiply_b45  a0 a1 a2 k0 else (if (a1 &&& (2147483647 : Int32)) = (0 : Int32) then s_X0_multiply_b45  a0 a1 a2 k0 else s_X0_multiply_b50  a0 a1 a2 k0 (0 : Int32))), fun _ _ _ _ => rfl⟩
noncomputable def s_X0_multiply_b30 : Int32 → Int32 → Int32 → Int32 → Int32 := Classical.choose s_X0_multiply_b30_ex
theorem s_X0_multiply_b30_eq (a0 : Int32) (a1 : Int32) (a2 : Int32) (k0 : Int32) : s_X0_multiply_b30 a0 a1 a2 k0 = (if (a0 &&& (2147483647 : Int32)) = (0 : Int32) then s_X0_multiply_b45  a0 a1 a2 k0 else (if (a1 &&& (2147483647 : Int32)) = (0 : Int32) then s_X0_multiply_b45  a0 a1 a2 k0 else s_X0_multiply_b50  a0 a1 a2 k0 (0 : Int32))) := Classical.choose_spec s_X0_multiply_b30_ex a0 a1 a2 k0
set_option maxHeartbeats 4000000 in
set_option maxRecDepth 100000 in
theorem t_X0_multiply_b30 (l : Launch) (G : Gt) (av : List Value) {r : Int32} (a0 : Int32) (a1 : Int32) (a2 : Int32) (k0 : Int32) (h : s_X0_multiply_b30  a0 a1 a2 k0 = r) : Bk l cX0_multiply 5 RX0 (some .int) ({ frames := 3, cells := 0, slots := 0, locals := 75 } : Room) G av (sI G r) [] 30 [(0, .int a0), (1, .int a1), (2, .int a2)] [.int k0] := by
  intro p e s m below meth c A ls H locs cx hr hlk hA hl hw
  have hx := cx.1
  have hb := cx.2.1
  rw [s_X0_multiply_b30_eq] at h
  refine lv_istore_n (lv' := [(3, .int k0), (0, .int a0), (1, .int a1), (2, .int a2)]) hx hb dX0_multiply_30 rfl hl (by decide) rfl (fun ls hl => ?_)
  refine lv_iload_n hx hb dX0_multiply_31 rfl (lv_at hl 1 rfl) ?_
  refine lv_ldc hx hb cx.2.2.2.1 (cx.2.2.2.2.1 _ cs_X0_58) dX0_multiply_32 ?_
  refine lv_iand hx hb dX0_multiply_34 ?_
  refine lv_if_eq (tgt := 45) hx hb dX0_multiply_35 (by decide) (fun c3 => ?_) (fun c3 => ?_)
  · rw [if_pos c3] at h
    exact t_X0_multiply_b45 l G av  a0 a1 a2 k0 h p e s m below meth c A ls H locs cx hr hlk hA (lv_sub hl [1, 2, 3, 0] rfl) hw
  · rw [if_neg c3] at h
    refine lv_iload_n hx hb dX0_multiply_38 rfl (lv_at hl 2 rfl) ?_
    refine lv_ldc hx hb cx.2.2.2.1 (cx.2.2.2.2.1 _ cs_X0_58) dX0_multiply_39 ?_
    refine lv_iand hx hb dX0_multiply_41 ?_
    refine lv_if_ne (tgt := 49) hx hb dX0_multiply_42 (by decide) (fun c6 => ?_) (fun c6 => ?_)
    · rw [if_neg c6] at h
      refine lv_iconst (v := 0) hx hb dX0_multiply_49 (by decide) ?_
      exact t_X0_multiply_b50 l G av  a0 a1 a2 k0 (0 : Int32) h p e s m below meth c A ls H locs cx hr hlk hA (lv_sub hl [1, 2, 3, 0] rfl) hw
    · rw [if_pos c6] at h
      exact t_X0_multiply_b45 l G av  a0 a1 a2 k0 h p e s m below meth c A ls H locs cx hr hlk hA (lv_sub hl [1, 2, 3, 0] rfl) hw
theorem s_X0_multiply_b25_ex : ∃ f : Int32 → Int32 → Int32 → Int32, ∀ (a0 : Int32) (a1 : Int32) (a2 : Int32), f a0 a1 a2 = s_X0_multiply_b30  a0 a1 a2 (1 : Int32) := ⟨fun (a0 : Int32) (a1 : Int32) (a2 : Int32) => s_X0_multiply_b30  a0 a1 a2 (1 : Int32), fun _ _ _ => rfl⟩
noncomputable def s_X0_multiply_b25 : Int32 → Int32 → Int32 → Int32 := Classical.choose s_X0_multiply_b25_ex
theorem s_X0_multiply_b25_eq (a0 : Int32) (a1 : Int32) (a2 : Int32) : s_X0_multiply_b25 a0 a1 a2 = s_X0_multiply_b30  a0 a1 a2 (1 : Int32) := Classical.choose_spec s_X0_multiply_b25_ex a0 a1 a2
set_option maxHeartbeats 4000000 in
set_option maxRecDepth 100000 in
theorem t_X0_multiply_b25 (l : Launch) (G : Gt) (av : List Value) {r : Int32} (a0 : Int32) (a1 : Int32) (a2 : Int32) (h : s_X0_multiply_b25  a0 a1 a2 = r) : Bk l cX0_multiply 5 RX0 (some .int) ({ frames := 3, cells := 0, slots := 0, locals := 75 } : Room) G av (sI G r) [] 25 [(0, .int a0), (1, .int a1), (2, .int a2)] [] := by
  intro p e s m below meth c A ls H locs cx hr hlk hA hl hw
  have hx := cx.1
  have hb := cx.2.1
  rw [s_X0_multiply_b25_eq] at h
  refine lv_iconst (v := 1) hx hb dX0_multiply_25 (by decide) ?_
  refine lv_goto (tgt := 30) hx hb dX0_multiply_26 (by decide) ?_
  exact t_X0_multiply_b30 l G av  a0 a1 a2 (1 : Int32) h p e s m below meth c A ls H locs cx hr hlk hA (lv_sub hl [0, 1, 2] rfl) hw
theorem s_X0_multiply_ex : ∃ f : Int32 → Int32 → Int32, ∀ (a0 : Int32) (a1 : Int32), f a0 a1 = bv (((a0 ^^^ a1).toUInt32 >>> ((31 : Int32).toUInt32 &&& Int32.toUInt32 31)).toInt32) (fun v1 => (if (a0 &&& (2147483647 : Int32)) = (2139095040 : Int32) then s_X0_multiply_b25  a0 a1 v1 else (if (a1 &&& (2147483647 : Int32)) = (2139095040 : Int32) then s_X0_multiply_b25  a0 a1 v1 else s_X0_multiply_b30  a0 a1 v1 (0 : Int32)))) := ⟨fun (a0 : Int32) (a1 : Int32) => bv (((a0 ^^^ a1).toUInt32 >>> ((31 : Int32).toUInt32 &&& Int32.toUInt32 31)).toInt32) (fun v1 => (if (a0 &&& (2147483647 : Int32)) = (2139095040 : Int32) then s_X0_multiply_b25  a0 a1 v1 else (if (a1 &&& (2147483647 : Int32)) = (2139095040 : Int32) then s_X0_multiply_b25  a0 a1 v1 else s_X0_multiply_b30  a0 a1 v1 (0 : Int32)))), fun _ _ => rfl⟩
noncomputable def s_X0_multiply : Int32 → Int32 → Int32 := Classical.choose s_X0_multiply_ex
theorem s_X0_multiply_eq (a0 : Int32) (a1 : Int32) : s_X0_multiply a0 a1 = bv (((a0 ^^^ a1).toUInt32 >>> ((31 : Int32).toUInt32 &&& Int32.toUInt32 31)).toInt32) (fun v1 => (if (a0 &&& (2147483647 : Int32)) = (2139095040 : Int32) then s_X0_multiply_b25  a0 a1 v1 else (if (a1 &&& (2147483647 : Int32)) = (2139095040 : Int32) then s_X0_multiply_b25  a0 a1 v1 else s_X0_multiply_b30  a0 a1 v1 (0 : Int32)))) := Classical.choose_spec s_X0_multiply_ex a0 a1
set_option maxHeartbeats 4000000 in
set_option maxRecDepth 100000 in
theorem t_X0_multiply (l : Launch) (G : Gt) (a0 : Int32) (a1 : Int32) : Mt l yX0_multiply cX0_multiply 5 (some .int) ({ frames := 3, cells := 0, slots := 0, locals := 75 } : Room) G [.int a0, .int a1] [] (sI G (s_X0_multiply a0 a1)) := by
  obtain ⟨r, h⟩ : ∃ r, s_X0_multiply a0 a1 = r := ⟨_, rfl⟩
  rw [h]
  refine Bk.mt (by decide) rfl (Nat.le_of_ble_eq_true rfl) ?_
  intro p e s m below meth c A ls H locs cx hr hlk hA hl hw
  have hx := cx.1
  have hb := cx.2.1
  have hl : lv_has ls 5 [(0, .int a0), (1, .int a1)] := hl
  rw [s_X0_multiply_eq] at h
  refine lv_iload_n hx hb dX0_multiply_0 rfl (lv_at hl 0 rfl) ?_
  refine lv_iload_n hx hb dX0_multiply_1 rfl (lv_at hl 1 rfl) ?_
  refine lv_ixor hx hb dX0_multiply_2 ?_
  refine lv_bipush (v := 31) hx hb dX0_multiply_3 (by decide) ?_
  refine lv_iushr hx hb dX0_multiply_5 rfl ?_
  obtain ⟨v1, ev1, h⟩ := bv_ex h
  refine lv_topi (fun y9 z9 => ?_)
  obtain rfl : v1 = y9 := ev1.trans z9.symm
  refine lv_istore_n (lv' := [(2, .int v1), (0, .int a0), (1, .int a1)]) hx hb dX0_multiply_6 rfl hl (by decide) rfl (fun ls hl => ?_)
  refine lv_iload_n hx hb dX0_multiply_7 rfl (lv_at hl 1 rfl) ?_
  refine lv_ldc hx hb cx.2.2.2.1 (cx.2.2.2.2.1 _ cs_X0_58) dX0_multiply_8 ?_
  refine lv_iand hx hb dX0_multiply_10 ?_
  refine lv_ldc hx hb cx.2.2.2.1 (cx.2.2.2.2.1 _ cs_X0_71) dX0_multiply_11 ?_
  refine lv_icmp_eq (tgt := 25) hx hb dX0_multiply_13 (by decide) (fun c2 => ?_) (fun c2 => ?_)
  · rw [if_pos c2] at h
    exact t_X0_multiply_b25 l G _  a0 a1 v1 h p e s m below meth c A ls H locs cx hr hlk hA (lv_sub hl [1, 2, 0] rfl) hw
  · rw [if_neg c2] at h
    refine lv_iload_n hx hb dX0_multiply_16 rfl (lv_at hl 2 rfl) ?_
    refine lv_ldc hx hb cx.2.2.2.1 (cx.2.2.2.2.1 _ cs_X0_58) dX0_multiply_17 ?_
    refine lv_iand hx hb dX0_multiply_19 ?_
    refine lv_ldc hx hb cx.2.2.2.1 (cx.2.2.2.2.1 _ cs_X0_71) dX0_multiply_20 ?_
    refine lv_icmp_ne (tgt := 29) hx hb dX0_multiply_22 (by decide) (fun c7 => ?_) (fun c7 => ?_)
    · rw [if_neg c7] at h
      refine lv_iconst (v := 0) hx hb dX0_multiply_29 (by decide) ?_
      exact t_X0_multiply_b30 l G _  a0 a1 v1 (0 : Int32) h p e s m below meth c A ls H locs cx hr hlk hA (lv_sub hl [1, 2, 0] rfl) hw
    · rw [if_pos c7] at h
      exact t_X0_multiply_b25 l G _  a0 a1 v1 h p e s m below meth c A ls H locs cx hr hlk hA (lv_sub hl [1, 2, 0] rfl) hw

theorem s_X0_apply_b86_ex : ∃ f : Int32 → Int32 → Int32 → Int32 → Int64, ∀ (a0 : Int32) (a5 : Int32) (a6 : Int32) (k0 : Int32), f a0 a5 a6 k0 = (if a0 = (42 : Int32) then (if k0 = (0 : Int32) then (s_X0_make (1 : Int32) (s_X0_multiply a5 a6)) else (s_X0_make (1 : Int32) (2143289344 : Int32))) else (if a0 = (43 : Int32) then (if k0 = (0 : Int32) then (s_X0_make (1 : Int32) (s_X0_add a5 a6)) else (s_X0_make (1 : Int32) (2143289344 : Int32))) else (if a0 = (45 : Int32) then (if k0 = (0 : Int32) then (s_X0_make (1 : Int32) (s_X0_add a5 (a6 ^^^ (-2147483648 : Int32)))) else (s_X0_make (1 : Int32) (2143289344 : Int32))) else (if a0 = (60 : Int32) then (if (s_X0_isBelow a5 a6) = (0 : Int32) then (s_X0_make (0 : Int32) (0 : Int32)) else (s_X0_make (0 : Int32) (1 : Int32))) else (if a0 = (61 : Int32) then (if (s_X0_isEqual a5 a6) = (0 : Int32) then (s_X0_make (0 : Int32) (0 : Int32)) else (s_X0_make (0 : Int32) (1 : Int32))) else (if k0 = (0 : Int32) then (s_X0_make (1 : Int32) (s_X0_divide a5 a6)) else (s_X0_make (1 : Int32) (2143289344 : Int32)))))))) := ⟨fun (a0 : Int32) (a5 : Int32) (a6 : Int32) (k0 : Int32) => (if a0 = (42 : Int32) then (if k0 = (0 : Int32) then (s_X0_make (1 : Int32) (s_X0_multiply a5 a6)) else (s_X0_make (1 : Int32) (2143289344 : Int32))) else (if a0 = (43 : Int32) then (if k0 = (0 : Int32) then (s_X0_make (1 : Int32) (s_X0_add a5 a6)) else (s_X0_make (1 : Int32) (2143289344 : Int32))) else (if a0 = (45 : Int32) then (if k0 = (0 : Int32) then (s_X0_make (1 : Int32) (s_X0_add a5 (a6 ^^^ (-2147483648 : Int32)))) else (s_X0_make (1 : Int32) (2143289344 : Int32))) else (if a0 = (60 : Int32) then (if (s_X0_isBelow a5 a6) = (0 : Int32) then (s_X0_make (0 : Int32) (0 : Int32)) else (s_X0_make (0 : Int32) (1 : Int32))) else (if a0 = (61 : Int32) then (if (s_X0_isEqual a5 a6) = (0 : Int32) then (s_X0_make (0 : Int32) (0 : Int32)) else (s_X0_make (0 : Int32) (1 : Int32))) else (if k0 = (0 : Int32) then (s_X0_make (1 : Int32) (s_X0_divide a5 a6)) else (s_X0_make (1 : Int32) (2143289344 : Int32)))))))), fun _ _ _ _ => rfl⟩
noncomputable def s_X0_apply_b86 : Int32 → Int32 → Int32 → Int32 → Int64 := Classical.choose s_X0_apply_b86_ex
theorem s_X0_apply_b86_eq (a0 : Int32) (a5 : Int32) (a6 : Int32) (k0 : Int32) : s_X0_apply_b86 a0 a5 a6 k0 = (if a0 = (42 : Int32) then (if k0 = (0 : Int32) then (s_X0_make (1 : Int32) (s_X0_multiply a5 a6)) else (s_X0_make (1 : Int32) (2143289344 : Int32))) else (if a0 = (43 : Int32) then (if k0 = (0 : Int32) then (s_X0_make (1 : Int32) (s_X0_add a5 a6)) else (s_X0_make (1 : Int32) (2143289344 : Int32))) else (if a0 = (45 : Int32) then (if k0 = (0 : Int32) then (s_X0_make (1 : Int32) (s_X0_add a5 (a6 ^^^ (-2147483648 : Int32)))) else (s_X0_make (1 : Int32) (2143289344 : Int32))) else (if a0 = (60 : Int32) then (if (s_X0_isBelow a5 a6) = (0 : Int32) then (s_X0_make (0 : Int32) (0 : Int32)) else (s_X0_make (0 : Int32) (1 : Int32))) else (if a0 = (61 : Int32) then (if (s_X0_isEqual a5 a6) = (0 : Int32) then (s_X0_make (0 : Int32) (0 : Int32)) else (s_X0_make (0 : Int32) (1 : Int32))) else (if k0 = (0 : Int32) then (s_X0_make (1 : Int32) (s_X0_divide a5 a6)) else (s_X0_make (1 : Int32) (2143289344 : Int32)))))))) := Classical.choose_spec s_X0_apply_b86_ex a0 a5 a6 k0
set_option maxHeartbeats 4000000 in
set_option maxRecDepth 100000 in
theorem t_X0_apply_b86 (l : Launch) (G : Gt) (av : List Value) {r : Int64} (a0 : Int32) (a5 : Int32) (a6 : Int32) (k0 : Int32) (h : s_X0_apply_b86  a0 a5 a6 k0 = r) : Bk l cX0_apply 8 RX0 (some .long) ({ frames := 4, cells := 0, slots := 0, locals := 108 } : Room) G av (sJ G r) [] 86 [(0, .int a0), (5, .int a5), (6, .int a6)] [.int k0] := by
  intro p e s m below meth c A ls H locs cx hr hlk hA hl hw
  have hx := cx.1
  have hb := cx.2.1
  rw [s_X0_apply_b86_eq] at h
  refine lv_istore (lv' := [(7, .int k0), (0, .int a0), (5, .int a5), (6, .int a6)]) hx hb dX0_apply_86 hl (by decide) rfl (fun ls hl => ?_)
  refine lv_iload_n hx hb dX0_apply_88 rfl (lv_at hl 1 rfl) ?_
  refine lv_topi (fun v6 ev6 => ?_)
  by_cases c7 : a0 = (42 : Int32)
  · rw [if_pos c7] at h
    have z9 := ev6.trans c7
    subst z9
    refine lv_lookup (tgt := 227) hx hb dX0_apply_89 (by decide +kernel) rfl (by decide) ?_
    refine lv_iconst (v := 1) hx hb dX0_apply_227 (by decide) ?_
    refine lv_iload hx hb dX0_apply_228 (lv_at hl 0 rfl) ?_
    refine lv_if_eq (tgt := 238) hx hb dX0_apply_230 (by decide) (fun c8 => ?_) (fun c8 => ?_)
    · rw [if_pos c8] at h
      refine lv_iload hx hb dX0_apply_238 (lv_at hl 2 rfl) ?_
      refine lv_iload hx hb dX0_apply_240 (lv_at hl 3 rfl) ?_
      refine s_callI (As := [.int a5, .int a6]) (rest := [.int 1]) cx hw hA (t_X0_multiply l G a5 a6) ml_X0_52 st_X0_multiply in_X0 co_X0_multiply hd_X0_multiply rfl ⟨(Nat.le_of_ble_eq_true rfl), (Nat.le_of_ble_eq_true rfl)⟩ hl.1 rfl (Nat.le_of_ble_eq_true rfl) dX0_apply_242 rfl (fun H locs hw => ?_)
      refine s_callL (As := [.int 1, .int (s_X0_multiply a5 a6)]) (rest := []) cx hw hA (t_X0_make l G (1 : Int32) (s_X0_multiply a5 a6)) ml_X0_19 st_X0_make in_X0 co_X0_make hd_X0_make rfl ⟨(Nat.le_of_ble_eq_true rfl), (Nat.le_of_ble_eq_true rfl)⟩ hl.1 rfl (Nat.le_of_ble_eq_true rfl) dX0_apply_245 rfl (fun H locs hw => ?_)
      exact s_lret cx hr hlk hw h dX0_apply_248
    · rw [if_neg c8] at h
      refine lv_ldc hx hb cx.2.2.2.1 (cx.2.2.2.2.1 _ cs_X0_47) dX0_apply_233 ?_
      refine lv_goto (tgt := 245) hx hb dX0_apply_235 (by decide) ?_
      refine s_callL (As := [.int 1, .int 2143289344]) (rest := []) cx hw hA (t_X0_make l G (1 : Int32) (2143289344 : Int32)) ml_X0_19 st_X0_make in_X0 co_X0_make hd_X0_make rfl ⟨(Nat.le_of_ble_eq_true rfl), (Nat.le_of_ble_eq_true rfl)⟩ hl.1 rfl (Nat.le_of_ble_eq_true rfl) dX0_apply_245 rfl (fun H locs hw => ?_)
      exact s_lret cx hr hlk hw h dX0_apply_248
  rw [if_neg c7] at h
  by_cases c9 : a0 = (43 : Int32)
  · rw [if_pos c9] at h
    have z9 := ev6.trans c9
    subst z9
    refine lv_lookup (tgt := 180) hx hb dX0_apply_89 (by decide +kernel) rfl (by decide) ?_
    refine lv_iconst (v := 1) hx hb dX0_apply_180 (by decide) ?_
    refine lv_iload hx hb dX0_apply_181 (lv_at hl 0 rfl) ?_
    refine lv_if_eq (tgt := 191) hx hb dX0_apply_183 (by decide) (fun c10 => ?_) (fun c10 => ?_)
    · rw [if_pos c10] at h
      refine lv_iload hx hb dX0_apply_191 (lv_at hl 2 rfl) ?_
      refine lv_iload hx hb dX0_apply_193 (lv_at hl 3 rfl) ?_
      refine s_callI (As := [.int a5, .int a6]) (rest := [.int 1]) cx hw hA (t_X0_add l G a5 a6) ml_X0_48 st_X0_add in_X0 co_X0_add hd_X0_add rfl ⟨(Nat.le_of_ble_eq_true rfl), (Nat.le_of_ble_eq_true rfl)⟩ hl.1 rfl (Nat.le_of_ble_eq_true rfl) dX0_apply_195 rfl (fun H locs hw => ?_)
      refine s_callL (As := [.int 1, .int (s_X0_add a5 a6)]) (rest := []) cx hw hA (t_X0_make l G (1 : Int32) (s_X0_add a5 a6)) ml_X0_19 st_X0_make in_X0 co_X0_make hd_X0_make rfl ⟨(Nat.le_of_ble_eq_true rfl), (Nat.le_of_ble_eq_true rfl)⟩ hl.1 rfl (Nat.le_of_ble_eq_true rfl) dX0_apply_198 rfl (fun H locs hw => ?_)
      exact s_lret cx hr hlk hw h dX0_apply_201
    · rw [if_neg c10] at h
      refine lv_ldc hx hb cx.2.2.2.1 (cx.2.2.2.2.1 _ cs_X0_47) dX0_apply_186 ?_
      refine lv_goto (tgt := 198) hx hb dX0_apply_188 (by decide) ?_
      refine s_callL (As := [.int 1, .int 2143289344]) (rest := []) cx hw hA (t_X0_make l G (1 : Int32) (2143289344 : Int32)) ml_X0_19 st_X0_make in_X0 co_X0_make hd_X0_make rfl ⟨(Nat.le_of_ble_eq_true rfl), (Nat.le_of_ble_eq_true rfl)⟩ hl.1 rfl (Nat.le_of_ble_eq_true rfl) dX0_apply_198 rfl (fun H locs hw => ?_)
      exact s_lret cx hr hlk hw h dX0_apply_201
  rw [if_neg c9] at h
  by_cases c11 : a0 = (45 : Int32)
  · rw [if_pos c11] at h
    have z9 := ev6.trans c11
    subst z9
    refine lv_lookup (tgt := 202) hx hb dX0_apply_89 (by decide +kernel) rfl (by decide) ?_
    refine lv_iconst (v := 1) hx hb dX0_apply_202 (by decide) ?_
    refine lv_iload hx hb dX0_apply_203 (lv_at hl 0 rfl) ?_
    refine lv_if_eq (tgt := 213) hx hb dX0_apply_205 (by decide) (fun c12 => ?_) (fun c12 => ?_)
    · rw [if_pos c12] at h
      refine lv_iload hx hb dX0_apply_213 (lv_at hl 2 rfl) ?_
      refine lv_iload hx hb dX0_apply_215 (lv_at hl 3 rfl) ?_
      refine lv_ldc hx hb cx.2.2.2.1 (cx.2.2.2.2.1 _ cs_X0_51) dX0_apply_217 ?_
      refine lv_ixor hx hb dX0_apply_219 ?_
      refine s_callI (As := [.int a5, .int (a6 ^^^ (-2147483648 : Int32))]) (rest := [.int 1]) cx hw hA (t_X0_add l G a5 (a6 ^^^ (-2147483648 : Int32))) ml_X0_48 st_X0_add in_X0 co_X0_add hd_X0_add rfl ⟨(Nat.le_of_ble_eq_true rfl), (Nat.le_of_ble_eq_true rfl)⟩ hl.1 rfl (Nat.le_of_ble_eq_true rfl) dX0_apply_220 rfl (fun H locs hw => ?_)
      refine s_callL (As := [.int 1, .int (s_X0_add a5 (a6 ^^^ (-2147483648 : Int32)))]) (rest := []) cx hw hA (t_X0_make l G (1 : Int32) (s_X0_add a5 (a6 ^^^ (-2147483648 : Int32)))) ml_X0_19 st_X0_make in_X0 co_X0_make hd_X0_make rfl ⟨(Nat.le_of_ble_eq_true rfl), (Nat.le_of_ble_eq_true rfl)⟩ hl.1 rfl (Nat.le_of_ble_eq_true rfl) dX0_apply_223 rfl (fun H locs hw => ?_)
      exact s_lret cx hr hlk hw h dX0_apply_226
    · rw [if_neg c12] at h
      refine lv_ldc hx hb cx.2.2.2.1 (cx.2.2.2.2.1 _ cs_X0_47) dX0_apply_208 ?_
      refine lv_goto (tgt := 223) hx hb dX0_apply_210 (by decide) ?_
      refine s_callL (As := [.int 1, .int 2143289344]) (rest := []) cx hw hA (t_X0_make l G (1 : Int32) (2143289344 : Int32)) ml_X0_19 st_X0_make in_X0 co_X0_make hd_X0_make rfl ⟨(Nat.le_of_ble_eq_true rfl), (Nat.le_of_ble_eq_true rfl)⟩ hl.1 rfl (Nat.le_of_ble_eq_true rfl) dX0_apply_223 rfl (fun H locs hw => ?_)
      exact s_lret cx hr hlk hw h dX0_apply_226
  rw [if_neg c11] at h
  by_cases c13 : a0 = (60 : Int32)
  · rw [if_pos c13] at h
    have z9 := ev6.trans c13
    subst z9
    refine lv_lookup (tgt := 140) hx hb dX0_apply_89 (by decide +kernel) rfl (by decide) ?_
    refine lv_iconst (v := 0) hx hb dX0_apply_140 (by decide) ?_
    refine lv_iload hx hb dX0_apply_141 (lv_at hl 2 rfl) ?_
    refine lv_iload hx hb dX0_apply_143 (lv_at hl 3 rfl) ?_
    refine s_callI (As := [.int a5, .int a6]) (rest := [.int 0]) cx hw hA (t_X0_isBelow l G a5 a6) ml_X0_40 st_X0_isBelow in_X0 co_X0_isBelow hd_X0_isBelow rfl ⟨(Nat.le_of_ble_eq_true rfl), (Nat.le_of_ble_eq_true rfl)⟩ hl.1 rfl (Nat.le_of_ble_eq_true rfl) dX0_apply_145 rfl (fun H locs hw => ?_)
    refine lv_if_eq (tgt := 155) hx hb dX0_apply_148 (by decide) (fun c14 => ?_) (fun c14 => ?_)
    · rw [if_pos c14] at h
      refine lv_iconst (v := 0) hx hb dX0_apply_155 (by decide) ?_
      refine s_callL (As := [.int 0, .int 0]) (rest := []) cx hw hA (t_X0_make l G (0 : Int32) (0 : Int32)) ml_X0_19 st_X0_make in_X0 co_X0_make hd_X0_make rfl ⟨(Nat.le_of_ble_eq_true rfl), (Nat.le_of_ble_eq_true rfl)⟩ hl.1 rfl (Nat.le_of_ble_eq_true rfl) dX0_apply_156 rfl (fun H locs hw => ?_)
      exact s_lret cx hr hlk hw h dX0_apply_159
    · rw [if_neg c14] at h
      refine lv_iconst (v := 1) hx hb dX0_apply_151 (by decide) ?_
      refine lv_goto (tgt := 156) hx hb dX0_apply_152 (by decide) ?_
      refine s_callL (As := [.int 0, .int 1]) (rest := []) cx hw hA (t_X0_make l G (0 : Int32) (1 : Int32)) ml_X0_19 st_X0_make in_X0 co_X0_make hd_X0_make rfl ⟨(Nat.le_of_ble_eq_true rfl), (Nat.le_of_ble_eq_true rfl)⟩ hl.1 rfl (Nat.le_of_ble_eq_true rfl) dX0_apply_156 rfl (fun H locs hw => ?_)
      exact s_lret cx hr hlk hw h dX0_apply_159
  rw [if_neg c13] at h
  by_cases c15 : a0 = (61 : Int32)
  · rw [if_pos c15] at h
    have z9 := ev6.trans c15
    subst z9
    refine lv_lookup (tgt := 160) hx hb dX0_apply_89 (by decide +kernel) rfl (by decide) ?_
    refine lv_iconst (v := 0) hx hb dX0_apply_160 (by decide) ?_
    refine lv_iload hx hb dX0_apply_161 (lv_at hl 2 rfl) ?_
    refine lv_iload hx hb dX0_apply_163 (lv_at hl 3 rfl) ?_
    refine s_callI (As := [.int a5, .int a6]) (rest := [.int 0]) cx hw hA (t_X0_isEqual l G a5 a6) ml_X0_44 st_X0_isEqual in_X0 co_X0_isEqual hd_X0_isEqual rfl ⟨(Nat.le_of_ble_eq_true rfl), (Nat.le_of_ble_eq_true rfl)⟩ hl.1 rfl (Nat.le_of_ble_eq_true rfl) dX0_apply_165 rfl (fun H locs hw => ?_)
    refine lv_if_eq (tgt := 175) hx hb dX0_apply_168 (by decide) (fun c16 => ?_) (fun c16 => ?_)
    · rw [if_pos c16] at h
      refine lv_iconst (v := 0) hx hb dX0_apply_175 (by decide) ?_
      refine s_callL (As := [.int 0, .int 0]) (rest := []) cx hw hA (t_X0_make l G (0 : Int32) (0 : Int32)) ml_X0_19 st_X0_make in_X0 co_X0_make hd_X0_make rfl ⟨(Nat.le_of_ble_eq_true rfl), (Nat.le_of_ble_eq_true rfl)⟩ hl.1 rfl (Nat.le_of_ble_eq_true rfl) dX0_apply_176 rfl (fun H locs hw => ?_)
      exact s_lret cx hr hlk hw h dX0_apply_179
    · rw [if_neg c16] at h
      refine lv_iconst (v := 1) hx hb dX0_apply_171 (by decide) ?_
      refine lv_goto (tgt := 176) hx hb dX0_apply_172 (by decide) ?_
      refine s_callL (As := [.int 0, .int 1]) (rest := []) cx hw hA (t_X0_make l G (0 : Int32) (1 : Int32)) ml_X0_19 st_X0_make in_X0 co_X0_make hd_X0_make rfl ⟨(Nat.le_of_ble_eq_true rfl), (Nat.le_of_ble_eq_true rfl)⟩ hl.1 rfl (Nat.le_of_ble_eq_true rfl) dX0_apply_176 rfl (fun H locs hw => ?_)
      exact s_lret cx hr hlk hw h dX0_apply_179
  rw [if_neg c15] at h
  rw [ev6]
  refine lv_lookup (tgt := 249) hx hb dX0_apply_89 (by decide +kernel) (off := 160) (by simp [Op.lookupswitch.offset, sw_nq (42) (by decide) c7, sw_nq (43) (by decide) c9, sw_nq (45) (by decide) c11, sw_nq (60) (by decide) c13, sw_nq (61) (by decide) c15]) (by decide) ?_
  refine lv_iconst (v := 1) hx hb dX0_apply_249 (by decide) ?_
  refine lv_iload hx hb dX0_apply_250 (lv_at hl 0 rfl) ?_
  refine lv_if_eq (tgt := 260) hx hb dX0_apply_252 (by decide) (fun c17 => ?_) (fun c17 => ?_)
  · rw [if_pos c17] at h
    refine lv_iload hx hb dX0_apply_260 (lv_at hl 2 rfl) ?_
    refine lv_iload hx hb dX0_apply_262 (lv_at hl 3 rfl) ?_
    refine s_callI (As := [.int a5, .int a6]) (rest := [.int 1]) cx hw hA (t_X0_divide l G a5 a6) ml_X0_55 st_X0_divide in_X0 co_X0_divide hd_X0_divide rfl ⟨(Nat.le_of_ble_eq_true rfl), (Nat.le_of_ble_eq_true rfl)⟩ hl.1 rfl (Nat.le_of_ble_eq_true rfl) dX0_apply_264 rfl (fun H locs hw => ?_)
    refine s_callL (As := [.int 1, .int (s_X0_divide a5 a6)]) (rest := []) cx hw hA (t_X0_make l G (1 : Int32) (s_X0_divide a5 a6)) ml_X0_19 st_X0_make in_X0 co_X0_make hd_X0_make rfl ⟨(Nat.le_of_ble_eq_true rfl), (Nat.le_of_ble_eq_true rfl)⟩ hl.1 rfl (Nat.le_of_ble_eq_true rfl) dX0_apply_267 rfl (fun H locs hw => ?_)
    exact s_lret cx hr hlk hw h dX0_apply_270
  · rw [if_neg c17] at h
    refine lv_ldc hx hb cx.2.2.2.1 (cx.2.2.2.2.1 _ cs_X0_47) dX0_apply_255 ?_
    refine lv_goto (tgt := 267) hx hb dX0_apply_257 (by decide) ?_
    refine s_callL (As := [.int 1, .int 2143289344]) (rest := []) cx hw hA (t_X0_make l G (1 : Int32) (2143289344 : Int32)) ml_X0_19 st_X0_make in_X0 co_X0_make hd_X0_make rfl ⟨(Nat.le_of_ble_eq_true rfl), (Nat.le_of_ble_eq_true rfl)⟩ hl.1 rfl (Nat.le_of_ble_eq_true rfl) dX0_apply_267 rfl (fun H locs hw => ?_)
    exact s_lret cx hr hlk hw h dX0_apply_270
theorem s_X0_apply_b81_ex : ∃ f : Int32 → Int32 → Int32 → Int64, ∀ (a0 : Int32) (a5 : Int32) (a6 : Int32), f a0 a5 a6 = s_X0_apply_b86  a0 a5 a6 (1 : Int32) := ⟨fun (a0 : Int32) (a5 : Int32) (a6 : Int32) => s_X0_apply_b86  a0 a5 a6 (1 : Int32), fun _ _ _ => rfl⟩
noncomputable def s_X0_apply_b81 : Int32 → Int32 → Int32 → Int64 := Classical.choose s_X0_apply_b81_ex
theorem s_X0_apply_b81_eq (a0 : Int32) (a5 : Int32) (a6 : Int32) : s_X0_apply_b81 a0 a5 a6 = s_X0_apply_b86  a0 a5 a6 (1 : Int32) := Classical.choose_spec s_X0_apply_b81_ex a0 a5 a6
set_option maxHeartbeats 4000000 in
set_option maxRecDepth 100000 in
theorem t_X0_apply_b81 (l : Launch) (G : Gt) (av : List Value) {r : Int64} (a0 : Int32) (a5 : Int32) (a6 : Int32) (h : s_X0_apply_b81  a0 a5 a6 = r) : Bk l cX0_apply 8 RX0 (some .long) ({ frames := 4, cells := 0, slots := 0, locals := 108 } : Room) G av (sJ G r) [] 81 [(0, .int a0), (5, .int a5), (6, .int a6)] [] := by
  intro p e s m below meth c A ls H locs cx hr hlk hA hl hw
  have hx := cx.1
  have hb := cx.2.1
  rw [s_X0_apply_b81_eq] at h
  refine lv_iconst (v := 1) hx hb dX0_apply_81 (by decide) ?_
  refine lv_goto (tgt := 86) hx hb dX0_apply_82 (by decide) ?_
  exact t_X0_apply_b86 l G av  a0 a5 a6 (1 : Int32) h p e s m below meth c A ls H locs cx hr hlk hA (lv_sub hl [0, 1, 2] rfl) hw
theorem s_X0_apply_b53_ex : ∃ f : Int32 → Int64 → Int64 → Int64, ∀ (a0 : Int32) (a1 : Int64) (a3 : Int64), f a0 a1 a3 = bv (s_X0_floatBits a1) (fun v3 => bv (s_X0_floatBits a3) (fun v4 => (if (s_X0_isNan v3) = (0 : Int32) then (if (s_X0_isNan v4) = (0 : Int32) then s_X0_apply_b86  a0 v3 v4 (0 : Int32) else s_X0_apply_b81  a0 v3 v4) else s_X0_apply_b81  a0 v3 v4))) := ⟨fun (a0 : Int32) (a1 : Int64) (a3 : Int64) => bv (s_X0_floatBits a1) (fun v3 => bv (s_X0_floatBits a3) (fun v4 => (if (s_X0_isNan v3) = (0 : Int32) then (if (s_X0_isNan v4) = (0 : Int32) then s_X0_apply_b86  a0 v3 v4 (0 : Int32) else s_X0_apply_b81  a0 v3 v4) else s_X0_apply_b81  a0 v3 v4))), fun _ _ _ => rfl⟩
noncomputable def s_X0_apply_b53 : Int32 → Int64 → Int64 → Int64 := Classical.choose s_X0_apply_b53_ex
theorem s_X0_apply_b53_eq (a0 : Int32) (a1 : Int64) (a3 : Int64) : s_X0_apply_b53 a0 a1 a3 = bv (s_X0_floatBits a1) (fun v3 => bv (s_X0_floatBits a3) (fun v4 => (if (s_X0_isNan v3) = (0 : Int32) then (if (s_X0_isNan v4) = (0 : Int32) then s_X0_apply_b86  a0 v3 v4 (0 : Int32) else s_X0_apply_b81  a0 v3 v4) else s_X0_apply_b81  a0 v3 v4))) := Classical.choose_spec s_X0_apply_b53_ex a0 a1 a3
set_option maxHeartbeats 4000000 in
set_option maxRecDepth 100000 in
theorem t_X0_apply_b53 (l : Launch) (G : Gt) (av : List Value) {r : Int64} (a0 : Int32) (a1 : Int64) (a3 : Int64) (h : s_X0_apply_b53  a0 a1 a3 = r) : Bk l cX0_apply 8 RX0 (some .long) ({ frames := 4, cells := 0, slots := 0, locals := 108 } : Room) G av (sJ G r) [] 53 [(0, .int a0), (1, .long a1), (3, .long a3)] [] := by
  intro p e s m below meth c A ls H locs cx hr hlk hA hl hw
  have hx := cx.1
  have hb := cx.2.1
  rw [s_X0_apply_b53_eq] at h
  refine lv_lload_n hx hb dX0_apply_53 rfl (lv_at hl 1 rfl) ?_
  refine s_callI (As := [.long a1]) (rest := []) cx hw hA (t_X0_floatBits l G a1) ml_X0_33 st_X0_floatBits in_X0 co_X0_floatBits hd_X0_floatBits rfl ⟨(Nat.le_of_ble_eq_true rfl), (Nat.le_of_ble_eq_true rfl)⟩ hl.1 rfl (Nat.le_of_ble_eq_true rfl) dX0_apply_54 rfl (fun H locs hw => ?_)
  obtain ⟨v3, ev3, h⟩ := bv_ex h
  refine lv_topi (fun y9 z9 => ?_)
  obtain rfl : v3 = y9 := ev3.trans z9.symm
  refine lv_istore (lv' := [(5, .int v3), (0, .int a0), (1, .long a1), (3, .long a3)]) hx hb dX0_apply_57 hl (by decide) rfl (fun ls hl => ?_)
  refine lv_lload_n hx hb dX0_apply_59 rfl (lv_at hl 3 rfl) ?_
  refine s_callI (As := [.long a3]) (rest := []) cx hw hA (t_X0_floatBits l G a3) ml_X0_33 st_X0_floatBits in_X0 co_X0_floatBits hd_X0_floatBits rfl ⟨(Nat.le_of_ble_eq_true rfl), (Nat.le_of_ble_eq_true rfl)⟩ hl.1 rfl (Nat.le_of_ble_eq_true rfl) dX0_apply_60 rfl (fun H locs hw => ?_)
  obtain ⟨v4, ev4, h⟩ := bv_ex h
  refine lv_topi (fun y9 z9 => ?_)
  obtain rfl : v4 = y9 := ev4.trans z9.symm
  refine lv_istore (lv' := [(6, .int v4), (5, .int v3), (0, .int a0), (1, .long a1), (3, .long a3)]) hx hb dX0_apply_63 hl (by decide) rfl (fun ls hl => ?_)
  refine lv_iload hx hb dX0_apply_65 (lv_at hl 1 rfl) ?_
  refine s_callI (As := [.int v3]) (rest := []) cx hw hA (t_X0_isNan l G v3) ml_X0_36 st_X0_isNan in_X0 co_X0_isNan hd_X0_isNan rfl ⟨(Nat.le_of_ble_eq_true rfl), (Nat.le_of_ble_eq_true rfl)⟩ hl.1 rfl (Nat.le_of_ble_eq_true rfl) dX0_apply_67 rfl (fun H locs hw => ?_)
  refine lv_if_ne (tgt := 81) hx hb dX0_apply_70 (by decide) (fun c5 => ?_) (fun c5 => ?_)
  · rw [if_neg c5] at h
    exact t_X0_apply_b81 l G av  a0 v3 v4 h p e s m below meth c A ls H locs cx hr hlk hA (lv_sub hl [2, 1, 0] rfl) hw
  · rw [if_pos c5] at h
    refine lv_iload hx hb dX0_apply_73 (lv_at hl 0 rfl) ?_
    refine s_callI (As := [.int v4]) (rest := []) cx hw hA (t_X0_isNan l G v4) ml_X0_36 st_X0_isNan in_X0 co_X0_isNan hd_X0_isNan rfl ⟨(Nat.le_of_ble_eq_true rfl), (Nat.le_of_ble_eq_true rfl)⟩ hl.1 rfl (Nat.le_of_ble_eq_true rfl) dX0_apply_75 rfl (fun H locs hw => ?_)
    refine lv_if_eq (tgt := 85) hx hb dX0_apply_78 (by decide) (fun c18 => ?_) (fun c18 => ?_)
    · rw [if_pos c18] at h
      refine lv_iconst (v := 0) hx hb dX0_apply_85 (by decide) ?_
      exact t_X0_apply_b86 l G av  a0 v3 v4 (0 : Int32) h p e s m below meth c A ls H locs cx hr hlk hA (lv_sub hl [2, 1, 0] rfl) hw
    · rw [if_neg c18] at h
      exact t_X0_apply_b81 l G av  a0 v3 v4 h p e s m below meth c A ls H locs cx hr hlk hA (lv_sub hl [2, 1, 0] rfl) hw
theorem s_X0_apply_ex : ∃ f : Int32 → Int64 → Int64 → Int64, ∀ (a0 : Int32) (a1 : Int64) (a3 : Int64), f a0 a1 a3 = (if a0 = (37 : Int32) then (s_X0_make (0 : Int32) (s_X0_rest (s_X0_cut a1) (s_X0_cut a3))) else (if (s_X0_kind a1) = (0 : Int32) then (if (s_X0_kind a3) = (0 : Int32) then (s_X0_make (0 : Int32) (s_X0_applyInts a0 (s_X0_bits a1) (s_X0_bits a3))) else s_X0_apply_b53  a0 a1 a3) else s_X0_apply_b53  a0 a1 a3)) := ⟨fun (a0 : Int32) (a1 : Int64) (a3 : Int64) => (if a0 = (37 : Int32) then (s_X0_make (0 : Int32) (s_X0_rest (s_X0_cut a1) (s_X0_cut a3))) else (if (s_X0_kind a1) = (0 : Int32) then (if (s_X0_kind a3) = (0 : Int32) then (s_X0_make (0 : Int32) (s_X0_applyInts a0 (s_X0_bits a1) (s_X0_bits a3))) else s_X0_apply_b53  a0 a1 a3) else s_X0_apply_b53  a0 a1 a3)), fun _ _ _ => rfl⟩
noncomputable def s_X0_apply : Int32 → Int64 → Int64 → Int64 := Classical.choose s_X0_apply_ex
theorem s_X0_apply_eq (a0 : Int32) (a1 : Int64) (a3 : Int64) : s_X0_apply a0 a1 a3 = (if a0 = (37 : Int32) then (s_X0_make (0 : Int32) (s_X0_rest (s_X0_cut a1) (s_X0_cut a3))) else (if (s_X0_kind a1) = (0 : Int32) then (if (s_X0_kind a3) = (0 : Int32) then (s_X0_make (0 : Int32) (s_X0_applyInts a0 (s_X0_bits a1) (s_X0_bits a3))) else s_X0_apply_b53  a0 a1 a3) else s_X0_apply_b53  a0 a1 a3)) := Classical.choose_spec s_X0_apply_ex a0 a1 a3
set_option maxHeartbeats 4000000 in
set_option maxRecDepth 100000 in
theorem t_X0_apply (l : Launch) (G : Gt) (a0 : Int32) (a1 : Int64) (a3 : Int64) : Mt l yX0_apply cX0_apply 8 (some .long) ({ frames := 4, cells := 0, slots := 0, locals := 108 } : Room) G [.int a0, .long a1, .long a3] [] (sJ G (s_X0_apply a0 a1 a3)) := by
  obtain ⟨r, h⟩ : ∃ r, s_X0_apply a0 a1 a3 = r := ⟨_, rfl⟩
  rw [h]
  refine Bk.mt (by decide) rfl (Nat.le_of_ble_eq_true rfl) ?_
  intro p e s m below meth c A ls H locs cx hr hlk hA hl hw
  have hx := cx.1
  have hb := cx.2.1
  have hl : lv_has ls 8 [(0, .int a0), (1, .long a1), (3, .long a3)] := hl
  rw [s_X0_apply_eq] at h
  refine lv_iload_n hx hb dX0_apply_0 rfl (lv_at hl 0 rfl) ?_
  refine lv_bipush (v := 37) hx hb dX0_apply_1 (by decide) ?_
  refine lv_icmp_ne (tgt := 22) hx hb dX0_apply_3 (by decide) (fun c1 => ?_) (fun c1 => ?_)
  · rw [if_neg c1] at h
    refine lv_lload_n hx hb dX0_apply_22 rfl (lv_at hl 1 rfl) ?_
    refine s_callI (As := [.long a1]) (rest := []) cx hw hA (t_X0_kind l G a1) ml_X0_23 st_X0_kind in_X0 co_X0_kind hd_X0_kind rfl ⟨(Nat.le_of_ble_eq_true rfl), (Nat.le_of_ble_eq_true rfl)⟩ hl.1 rfl (Nat.le_of_ble_eq_true rfl) dX0_apply_23 rfl (fun H locs hw => ?_)
    refine lv_if_ne (tgt := 53) hx hb dX0_apply_26 (by decide) (fun c2 => ?_) (fun c2 => ?_)
    · rw [if_neg c2] at h
      exact t_X0_apply_b53 l G _  a0 a1 a3 h p e s m below meth c A ls H locs cx hr hlk hA (lv_sub hl [0, 1, 2] rfl) hw
    · rw [if_pos c2] at h
      refine lv_lload_n hx hb dX0_apply_29 rfl (lv_at hl 2 rfl) ?_
      refine s_callI (As := [.long a3]) (rest := []) cx hw hA (t_X0_kind l G a3) ml_X0_23 st_X0_kind in_X0 co_X0_kind hd_X0_kind rfl ⟨(Nat.le_of_ble_eq_true rfl), (Nat.le_of_ble_eq_true rfl)⟩ hl.1 rfl (Nat.le_of_ble_eq_true rfl) dX0_apply_30 rfl (fun H locs hw => ?_)
      refine lv_if_ne (tgt := 53) hx hb dX0_apply_33 (by decide) (fun c19 => ?_) (fun c19 => ?_)
      · rw [if_neg c19] at h
        exact t_X0_apply_b53 l G _  a0 a1 a3 h p e s m below meth c A ls H locs cx hr hlk hA (lv_sub hl [0, 1, 2] rfl) hw
      · rw [if_pos c19] at h
        refine lv_iconst (v := 0) hx hb dX0_apply_36 (by decide) ?_
        refine lv_iload_n hx hb dX0_apply_37 rfl (lv_at hl 0 rfl) ?_
        refine lv_lload_n hx hb dX0_apply_38 rfl (lv_at hl 1 rfl) ?_
        refine s_callI (As := [.long a1]) (rest := [.int a0, .int 0]) cx hw hA (t_X0_bits l G a1) ml_X0_26 st_X0_bits in_X0 co_X0_bits hd_X0_bits rfl ⟨(Nat.le_of_ble_eq_true rfl), (Nat.le_of_ble_eq_true rfl)⟩ hl.1 rfl (Nat.le_of_ble_eq_true rfl) dX0_apply_39 rfl (fun H locs hw => ?_)
        refine lv_lload_n hx hb dX0_apply_42 rfl (lv_at hl 2 rfl) ?_
        refine s_callI (As := [.long a3]) (rest := [.int (s_X0_bits a1), .int a0, .int 0]) cx hw hA (t_X0_bits l G a3) ml_X0_26 st_X0_bits in_X0 co_X0_bits hd_X0_bits rfl ⟨(Nat.le_of_ble_eq_true rfl), (Nat.le_of_ble_eq_true rfl)⟩ hl.1 rfl (Nat.le_of_ble_eq_true rfl) dX0_apply_43 rfl (fun H locs hw => ?_)
        refine s_callI (As := [.int a0, .int (s_X0_bits a1), .int (s_X0_bits a3)]) (rest := [.int 0]) cx hw hA (t_X0_applyInts l G a0 (s_X0_bits a1) (s_X0_bits a3)) ml_X0_29 st_X0_applyInts in_X0 co_X0_applyInts hd_X0_applyInts rfl ⟨(Nat.le_of_ble_eq_true rfl), (Nat.le_of_ble_eq_true rfl)⟩ hl.1 rfl (Nat.le_of_ble_eq_true rfl) dX0_apply_46 rfl (fun H locs hw => ?_)
        refine s_callL (As := [.int 0, .int (s_X0_applyInts a0 (s_X0_bits a1) (s_X0_bits a3))]) (rest := []) cx hw hA (t_X0_make l G (0 : Int32) (s_X0_applyInts a0 (s_X0_bits a1) (s_X0_bits a3))) ml_X0_19 st_X0_make in_X0 co_X0_make hd_X0_make rfl ⟨(Nat.le_of_ble_eq_true rfl), (Nat.le_of_ble_eq_true rfl)⟩ hl.1 rfl (Nat.le_of_ble_eq_true rfl) dX0_apply_49 rfl (fun H locs hw => ?_)
        exact s_lret cx hr hlk hw h dX0_apply_52
  · rw [if_pos c1] at h
    refine lv_iconst (v := 0) hx hb dX0_apply_6 (by decide) ?_
    refine lv_lload_n hx hb dX0_apply_7 rfl (lv_at hl 1 rfl) ?_
    refine s_callI (As := [.long a1]) (rest := [.int 0]) cx hw hA (t_X0_cut l G a1) ml_X0_11 st_X0_cut in_X0 co_X0_cut hd_X0_cut rfl ⟨(Nat.le_of_ble_eq_true rfl), (Nat.le_of_ble_eq_true rfl)⟩ hl.1 rfl (Nat.le_of_ble_eq_true rfl) dX0_apply_8 rfl (fun H locs hw => ?_)
    refine lv_lload_n hx hb dX0_apply_11 rfl (lv_at hl 2 rfl) ?_
    refine s_callI (As := [.long a3]) (rest := [.int (s_X0_cut a1), .int 0]) cx hw hA (t_X0_cut l G a3) ml_X0_11 st_X0_cut in_X0 co_X0_cut hd_X0_cut rfl ⟨(Nat.le_of_ble_eq_true rfl), (Nat.le_of_ble_eq_true rfl)⟩ hl.1 rfl (Nat.le_of_ble_eq_true rfl) dX0_apply_12 rfl (fun H locs hw => ?_)
    refine s_callI (As := [.int (s_X0_cut a1), .int (s_X0_cut a3)]) (rest := [.int 0]) cx hw hA (t_X0_rest l G (s_X0_cut a1) (s_X0_cut a3)) ml_X0_15 st_X0_rest in_X0 co_X0_rest hd_X0_rest rfl ⟨(Nat.le_of_ble_eq_true rfl), (Nat.le_of_ble_eq_true rfl)⟩ hl.1 rfl (Nat.le_of_ble_eq_true rfl) dX0_apply_15 rfl (fun H locs hw => ?_)
    refine s_callL (As := [.int 0, .int (s_X0_rest (s_X0_cut a1) (s_X0_cut a3))]) (rest := []) cx hw hA (t_X0_make l G (0 : Int32) (s_X0_rest (s_X0_cut a1) (s_X0_cut a3))) ml_X0_19 st_X0_make in_X0 co_X0_make hd_X0_make rfl ⟨(Nat.le_of_ble_eq_true rfl), (Nat.le_of_ble_eq_true rfl)⟩ hl.1 rfl (Nat.le_of_ble_eq_true rfl) dX0_apply_18 rfl (fun H locs hw => ?_)
    exact s_lret cx hr hlk hw h dX0_apply_21

theorem p_X5_addInstruction_b182_ex : ∃ f : Int32 → Int32 → Mem → Option (Int32 × Mem), ∀ (a4 : Int32) (a6 : Int32) (μ : Mem), f a4 a6 μ = gd (inb a4 672) (bv (μ.1 43 a4.toNatClampNeg) (fun v13 => (if v13 = (-1 : Int32) then gd (inb a4 672) (bv (sF μ 42 a4.toNatClampNeg a6) (fun μ17 => gd (inb a4 672) (bv (sF μ17 43 a4.toNatClampNeg a6) (fun μ18 => some (a6, μ18))))) else gd (inb ((v13 * (8 : Int32)) + (5 : Int32)) 2400) (bv (sF μ 40 ((v13 * (8 : Int32)) + (5 : Int32)).toNatClampNeg a6) (fun μ15 => gd (inb a4 672) (bv (sF μ15 43 a4.toNatClampNeg a6) (fun μ16 => some (a6, μ16)))))))) := ⟨fun (a4 : Int32) (a6 : Int32) (μ : Mem) => gd (inb a4 672) (bv (μ.1 43 a4.toNatClampNeg) (fun v13 => (if v13 = (-1 : Int32) then gd (inb a4 672) (bv (sF μ 42 a4.toNatClampNeg a6) (fun μ17 => gd (inb a4 672) (bv (sF μ17 43 a4.toNatClampNeg a6) (fun μ18 => some (a6, μ18))))) else gd (inb ((v13 * (8 : Int32)) + (5 : Int32)) 2400) (bv (sF μ 40 ((v13 * (8 : Int32)) + (5 : Int32)).toNatClampNeg a6) (fun μ15 => gd (inb a4 672) (bv (sF μ15 43 a4.toNatClampNeg a6) (fun μ16 => some (a6, μ16)))))))), fun _ _ _ => rfl⟩
noncomputable def p_X5_addInstruction_b182 : Int32 → Int32 → Mem → Option (Int32 × Mem) := Classical.choose p_X5_addInstruction_b182_ex
theorem p_X5_addInstruction_b182_eq (a4 : Int32) (a6 : Int32) (μ : Mem) : p_X5_addInstruction_b182 a4 a6 μ = gd (inb a4 672) (bv (μ.1 43 a4.toNatClampNeg) (fun v13 => (if v13 = (-1 : Int32) then gd (inb a4 672) (bv (sF μ 42 a4.toNatClampNeg a6) (fun μ17 => gd (inb a4 672) (bv (sF μ17 43 a4.toNatClampNeg a6) (fun μ18 => some (a6, μ18))))) else gd (inb ((v13 * (8 : Int32)) + (5 : Int32)) 2400) (bv (sF μ 40 ((v13 * (8 : Int32)) + (5 : Int32)).toNatClampNeg a6) (fun μ15 => gd (inb a4 672) (bv (sF μ15 43 a4.toNatClampNeg a6) (fun μ16 => some (a6, μ16)))))))) := Classical.choose_spec p_X5_addInstruction_b182_ex a4 a6 μ
set_option maxHeartbeats 4000000 in
set_option maxRecDepth 100000 in
theorem t_X5_addInstruction_b182 (l : Launch) (G : Gt) (ad : Nat → Nat) (av : List Value) {r : Int32} {μz : Mem} (a4 : Int32) (a6 : Int32) (μ : Mem) (h : p_X5_addInstruction_b182  a4 a6 μ = some (r, μz)) : Bk l cX5_addInstruction 9 RX5 (some .int) ({ frames := 0, cells := 0, slots := 0, locals := 0 } : Room) G av (eI 0 G ad r μz) (wd 0 G ad μ) 182 [(0, .ref (ad 39)), (4, .int a4), (6, .int a6)] [] := by
  intro p e s m below meth c A ls H locs cx hr hlk hA hl hw
  have hx := cx.1
  have hb := cx.2.1
  rw [p_X5_addInstruction_b182_eq] at h
  refine lv_aload_n hx hb dX5_addInstruction_182 rfl (lv_at hl 0 rfl) ?_
  refine g_get cx hw inX5 (ci := 4) rfl 10 (by decide) rfl (v := .ref (ad 43)) shx_39 rfl fl_X5_22 dX5_addInstruction_183 ?_
  refine lv_iload hx hb dX5_addInstruction_186 (lv_at hl 1 rfl) ?_
  refine g_iald cx hw shx_43 h dX5_addInstruction_188 (fun h => ?_)
  obtain ⟨v13, ev13, h⟩ := bv_ex h
  refine lv_topi (fun y9 z9 => ?_)
  obtain rfl : v13 = y9 := ev13.trans z9.symm
  refine lv_istore (lv' := [(8, .int v13), (0, .ref (ad 39)), (4, .int a4), (6, .int a6)]) hx hb dX5_addInstruction_189 hl (by decide) rfl (fun ls hl => ?_)
  refine lv_iload hx hb dX5_addInstruction_191 (lv_at hl 0 rfl) ?_
  refine lv_iconst (v := (-1)) hx hb dX5_addInstruction_193 (by decide) ?_
  refine lv_icmp_ne (tgt := 209) hx hb dX5_addInstruction_194 (by decide) (fun c14 => ?_) (fun c14 => ?_)
  · rw [if_neg c14] at h
    refine lv_aload_n hx hb dX5_addInstruction_209 rfl (lv_at hl 1 rfl) ?_
    refine g_get cx hw inX5 (ci := 4) rfl 7 (by decide) rfl (v := .ref (ad 40)) shx_39 rfl fl_X5_11 dX5_addInstruction_210 ?_
    refine lv_iload hx hb dX5_addInstruction_213 (lv_at hl 0 rfl) ?_
    refine lv_bipush (v := 8) hx hb dX5_addInstruction_215 (by decide) ?_
    refine lv_imul hx hb dX5_addInstruction_217 ?_
    refine lv_iconst (v := 5) hx hb dX5_addInstruction_218 (by decide) ?_
    refine lv_iadd hx hb dX5_addInstruction_219 ?_
    refine lv_iload hx hb dX5_addInstruction_220 (lv_at hl 3 rfl) ?_
    refine g_iast cx hw shx_40 h dX5_addInstruction_222 (fun μ15 H locs h hw => ?_)
    refine lv_aload_n hx hb dX5_addInstruction_223 rfl (lv_at hl 1 rfl) ?_
    refine g_get cx hw inX5 (ci := 4) rfl 10 (by decide) rfl (v := .ref (ad 43)) shx_39 rfl fl_X5_22 dX5_addInstruction_224 ?_
    refine lv_iload hx hb dX5_addInstruction_227 (lv_at hl 2 rfl) ?_
    refine lv_iload hx hb dX5_addInstruction_229 (lv_at hl 3 rfl) ?_
    refine g_iast cx hw shx_43 h dX5_addInstruction_231 (fun μ16 H locs h hw => ?_)
    refine lv_iload hx hb dX5_addInstruction_232 (lv_at hl 3 rfl) ?_
    exact g_iret cx hr hlk hw h dX5_addInstruction_234
  · rw [if_pos c14] at h
    refine lv_aload_n hx hb dX5_addInstruction_197 rfl (lv_at hl 1 rfl) ?_
    refine g_get cx hw inX5 (ci := 4) rfl 9 (by decide) rfl (v := .ref (ad 42)) shx_39 rfl fl_X5_19 dX5_addInstruction_198 ?_
    refine lv_iload hx hb dX5_addInstruction_201 (lv_at hl 2 rfl) ?_
    refine lv_iload hx hb dX5_addInstruction_203 (lv_at hl 3 rfl) ?_
    refine g_iast cx hw shx_42 h dX5_addInstruction_205 (fun μ17 H locs h hw => ?_)
    refine lv_goto (tgt := 223) hx hb dX5_addInstruction_206 (by decide) ?_
    refine lv_aload_n hx hb dX5_addInstruction_223 rfl (lv_at hl 1 rfl) ?_
    refine g_get cx hw inX5 (ci := 4) rfl 10 (by decide) rfl (v := .ref (ad 43)) shx_39 rfl fl_X5_22 dX5_addInstruction_224 ?_
    refine lv_iload hx hb dX5_addInstruction_227 (lv_at hl 2 rfl) ?_
    refine lv_iload hx hb dX5_addInstruction_229 (lv_at hl 3 rfl) ?_
    refine g_iast cx hw shx_43 h dX5_addInstruction_231 (fun μ18 H locs h hw => ?_)
    refine lv_iload hx hb dX5_addInstruction_232 (lv_at hl 3 rfl) ?_
    exact g_iret cx hr hlk hw h dX5_addInstruction_234
theorem p_X5_addInstruction_b76_ex : ∃ f : Nat → Int32 → Int32 → Int32 → Int32 → Int32 → Int32 → Int32 → Mem → Option (Int32 × Mem), (∀ (a1 : Int32) (a2 : Int32) (a3 : Int32) (a4 : Int32) (a6 : Int32) (a7 : Int32) (a8 : Int32) (μ : Mem), f  0 a1 a2 a3 a4 a6 a7 a8 μ = none) ∧ (∀ (n : Nat) (a1 : Int32) (a2 : Int32) (a3 : Int32) (a4 : Int32) (a6 : Int32) (a7 : Int32) (a8 : Int32) (μ : Mem), f  (n + 1) a1 a2 a3 a4 a6 a7 a8 μ = (if (8 : Int32) ≤ a8 then gd (inb (a7 + (0 : Int32)) 2400) (bv (sF μ 40 (a7 + (0 : Int32)).toNatClampNeg a1) (fun μ8 => gd (inb (a7 + (2 : Int32)) 2400) (bv (sF μ8 40 (a7 + (2 : Int32)).toNatClampNeg a2) (fun μ9 => gd (inb (a7 + (6 : Int32)) 2400) (bv (sF μ9 40 (a7 + (6 : Int32)).toNatClampNeg a3) (fun μ10 => gd (inb (a7 + (7 : Int32)) 2400) (bv (sF μ10 40 (a7 + (7 : Int32)).toNatClampNeg (0 : Int32)) (fun μ11 => (if a1 = (7 : Int32) then p_X5_addInstruction_b182  a4 a6 μ11 else bv ((a3 * (4 : Int32)) + (2 : Int32)) (fun v19 => gd (inb v19 96) (gd (inb (a7 + (1 : Int32)) 2400) (bv (sF μ11 40 (a7 + (1 : Int32)).toNatClampNeg (μ11.1 45 v19.toNatClampNeg)) (fun μ20 => gd (inb v19 96) (gd (inb v19 96) (bv (sF μ20 45 v19.toNatClampNeg ((μ20.1 45 v19.toNatClampNeg) + (1 : Int32))) (fun μ21 => p_X5_addInstruction_b182  a4 a6 μ21)))))))))))))))) else gd (inb (a7 + a8) 2400) (bv (sF μ 40 (a7 + a8).toNatClampNeg (-1 : Int32)) (fun μ22 => bv (a8 + 1) (fun v23 => f n a1 a2 a3 a4 a6 a7 v23 μ22))))) := ⟨fun n => Nat.rec (fun (a1 : Int32) (a2 : Int32) (a3 : Int32) (a4 : Int32) (a6 : Int32) (a7 : Int32) (a8 : Int32) (μ : Mem) => none) (fun _ ih => fun (a1 : Int32) (a2 : Int32) (a3 : Int32) (a4 : Int32) (a6 : Int32) (a7 : Int32) (a8 : Int32) (μ : Mem) => (if (8 : Int32) ≤ a8 then gd (inb (a7 + (0 : Int32)) 2400) (bv (sF μ 40 (a7 + (0 : Int32)).toNatClampNeg a1) (fun μ8 => gd (inb (a7 + (2 : Int32)) 2400) (bv (sF μ8 40 (a7 + (2 : Int32)).toNatClampNeg a2) (fun μ9 => gd (inb (a7 + (6 : Int32)) 2400) (bv (sF μ9 40 (a7 + (6 : Int32)).toNatClampNeg a3) (fun μ10 => gd (inb (a7 + (7 : Int32)) 2400) (bv (sF μ10 40 (a7 + (7 : Int32)).toNatClampNeg (0 : Int32)) (fun μ11 => (if a1 = (7 : Int32) then p_X5_addInstruction_b182  a4 a6 μ11 else bv ((a3 * (4 : Int32)) + (2 : Int32)) (fun v19 => gd (inb v19 96) (gd (inb (a7 + (1 : Int32)) 2400) (bv (sF μ11 40 (a7 + (1 : Int32)).toNatClampNeg (μ11.1 45 v19.toNatClampNeg)) (fun μ20 => gd (inb v19 96) (gd (inb v19 96) (bv (sF μ20 45 v19.toNatClampNeg ((μ20.1 45 v19.toNatClampNeg) + (1 : Int32))) (fun μ21 => p_X5_addInstruction_b182  a4 a6 μ21)))))))))))))))) else gd (inb (a7 + a8) 2400) (bv (sF μ 40 (a7 + a8).toNatClampNeg (-1 : Int32)) (fun μ22 => bv (a8 + 1) (fun v23 => ih a1 a2 a3 a4 a6 a7 v23 μ22))))) n, fun  _ _ _ _ _ _ _ _ => rfl, fun  _ _ _ _ _ _ _ _ _ => rfl⟩
noncomputable def p_X5_addInstruction_b76 : Nat → Int32 → Int32 → Int32 → Int32 → Int32 → Int32 → Int32 → Mem → Option (Int32 × Mem) := Classical.choose p_X5_addInstruction_b76_ex
theorem p_X5_addInstruction_b76_z (a1 : Int32) (a2 : Int32) (a3 : Int32) (a4 : Int32) (a6 : Int32) (a7 : Int32) (a8 : Int32) (μ : Mem) : p_X5_addInstruction_b76  0 a1 a2 a3 a4 a6 a7 a8 μ = none := (Classical.choose_spec p_X5_addInstruction_b76_ex).1  a1 a2 a3 a4 a6 a7 a8 μ
theorem p_X5_addInstruction_b76_s (n : Nat) (a1 : Int32) (a2 : Int32) (a3 : Int32) (a4 : Int32) (a6 : Int32) (a7 : Int32) (a8 : Int32) (μ : Mem) : p_X5_addInstruction_b76  (n + 1) a1 a2 a3 a4 a6 a7 a8 μ = (if (8 : Int32) ≤ a8 then gd (inb (a7 + (0 : Int32)) 2400) (bv (sF μ 40 (a7 + (0 : Int32)).toNatClampNeg a1) (fun μ8 => gd (inb (a7 + (2 : Int32)) 2400) (bv (sF μ8 40 (a7 + (2 : Int32)).toNatClampNeg a2) (fun μ9 => gd (inb (a7 + (6 : Int32)) 2400) (bv (sF μ9 40 (a7 + (6 : Int32)).toNatClampNeg a3) (fun μ10 => gd (inb (a7 + (7 : Int32)) 2400) (bv (sF μ10 40 (a7 + (7 : Int32)).toNatClampNeg (0 : Int32)) (fun μ11 => (if a1 = (7 : Int32) then p_X5_addInstruction_b182  a4 a6 μ11 else bv ((a3 * (4 : Int32)) + (2 : Int32)) (fun v19 => gd (inb v19 96) (gd (inb (a7 + (1 : Int32)) 2400) (bv (sF μ11 40 (a7 + (1 : Int32)).toNatClampNeg (μ11.1 45 v19.toNatClampNeg)) (fun μ20 => gd (inb v19 96) (gd (inb v19 96) (bv (sF μ20 45 v19.toNatClampNeg ((μ20.1 45 v19.toNatClampNeg) + (1 : Int32))) (fun μ21 => p_X5_addInstruction_b182  a4 a6 μ21)))))))))))))))) else gd (inb (a7 + a8) 2400) (bv (sF μ 40 (a7 + a8).toNatClampNeg (-1 : Int32)) (fun μ22 => bv (a8 + 1) (fun v23 => p_X5_addInstruction_b76  n a1 a2 a3 a4 a6 a7 v23 μ22)))) := (Classical.choose_spec p_X5_addInstruction_b76_ex).2  n a1 a2 a3 a4 a6 a7 a8 μ
set_option maxHeartbeats 4000000 in
set_option maxRecDepth 100000 in
theorem t_X5_addInstruction_b76 (l : Launch) (G : Gt) (ad : Nat → Nat) (av : List Value) {r : Int32} {μz : Mem} : ∀ (n : Nat) (a1 : Int32) (a2 : Int32) (a3 : Int32) (a4 : Int32) (a6 : Int32) (a7 : Int32) (a8 : Int32) (μ : Mem), p_X5_addInstruction_b76  n a1 a2 a3 a4 a6 a7 a8 μ = some (r, μz) → Bk l cX5_addInstruction 9 RX5 (some .int) ({ frames := 0, cells := 0, slots := 0, locals := 0 } : Room) G av (eI 0 G ad r μz) (wd 0 G ad μ) 76 [(0, .ref (ad 39)), (1, .int a1), (2, .int a2), (3, .int a3), (4, .int a4), (6, .int a6), (7, .int a7), (8, .int a8)] [] := by
  intro n
  induction n with
  | zero => intro a1 a2 a3 a4 a6 a7 a8 μ h; rw [p_X5_addInstruction_b76_z] at h; cases h
  | succ n ih =>
    intro a1 a2 a3 a4 a6 a7 a8 μ h p e s m below meth c A ls H locs cx hr hlk hA hl hw
    have hx := cx.1
    have hb := cx.2.1
    rw [p_X5_addInstruction_b76_s] at h
    refine lv_iload hx hb dX5_addInstruction_76 (lv_at hl 7 rfl) ?_
    refine lv_bipush (v := 8) hx hb dX5_addInstruction_78 (by decide) ?_
    refine lv_icmp_ge (tgt := 100) hx hb dX5_addInstruction_80 (by decide) (fun c7 => ?_) (fun c7 => ?_)
    · rw [if_pos c7] at h
      refine lv_aload_n hx hb dX5_addInstruction_100 rfl (lv_at hl 0 rfl) ?_
      refine g_get cx hw inX5 (ci := 4) rfl 7 (by decide) rfl (v := .ref (ad 40)) shx_39 rfl fl_X5_11 dX5_addInstruction_101 ?_
      refine lv_iload hx hb dX5_addInstruction_104 (lv_at hl 6 rfl) ?_
      refine lv_iconst (v := 0) hx hb dX5_addInstruction_106 (by decide) ?_
      refine lv_iadd hx hb dX5_addInstruction_107 ?_
      refine lv_iload_n hx hb dX5_addInstruction_108 rfl (lv_at hl 1 rfl) ?_
      refine g_iast cx hw shx_40 h dX5_addInstruction_109 (fun μ8 H locs h hw => ?_)
      refine lv_aload_n hx hb dX5_addInstruction_110 rfl (lv_at hl 0 rfl) ?_
      refine g_get cx hw inX5 (ci := 4) rfl 7 (by decide) rfl (v := .ref (ad 40)) shx_39 rfl fl_X5_11 dX5_addInstruction_111 ?_
      refine lv_iload hx hb dX5_addInstruction_114 (lv_at hl 6 rfl) ?_
      refine lv_iconst (v := 2) hx hb dX5_addInstruction_116 (by decide) ?_
      refine lv_iadd hx hb dX5_addInstruction_117 ?_
      refine lv_iload_n hx hb dX5_addInstruction_118 rfl (lv_at hl 2 rfl) ?_
      refine g_iast cx hw shx_40 h dX5_addInstruction_119 (fun μ9 H locs h hw => ?_)
      refine lv_aload_n hx hb dX5_addInstruction_120 rfl (lv_at hl 0 rfl) ?_
      refine g_get cx hw inX5 (ci := 4) rfl 7 (by decide) rfl (v := .ref (ad 40)) shx_39 rfl fl_X5_11 dX5_addInstruction_121 ?_
      refine lv_iload hx hb dX5_addInstruction_124 (lv_at hl 6 rfl) ?_
      refine lv_bipush (v := 6) hx hb dX5_addInstruction_126 (by decide) ?_
      refine lv_iadd hx hb dX5_addInstruction_128 ?_
      refine lv_iload_n hx hb dX5_addInstruction_129 rfl (lv_at hl 3 rfl) ?_
      refine g_iast cx hw shx_40 h dX5_addInstruction_130 (fun μ10 H locs h hw => ?_)
      refine lv_aload_n hx hb dX5_addInstruction_131 rfl (lv_at hl 0 rfl) ?_
      refine g_get cx hw inX5 (ci := 4) rfl 7 (by decide) rfl (v := .ref (ad 40)) shx_39 rfl fl_X5_11 dX5_addInstruction_132 ?_
      refine lv_iload hx hb dX5_addInstruction_135 (lv_at hl 6 rfl) ?_
      refine lv_bipush (v := 7) hx hb dX5_addInstruction_137 (by decide) ?_
      refine lv_iadd hx hb dX5_addInstruction_139 ?_
      refine lv_iconst (v := 0) hx hb dX5_addInstruction_140 (by decide) ?_
      refine g_iast cx hw shx_40 h dX5_addInstruction_141 (fun μ11 H locs h hw => ?_)
      refine lv_iload_n hx hb dX5_addInstruction_142 rfl (lv_at hl 1 rfl) ?_
      refine lv_bipush (v := 7) hx hb dX5_addInstruction_143 (by decide) ?_
      refine lv_icmp_eq (tgt := 182) hx hb dX5_addInstruction_145 (by decide) (fun c12 => ?_) (fun c12 => ?_)
      · rw [if_pos c12] at h
        exact t_X5_addInstruction_b182 l G ad av  a4 a6 μ11 h p e s m below meth c A ls H locs cx hr hlk hA (lv_sub hl [0, 4, 5] rfl) hw
      · rw [if_neg c12] at h
        refine lv_iload_n hx hb dX5_addInstruction_148 rfl (lv_at hl 3 rfl) ?_
        refine lv_iconst (v := 4) hx hb dX5_addInstruction_149 (by decide) ?_
        refine lv_imul hx hb dX5_addInstruction_150 ?_
        refine lv_iconst (v := 2) hx hb dX5_addInstruction_151 (by decide) ?_
        refine lv_iadd hx hb dX5_addInstruction_152 ?_
        obtain ⟨v19, ev19, h⟩ := bv_ex h
        refine lv_topi (fun y9 z9 => ?_)
        obtain rfl : v19 = y9 := ev19.trans z9.symm
        refine lv_istore (lv' := [(8, .int v19), (0, .ref (ad 39)), (1, .int a1), (2, .int a2), (3, .int a3), (4, .int a4), (6, .int a6), (7, .int a7)]) hx hb dX5_addInstruction_153 hl (by decide) rfl (fun ls hl => ?_)
        refine lv_aload_n hx hb dX5_addInstruction_155 rfl (lv_at hl 1 rfl) ?_
        refine g_get cx hw inX5 (ci := 4) rfl 7 (by decide) rfl (v := .ref (ad 40)) shx_39 rfl fl_X5_11 dX5_addInstruction_156 ?_
        refine lv_iload hx hb dX5_addInstruction_159 (lv_at hl 7 rfl) ?_
        refine lv_iconst (v := 1) hx hb dX5_addInstruction_161 (by decide) ?_
        refine lv_iadd hx hb dX5_addInstruction_162 ?_
        refine lv_aload_n hx hb dX5_addInstruction_163 rfl (lv_at hl 1 rfl) ?_
        refine g_get cx hw inX5 (ci := 4) rfl 12 (by decide) rfl (v := .ref (ad 45)) shx_39 rfl fl_X5_28 dX5_addInstruction_164 ?_
        refine lv_iload hx hb dX5_addInstruction_167 (lv_at hl 0 rfl) ?_
        refine g_iald cx hw shx_45 h dX5_addInstruction_169 (fun h => ?_)
        refine g_iast cx hw shx_40 h dX5_addInstruction_170 (fun μ20 H locs h hw => ?_)
        refine lv_aload_n hx hb dX5_addInstruction_171 rfl (lv_at hl 1 rfl) ?_
        refine g_get cx hw inX5 (ci := 4) rfl 12 (by decide) rfl (v := .ref (ad 45)) shx_39 rfl fl_X5_28 dX5_addInstruction_172 ?_
        refine lv_iload hx hb dX5_addInstruction_175 (lv_at hl 0 rfl) ?_
        refine lv_dup2_11 hx hb dX5_addInstruction_177 rfl rfl ?_
        refine g_iald cx hw shx_45 h dX5_addInstruction_178 (fun h => ?_)
        refine lv_iconst (v := 1) hx hb dX5_addInstruction_179 (by decide) ?_
        refine lv_iadd hx hb dX5_addInstruction_180 ?_
        refine g_iast cx hw shx_45 h dX5_addInstruction_181 (fun μ21 H locs h hw => ?_)
        exact t_X5_addInstruction_b182 l G ad av  a4 a6 μ21 h p e s m below meth c A ls H locs cx hr hlk hA (lv_sub hl [1, 5, 6] rfl) hw
    · rw [if_neg c7] at h
      refine lv_aload_n hx hb dX5_addInstruction_83 rfl (lv_at hl 0 rfl) ?_
      refine g_get cx hw inX5 (ci := 4) rfl 7 (by decide) rfl (v := .ref (ad 40)) shx_39 rfl fl_X5_11 dX5_addInstruction_84 ?_
      refine lv_iload hx hb dX5_addInstruction_87 (lv_at hl 6 rfl) ?_
      refine lv_iload hx hb dX5_addInstruction_89 (lv_at hl 7 rfl) ?_
      refine lv_iadd hx hb dX5_addInstruction_91 ?_
      refine lv_iconst (v := (-1)) hx hb dX5_addInstruction_92 (by decide) ?_
      refine g_iast cx hw shx_40 h dX5_addInstruction_93 (fun μ22 H locs h hw => ?_)
      obtain ⟨v23, ev23, h⟩ := bv_ex h
      refine lv_iinc (v := v23) (lv' := [(8, .int v23), (0, .ref (ad 39)), (1, .int a1), (2, .int a2), (3, .int a3), (4, .int a4), (6, .int a6), (7, .int a7)]) hx hb dX5_addInstruction_94 hl (k := 7) rfl (by rw [ev23]; rfl) (by decide) rfl (fun ls hl => ?_)
      refine lv_goto (tgt := 76) hx hb dX5_addInstruction_97 (by decide) ?_
      exact ih a1 a2 a3 a4 a6 a7 v23 μ22 h p e s m below meth c A ls H locs cx hr hlk hA (lv_sub hl [1, 2, 3, 4, 5, 6, 7, 0] rfl) hw
theorem p_X5_addInstruction_b31_ex : ∃ f : Int32 → Int32 → Int32 → Int32 → Int32 → Mem → Option (Int32 × Mem), ∀ (a1 : Int32) (a2 : Int32) (a3 : Int32) (a4 : Int32) (k0 : Int32) (μ : Mem), f a1 a2 a3 a4 k0 μ = (if (300 : Int32) ≤ (μ.1 39 1) then some ((-1 : Int32), μ) else (if k0 = (0 : Int32) then some ((-1 : Int32), μ) else bv (μ.1 39 1) (fun v4 => bv (v4 * (8 : Int32)) (fun v5 => bv (sF μ 39 1 ((μ.1 39 1) + (1 : Int32))) (fun μ6 => p_X5_addInstruction_b76  FUEL a1 a2 a3 a4 v4 v5 (0 : Int32) μ6))))) := ⟨fun (a1 : Int32) (a2 : Int32) (a3 : Int32) (a4 : Int32) (k0 : Int32) (μ : Mem) => (if (300 : Int32) ≤ (μ.1 39 1) then some ((-1 : Int32), μ) else (if k0 = (0 : Int32) then some ((-1 : Int32), μ) else bv (μ.1 39 1) (fun v4 => bv (v4 * (8 : Int32)) (fun v5 => bv (sF μ 39 1 ((μ.1 39 1) + (1 : Int32))) (fun μ6 => p_X5_addInstruction_b76  FUEL a1 a2 a3 a4 v4 v5 (0 : Int32) μ6))))), fun _ _ _ _ _ _ => rfl⟩
noncomputable def p_X5_addInstruction_b31 : Int32 → Int32 → Int32 → Int32 → Int32 → Mem → Option (Int32 × Mem) := Classical.choose p_X5_addInstruction_b31_ex
theorem p_X5_addInstruction_b31_eq (a1 : Int32) (a2 : Int32) (a3 : Int32) (a4 : Int32) (k0 : Int32) (μ : Mem) : p_X5_addInstruction_b31 a1 a2 a3 a4 k0 μ = (if (300 : Int32) ≤ (μ.1 39 1) then some ((-1 : Int32), μ) else (if k0 = (0 : Int32) then some ((-1 : Int32), μ) else bv (μ.1 39 1) (fun v4 => bv (v4 * (8 : Int32)) (fun v5 => bv (sF μ 39 1 ((μ.1 39 1) + (1 : Int32))) (fun μ6 => p_X5_addInstruction_b76  FUEL a1 a2 a3 a4 v4 v5 (0 : Int32) μ6))))) := Classical.choose_spec p_X5_addInstruction_b31_ex a1 a2 a3 a4 k0 μ
set_option maxHeartbeats 4000000 in
set_option maxRecDepth 100000 in
theorem t_X5_addInstruction_b31 (l : Launch) (G : Gt) (ad : Nat → Nat) (av : List Value) {r : Int32} {μz : Mem} (a1 : Int32) (a2 : Int32) (a3 : Int32) (a4 : Int32) (k0 : Int32) (μ : Mem) (h : p_X5_addInstruction_b31  a1 a2 a3 a4 k0 μ = some (r, μz)) : Bk l cX5_addInstruction 9 RX5 (some .int) ({ frames := 0, cells := 0, slots := 0, locals := 0 } : Room) G av (eI 0 G ad r μz) (wd 0 G ad μ) 31 [(0, .ref (ad 39)), (1, .int a1), (2, .int a2), (3, .int a3), (4, .int a4)] [.int k0] := by
  intro p e s m below meth c A ls H locs cx hr hlk hA hl hw
  have hx := cx.1
  have hb := cx.2.1
  rw [p_X5_addInstruction_b31_eq] at h
  refine lv_istore (lv' := [(5, .int k0), (0, .ref (ad 39)), (1, .int a1), (2, .int a2), (3, .int a3), (4, .int a4)]) hx hb dX5_addInstruction_31 hl (by decide) rfl (fun ls hl => ?_)
  refine lv_aload_n hx hb dX5_addInstruction_33 rfl (lv_at hl 1 rfl) ?_
  refine g_get cx hw inX5 (ci := 4) rfl 1 (by decide) rfl (v := .int (μ.1 39 1)) shx_39 rfl fl_X5_44 dX5_addInstruction_34 ?_
  refine lv_sipush (v := 300) hx hb dX5_addInstruction_37 (by decide) ?_
  refine lv_icmp_ge (tgt := 48) hx hb dX5_addInstruction_40 (by decide) (fun c2 => ?_) (fun c2 => ?_)
  · rw [if_pos c2] at h
    refine lv_iconst (v := (-1)) hx hb dX5_addInstruction_48 (by decide) ?_
    exact g_iret cx hr hlk hw h dX5_addInstruction_49
  · rw [if_neg c2] at h
    refine lv_iload hx hb dX5_addInstruction_43 (lv_at hl 0 rfl) ?_
    refine lv_if_ne (tgt := 50) hx hb dX5_addInstruction_45 (by decide) (fun c3 => ?_) (fun c3 => ?_)
    · rw [if_neg c3] at h
      refine lv_aload_n hx hb dX5_addInstruction_50 rfl (lv_at hl 1 rfl) ?_
      refine g_get cx hw inX5 (ci := 4) rfl 1 (by decide) rfl (v := .int (μ.1 39 1)) shx_39 rfl fl_X5_44 dX5_addInstruction_51 ?_
      obtain ⟨v4, ev4, h⟩ := bv_ex h
      refine lv_topi (fun y9 z9 => ?_)
      obtain rfl : v4 = y9 := ev4.trans z9.symm
      refine lv_istore (lv' := [(6, .int v4), (5, .int k0), (0, .ref (ad 39)), (1, .int a1), (2, .int a2), (3, .int a3), (4, .int a4)]) hx hb dX5_addInstruction_54 hl (by decide) rfl (fun ls hl => ?_)
      refine lv_iload hx hb dX5_addInstruction_56 (lv_at hl 0 rfl) ?_
      refine lv_bipush (v := 8) hx hb dX5_addInstruction_58 (by decide) ?_
      refine lv_imul hx hb dX5_addInstruction_60 ?_
      obtain ⟨v5, ev5, h⟩ := bv_ex h
      refine lv_topi (fun y9 z9 => ?_)
      obtain rfl : v5 = y9 := ev5.trans z9.symm
      refine lv_istore (lv' := [(7, .int v5), (6, .int v4), (5, .int k0), (0, .ref (ad 39)), (1, .int a1), (2, .int a2), (3, .int a3), (4, .int a4)]) hx hb dX5_addInstruction_61 hl (by decide) rfl (fun ls hl => ?_)
      refine lv_aload_n hx hb dX5_addInstruction_63 rfl (lv_at hl 3 rfl) ?_
      refine lv_dup hx hb dX5_addInstruction_64 rfl ?_
      refine g_get cx hw inX5 (ci := 4) rfl 1 (by decide) rfl (v := .int (μ.1 39 1)) shx_39 rfl fl_X5_44 dX5_addInstruction_65 ?_
      refine lv_iconst (v := 1) hx hb dX5_addInstruction_68 (by decide) ?_
      refine lv_iadd hx hb dX5_addInstruction_69 ?_
      refine g_put cx hw inX5 (ci := 4) rfl tyX5_ok nmX5 1 (by decide) rfl rfl rfl rfl shx_39 h fl_X5_44 dX5_addInstruction_70 (fun μ6 H locs h hw => ?_)
      refine lv_iconst (v := 0) hx hb dX5_addInstruction_73 (by decide) ?_
      refine lv_istore (lv' := [(8, .int 0), (7, .int v5), (6, .int v4), (5, .int k0), (0, .ref (ad 39)), (1, .int a1), (2, .int a2), (3, .int a3), (4, .int a4)]) hx hb dX5_addInstruction_74 hl (by decide) rfl (fun ls hl => ?_)
      exact t_X5_addInstruction_b76 l G ad av  FUEL a1 a2 a3 a4 v4 v5 (0 : Int32) μ6 h p e s m below meth c A ls H locs cx hr hlk hA (lv_sub hl [4, 5, 6, 7, 8, 2, 1, 0] rfl) hw
    · rw [if_pos c3] at h
      refine lv_iconst (v := (-1)) hx hb dX5_addInstruction_48 (by decide) ?_
      exact g_iret cx hr hlk hw h dX5_addInstruction_49
theorem p_X5_addInstruction_b30_ex : ∃ f : Int32 → Int32 → Int32 → Int32 → Mem → Option (Int32 × Mem), ∀ (a1 : Int32) (a2 : Int32) (a3 : Int32) (a4 : Int32) (μ : Mem), f a1 a2 a3 a4 μ = p_X5_addInstruction_b31  a1 a2 a3 a4 (0 : Int32) μ := ⟨fun (a1 : Int32) (a2 : Int32) (a3 : Int32) (a4 : Int32) (μ : Mem) => p_X5_addInstruction_b31  a1 a2 a3 a4 (0 : Int32) μ, fun _ _ _ _ _ => rfl⟩
noncomputable def p_X5_addInstruction_b30 : Int32 → Int32 → Int32 → Int32 → Mem → Option (Int32 × Mem) := Classical.choose p_X5_addInstruction_b30_ex
theorem p_X5_addInstruction_b30_eq (a1 : Int32) (a2 : Int32) (a3 : Int32) (a4 : Int32) (μ : Mem) : p_X5_addInstruction_b30 a1 a2 a3 a4 μ = p_X5_addInstruction_b31  a1 a2 a3 a4 (0 : Int32) μ := Classical.choose_spec p_X5_addInstruction_b30_ex a1 a2 a3 a4 μ
set_option maxHeartbeats 4000000 in
set_option maxRecDepth 100000 in
theorem t_X5_addInstruction_b30 (l : Launch) (G : Gt) (ad : Nat → Nat) (av : List Value) {r : Int32} {μz : Mem} (a1 : Int32) (a2 : Int32) (a3 : Int32) (a4 : Int32) (μ : Mem) (h : p_X5_addInstruction_b30  a1 a2 a3 a4 μ = some (r, μz)) : Bk l cX5_addInstruction 9 RX5 (some .int) ({ frames := 0, cells := 0, slots := 0, locals := 0 } : Room) G av (eI 0 G ad r μz) (wd 0 G ad μ) 30 [(0, .ref (ad 39)), (1, .int a1), (2, .int a2), (3, .int a3), (4, .int a4)] [] := by
  intro p e s m below meth c A ls H locs cx hr hlk hA hl hw
  have hx := cx.1
  have hb := cx.2.1
  rw [p_X5_addInstruction_b30_eq] at h
  refine lv_iconst (v := 0) hx hb dX5_addInstruction_30 (by decide) ?_
  exact t_X5_addInstruction_b31 l G ad av  a1 a2 a3 a4 (0 : Int32) μ h p e s m below meth c A ls H locs cx hr hlk hA (lv_sub hl [0, 1, 2, 3, 4] rfl) hw
theorem p_X5_addInstruction_ex : ∃ f : Int32 → Int32 → Int32 → Int32 → Mem → Option (Int32 × Mem), ∀ (a1 : Int32) (a2 : Int32) (a3 : Int32) (a4 : Int32) (μ : Mem), f a1 a2 a3 a4 μ = (if a4 < (0 : Int32) then p_X5_addInstruction_b30  a1 a2 a3 a4 μ else (if (μ.1 39 6) ≤ a4 then p_X5_addInstruction_b30  a1 a2 a3 a4 μ else (if a3 < (0 : Int32) then p_X5_addInstruction_b30  a1 a2 a3 a4 μ else (if (μ.1 39 2) ≤ a3 then p_X5_addInstruction_b30  a1 a2 a3 a4 μ else p_X5_addInstruction_b31  a1 a2 a3 a4 (1 : Int32) μ)))) := ⟨fun (a1 : Int32) (a2 : Int32) (a3 : Int32) (a4 : Int32) (μ : Mem) => (if a4 < (0 : Int32) then p_X5_addInstruction_b30  a1 a2 a3 a4 μ else (if (μ.1 39 6) ≤ a4 then p_X5_addInstruction_b30  a1 a2 a3 a4 μ else (if a3 < (0 : Int32) then p_X5_addInstruction_b30  a1 a2 a3 a4 μ else (if (μ.1 39 2) ≤ a3 then p_X5_addInstruction_b30  a1 a2 a3 a4 μ else p_X5_addInstruction_b31  a1 a2 a3 a4 (1 : Int32) μ)))), fun _ _ _ _ _ => rfl⟩
noncomputable def p_X5_addInstruction : Int32 → Int32 → Int32 → Int32 → Mem → Option (Int32 × Mem) := Classical.choose p_X5_addInstruction_ex
theorem p_X5_addInstruction_eq (a1 : Int32) (a2 : Int32) (a3 : Int32) (a4 : Int32) (μ : Mem) : p_X5_addInstruction a1 a2 a3 a4 μ = (if a4 < (0 : Int32) then p_X5_addInstruction_b30  a1 a2 a3 a4 μ else (if (μ.1 39 6) ≤ a4 then p_X5_addInstruction_b30  a1 a2 a3 a4 μ else (if a3 < (0 : Int32) then p_X5_addInstruction_b30  a1 a2 a3 a4 μ else (if (μ.1 39 2) ≤ a3 then p_X5_addInstruction_b30  a1 a2 a3 a4 μ else p_X5_addInstruction_b31  a1 a2 a3 a4 (1 : Int32) μ)))) := Classical.choose_spec p_X5_addInstruction_ex a1 a2 a3 a4 μ
set_option maxHeartbeats 4000000 in
set_option maxRecDepth 100000 in
theorem t_X5_addInstruction (l : Launch) (G : Gt) (ad : Nat → Nat) (a1 : Int32) (a2 : Int32) (a3 : Int32) (a4 : Int32) (μ : Mem) {r : Int32} {μz : Mem} (h : p_X5_addInstruction a1 a2 a3 a4 μ = some (r, μz)) : Mt l yX5_addInstruction cX5_addInstruction 9 (some .int) ({ frames := 0, cells := 0, slots := 0, locals := 0 } : Room) G [.ref (ad 39), .int a1, .int a2, .int a3, .int a4] (wd 0 G ad μ) (eI 0 G ad r μz) := by
  refine Bk.mt (by decide) rfl (Nat.le_of_ble_eq_true rfl) ?_
  intro p e s m below meth c A ls H locs cx hr hlk hA hl hw
  have hx := cx.1
  have hb := cx.2.1
  have hl : lv_has ls 9 [(0, .ref (ad 39)), (1, .int a1), (2, .int a2), (3, .int a3), (4, .int a4)] := hl
  rw [p_X5_addInstruction_eq] at h
  refine lv_iload hx hb dX5_addInstruction_0 (lv_at hl 4 rfl) ?_
  refine lv_if_lt (tgt := 30) hx hb dX5_addInstruction_2 (by decide) (fun c1 => ?_) (fun c1 => ?_)
  · rw [if_pos c1] at h
    exact t_X5_addInstruction_b30 l G ad _  a1 a2 a3 a4 μ h p e s m below meth c A ls H locs cx hr hlk hA (lv_sub hl [0, 1, 2, 3, 4] rfl) hw
  · rw [if_neg c1] at h
    refine lv_iload hx hb dX5_addInstruction_5 (lv_at hl 4 rfl) ?_
    refine lv_aload_n hx hb dX5_addInstruction_7 rfl (lv_at hl 0 rfl) ?_
    refine g_get cx hw inX5 (ci := 4) rfl 6 (by decide) rfl (v := .int (μ.1 39 6)) shx_39 rfl fl_X5_60 dX5_addInstruction_8 ?_
    refine lv_icmp_ge (tgt := 30) hx hb dX5_addInstruction_11 (by decide) (fun c24 => ?_) (fun c24 => ?_)
    · rw [if_pos c24] at h
      exact t_X5_addInstruction_b30 l G ad _  a1 a2 a3 a4 μ h p e s m below meth c A ls H locs cx hr hlk hA (lv_sub hl [0, 1, 2, 3, 4] rfl) hw
    · rw [if_neg c24] at h
      refine lv_iload_n hx hb dX5_addInstruction_14 rfl (lv_at hl 3 rfl) ?_
      refine lv_if_lt (tgt := 30) hx hb dX5_addInstruction_15 (by decide) (fun c25 => ?_) (fun c25 => ?_)
      · rw [if_pos c25] at h
        exact t_X5_addInstruction_b30 l G ad _  a1 a2 a3 a4 μ h p e s m below meth c A ls H locs cx hr hlk hA (lv_sub hl [0, 1, 2, 3, 4] rfl) hw
      · rw [if_neg c25] at h
        refine lv_iload_n hx hb dX5_addInstruction_18 rfl (lv_at hl 3 rfl) ?_
        refine lv_aload_n hx hb dX5_addInstruction_19 rfl (lv_at hl 0 rfl) ?_
        refine g_get cx hw inX5 (ci := 4) rfl 2 (by decide) rfl (v := .int (μ.1 39 2)) shx_39 rfl fl_X5_48 dX5_addInstruction_20 ?_
        refine lv_icmp_ge (tgt := 30) hx hb dX5_addInstruction_23 (by decide) (fun c26 => ?_) (fun c26 => ?_)
        · rw [if_pos c26] at h
          exact t_X5_addInstruction_b30 l G ad _  a1 a2 a3 a4 μ h p e s m below meth c A ls H locs cx hr hlk hA (lv_sub hl [0, 1, 2, 3, 4] rfl) hw
        · rw [if_neg c26] at h
          refine lv_iconst (v := 1) hx hb dX5_addInstruction_26 (by decide) ?_
          refine lv_goto (tgt := 31) hx hb dX5_addInstruction_27 (by decide) ?_
          exact t_X5_addInstruction_b31 l G ad _  a1 a2 a3 a4 (1 : Int32) μ h p e s m below meth c A ls H locs cx hr hlk hA (lv_sub hl [0, 1, 2, 3, 4] rfl) hw

theorem p_X10_breakOff_ex : ∃ f : Int32 → Mem → Option Mem, ∀ (a1 : Int32) (μ : Mem), f a1 μ = (if (μ.1 137 6) = (0 : Int32) then bv (sF μ 137 6 a1) (fun μ2 => some μ2) else some μ) := ⟨fun (a1 : Int32) (μ : Mem) => (if (μ.1 137 6) = (0 : Int32) then bv (sF μ 137 6 a1) (fun μ2 => some μ2) else some μ), fun _ _ => rfl⟩
noncomputable def p_X10_breakOff : Int32 → Mem → Option Mem := Classical.choose p_X10_breakOff_ex
theorem p_X10_breakOff_eq (a1 : Int32) (μ : Mem) : p_X10_breakOff a1 μ = (if (μ.1 137 6) = (0 : Int32) then bv (sF μ 137 6 a1) (fun μ2 => some μ2) else some μ) := Classical.choose_spec p_X10_breakOff_ex a1 μ
set_option maxHeartbeats 4000000 in
set_option maxRecDepth 100000 in
theorem t_X10_breakOff (l : Launch) (G : Gt) (ad : Nat → Nat) (a1 : Int32) (μ : Mem) {μz : Mem} (h : p_X10_breakOff a1 μ = some μz) : Mt l yX10_breakOff cX10_breakOff 2 none ({ frames := 0, cells := 0, slots := 0, locals := 0 } : Room) G [.ref (ad 137), .int a1] (wd 0 G ad μ) (eV 0 G ad μz) := by
  refine Bk.mt (by decide) rfl (Nat.le_of_ble_eq_true rfl) ?_
  intro p e s m below meth c A ls H locs cx hr hlk hA hl hw
  have hx := cx.1
  have hb := cx.2.1
  have hl : lv_has ls 2 [(0, .ref (ad 137)), (1, .int a1)] := hl
  rw [p_X10_breakOff_eq] at h
  refine lv_aload_n hx hb dX10_breakOff_0 rfl (lv_at hl 0 rfl) ?_
  refine g_get cx hw inX10 (ci := 9) rfl 6 (by decide) rfl (v := .int (μ.1 137 6)) shx_137 rfl fl_X10_70 dX10_breakOff_1 ?_
  refine lv_if_ne (tgt := 12) hx hb dX10_breakOff_4 (by decide) (fun c1 => ?_) (fun c1 => ?_)
  · rw [if_neg c1] at h
    exact g_vret cx hr hlk hw h dX10_breakOff_12
  · rw [if_pos c1] at h
    refine lv_aload_n hx hb dX10_breakOff_7 rfl (lv_at hl 0 rfl) ?_
    refine lv_iload_n hx hb dX10_breakOff_8 rfl (lv_at hl 1 rfl) ?_
    refine g_put cx hw inX10 (ci := 9) rfl tyX10_ok nmX10 6 (by decide) rfl rfl rfl rfl shx_137 h fl_X10_70 dX10_breakOff_9 (fun μ2 H locs h hw => ?_)
    exact g_vret cx hr hlk hw h dX10_breakOff_12

theorem p_X5_setOperand_ex : ∃ f : Int32 → Int32 → Int64 → Mem → Option Mem, ∀ (a1 : Int32) (a2 : Int32) (a3 : Int64) (μ : Mem), f a1 a2 a3 μ = (if a1 < (0 : Int32) then some μ else (if (μ.1 39 1) ≤ a1 then some μ else (if a2 < (0 : Int32) then some μ else (if (10 : Int32) ≤ a2 then some μ else gd (inb ((a1 * (10 : Int32)) + a2) 3000) (bv (sL μ 41 ((a1 * (10 : Int32)) + a2).toNatClampNeg a3) (fun μ5 => some μ5)))))) := ⟨fun (a1 : Int32) (a2 : Int32) (a3 : Int64) (μ : Mem) => (if a1 < (0 : Int32) then some μ else (if (μ.1 39 1) ≤ a1 then some μ else (if a2 < (0 : Int32) then some μ else (if (10 : Int32) ≤ a2 then some μ else gd (inb ((a1 * (10 : Int32)) + a2) 3000) (bv (sL μ 41 ((a1 * (10 : Int32)) + a2).toNatClampNeg a3) (fun μ5 => some μ5)))))), fun _ _ _ _ => rfl⟩
noncomputable def p_X5_setOperand : Int32 → Int32 → Int64 → Mem → Option Mem := Classical.choose p_X5_setOperand_ex
theorem p_X5_setOperand_eq (a1 : Int32) (a2 : Int32) (a3 : Int64) (μ : Mem) : p_X5_setOperand a1 a2 a3 μ = (if a1 < (0 : Int32) then some μ else (if (μ.1 39 1) ≤ a1 then some μ else (if a2 < (0 : Int32) then some μ else (if (10 : Int32) ≤ a2 then some μ else gd (inb ((a1 * (10 : Int32)) + a2) 3000) (bv (sL μ 41 ((a1 * (10 : Int32)) + a2).toNatClampNeg a3) (fun μ5 => some μ5)))))) := Classical.choose_spec p_X5_setOperand_ex a1 a2 a3 μ
set_option maxHeartbeats 4000000 in
set_option maxRecDepth 100000 in
theorem t_X5_setOperand (l : Launch) (G : Gt) (ad : Nat → Nat) (a1 : Int32) (a2 : Int32) (a3 : Int64) (μ : Mem) {μz : Mem} (h : p_X5_setOperand a1 a2 a3 μ = some μz) : Mt l yX5_setOperand cX5_setOperand 5 none ({ frames := 0, cells := 0, slots := 0, locals := 0 } : Room) G [.ref (ad 39), .int a1, .int a2, .long a3] (wd 0 G ad μ) (eV 0 G ad μz) := by
  refine Bk.mt (by decide) rfl (Nat.le_of_ble_eq_true rfl) ?_
  intro p e s m below meth c A ls H locs cx hr hlk hA hl hw
  have hx := cx.1
  have hb := cx.2.1
  have hl : lv_has ls 5 [(0, .ref (ad 39)), (1, .int a1), (2, .int a2), (3, .long a3)] := hl
  rw [p_X5_setOperand_eq] at h
  refine lv_iload_n hx hb dX5_setOperand_0 rfl (lv_at hl 1 rfl) ?_
  refine lv_if_lt (tgt := 34) hx hb dX5_setOperand_1 (by decide) (fun c1 => ?_) (fun c1 => ?_)
  · rw [if_pos c1] at h
    exact g_vret cx hr hlk hw h dX5_setOperand_34
  · rw [if_neg c1] at h
    refine lv_iload_n hx hb dX5_setOperand_4 rfl (lv_at hl 1 rfl) ?_
    refine lv_aload_n hx hb dX5_setOperand_5 rfl (lv_at hl 0 rfl) ?_
    refine g_get cx hw inX5 (ci := 4) rfl 1 (by decide) rfl (v := .int (μ.1 39 1)) shx_39 rfl fl_X5_44 dX5_setOperand_6 ?_
    refine lv_icmp_ge (tgt := 34) hx hb dX5_setOperand_9 (by decide) (fun c2 => ?_) (fun c2 => ?_)
    · rw [if_pos c2] at h
      exact g_vret cx hr hlk hw h dX5_setOperand_34
    · rw [if_neg c2] at h
      refine lv_iload_n hx hb dX5_setOperand_12 rfl (lv_at hl 2 rfl) ?_
      refine lv_if_lt (tgt := 34) hx hb dX5_setOperand_13 (by decide) (fun c3 => ?_) (fun c3 => ?_)
      · rw [if_pos c3] at h
        exact g_vret cx hr hlk hw h dX5_setOperand_34
      · rw [if_neg c3] at h
        refine lv_iload_n hx hb dX5_setOperand_16 rfl (lv_at hl 2 rfl) ?_
        refine lv_bipush (v := 10) hx hb dX5_setOperand_17 (by decide) ?_
        refine lv_icmp_ge (tgt := 34) hx hb dX5_setOperand_19 (by decide) (fun c4 => ?_) (fun c4 => ?_)
        · rw [if_pos c4] at h
          exact g_vret cx hr hlk hw h dX5_setOperand_34
        · rw [if_neg c4] at h
          refine lv_aload_n hx hb dX5_setOperand_22 rfl (lv_at hl 0 rfl) ?_
          refine g_get cx hw inX5 (ci := 4) rfl 8 (by decide) rfl (v := .ref (ad 41)) shx_39 rfl fl_X5_15 dX5_setOperand_23 ?_
          refine lv_iload_n hx hb dX5_setOperand_26 rfl (lv_at hl 1 rfl) ?_
          refine lv_bipush (v := 10) hx hb dX5_setOperand_27 (by decide) ?_
          refine lv_imul hx hb dX5_setOperand_29 ?_
          refine lv_iload_n hx hb dX5_setOperand_30 rfl (lv_at hl 2 rfl) ?_
          refine lv_iadd hx hb dX5_setOperand_31 ?_
          refine lv_lload_n hx hb dX5_setOperand_32 rfl (lv_at hl 3 rfl) ?_
          refine g_last cx hw shx_41 h dX5_setOperand_33 (fun μ5 H locs h hw => ?_)
          exact g_vret cx hr hlk hw h dX5_setOperand_34

theorem p_X5_cell_ex : ∃ f : Int32 → Int32 → Mem → Option (Int32 × Mem), ∀ (a1 : Int32) (a2 : Int32) (μ : Mem), f a1 a2 μ = (if a1 < (0 : Int32) then some ((-1 : Int32), μ) else (if (μ.1 39 1) ≤ a1 then some ((-1 : Int32), μ) else (if (8 : Int32) ≤ a2 then some ((-1 : Int32), μ) else gd (inb ((a1 * (8 : Int32)) + a2) 2400) (some ((μ.1 40 ((a1 * (8 : Int32)) + a2).toNatClampNeg), μ))))) := ⟨fun (a1 : Int32) (a2 : Int32) (μ : Mem) => (if a1 < (0 : Int32) then some ((-1 : Int32), μ) else (if (μ.1 39 1) ≤ a1 then some ((-1 : Int32), μ) else (if (8 : Int32) ≤ a2 then some ((-1 : Int32), μ) else gd (inb ((a1 * (8 : Int32)) + a2) 2400) (some ((μ.1 40 ((a1 * (8 : Int32)) + a2).toNatClampNeg), μ))))), fun _ _ _ => rfl⟩
noncomputable def p_X5_cell : Int32 → Int32 → Mem → Option (Int32 × Mem) := Classical.choose p_X5_cell_ex
theorem p_X5_cell_eq (a1 : Int32) (a2 : Int32) (μ : Mem) : p_X5_cell a1 a2 μ = (if a1 < (0 : Int32) then some ((-1 : Int32), μ) else (if (μ.1 39 1) ≤ a1 then some ((-1 : Int32), μ) else (if (8 : Int32) ≤ a2 then some ((-1 : Int32), μ) else gd (inb ((a1 * (8 : Int32)) + a2) 2400) (some ((μ.1 40 ((a1 * (8 : Int32)) + a2).toNatClampNeg), μ))))) := Classical.choose_spec p_X5_cell_ex a1 a2 μ
set_option maxHeartbeats 4000000 in
set_option maxRecDepth 100000 in
theorem t_X5_cell (l : Launch) (G : Gt) (ad : Nat → Nat) (a1 : Int32) (a2 : Int32) (μ : Mem) {r : Int32} {μz : Mem} (h : p_X5_cell a1 a2 μ = some (r, μz)) : Mt l yX5_cell cX5_cell 3 (some .int) ({ frames := 0, cells := 0, slots := 0, locals := 0 } : Room) G [.ref (ad 39), .int a1, .int a2] (wd 0 G ad μ) (eI 0 G ad r μz) := by
  refine Bk.mt (by decide) rfl (Nat.le_of_ble_eq_true rfl) ?_
  intro p e s m below meth c A ls H locs cx hr hlk hA hl hw
  have hx := cx.1
  have hb := cx.2.1
  have hl : lv_has ls 3 [(0, .ref (ad 39)), (1, .int a1), (2, .int a2)] := hl
  rw [p_X5_cell_eq] at h
  refine lv_iload_n hx hb dX5_cell_0 rfl (lv_at hl 1 rfl) ?_
  refine lv_if_lt (tgt := 32) hx hb dX5_cell_1 (by decide) (fun c1 => ?_) (fun c1 => ?_)
  · rw [if_pos c1] at h
    refine lv_iconst (v := (-1)) hx hb dX5_cell_32 (by decide) ?_
    exact g_iret cx hr hlk hw h dX5_cell_33
  · rw [if_neg c1] at h
    refine lv_iload_n hx hb dX5_cell_4 rfl (lv_at hl 1 rfl) ?_
    refine lv_aload_n hx hb dX5_cell_5 rfl (lv_at hl 0 rfl) ?_
    refine g_get cx hw inX5 (ci := 4) rfl 1 (by decide) rfl (v := .int (μ.1 39 1)) shx_39 rfl fl_X5_44 dX5_cell_6 ?_
    refine lv_icmp_ge (tgt := 32) hx hb dX5_cell_9 (by decide) (fun c2 => ?_) (fun c2 => ?_)
    · rw [if_pos c2] at h
      refine lv_iconst (v := (-1)) hx hb dX5_cell_32 (by decide) ?_
      exact g_iret cx hr hlk hw h dX5_cell_33
    · rw [if_neg c2] at h
      refine lv_iload_n hx hb dX5_cell_12 rfl (lv_at hl 2 rfl) ?_
      refine lv_bipush (v := 8) hx hb dX5_cell_13 (by decide) ?_
      refine lv_icmp_ge (tgt := 32) hx hb dX5_cell_15 (by decide) (fun c3 => ?_) (fun c3 => ?_)
      · rw [if_pos c3] at h
        refine lv_iconst (v := (-1)) hx hb dX5_cell_32 (by decide) ?_
        exact g_iret cx hr hlk hw h dX5_cell_33
      · rw [if_neg c3] at h
        refine lv_aload_n hx hb dX5_cell_18 rfl (lv_at hl 0 rfl) ?_
        refine g_get cx hw inX5 (ci := 4) rfl 7 (by decide) rfl (v := .ref (ad 40)) shx_39 rfl fl_X5_11 dX5_cell_19 ?_
        refine lv_iload_n hx hb dX5_cell_22 rfl (lv_at hl 1 rfl) ?_
        refine lv_bipush (v := 8) hx hb dX5_cell_23 (by decide) ?_
        refine lv_imul hx hb dX5_cell_25 ?_
        refine lv_iload_n hx hb dX5_cell_26 rfl (lv_at hl 2 rfl) ?_
        refine lv_iadd hx hb dX5_cell_27 ?_
        refine g_iald cx hw shx_40 h dX5_cell_28 (fun h => ?_)
        refine lv_goto (tgt := 33) hx hb dX5_cell_29 (by decide) ?_
        exact g_iret cx hr hlk hw h dX5_cell_33

theorem p_X10_leave_ex : ∃ f : Int32 → Int32 → Int64 → Int64 → Mem → Option (Int64 × Mem), ∀ (a1 : Int32) (a2 : Int32) (a3 : Int64) (a5 : Int64) (μ : Mem), f a1 a2 a3 a5 μ = (if (μ.1 137 6) = (0 : Int32) then bd (p_X5_addInstruction a1 a2 (μ.1 137 7) (μ.1 137 8) μ) (fun r3 μ2 => (if r3 = (-1 : Int32) then bw (p_X10_breakOff (-2 : Int32) μ2) (fun μ11 => some ((0 : Int64), μ11)) else bw (p_X5_setOperand r3 (0 : Int32) a3 μ2) (fun μ5 => bw (p_X5_setOperand r3 (1 : Int32) a5 μ5) (fun μ7 => bd (p_X5_cell r3 (1 : Int32) μ7) (fun r10 μ9 => some ((s_X0_make (3 : Int32) r10), μ9)))))) else some ((0 : Int64), μ)) := ⟨fun (a1 : Int32) (a2 : Int32) (a3 : Int64) (a5 : Int64) (μ : Mem) => (if (μ.1 137 6) = (0 : Int32) then bd (p_X5_addInstruction a1 a2 (μ.1 137 7) (μ.1 137 8) μ) (fun r3 μ2 => (if r3 = (-1 : Int32) then bw (p_X10_breakOff (-2 : Int32) μ2) (fun μ11 => some ((0 : Int64), μ11)) else bw (p_X5_setOperand r3 (0 : Int32) a3 μ2) (fun μ5 => bw (p_X5_setOperand r3 (1 : Int32) a5 μ5) (fun μ7 => bd (p_X5_cell r3 (1 : Int32) μ7) (fun r10 μ9 => some ((s_X0_make (3 : Int32) r10), μ9)))))) else some ((0 : Int64), μ)), fun _ _ _ _ _ => rfl⟩
noncomputable def p_X10_leave : Int32 → Int32 → Int64 → Int64 → Mem → Option (Int64 × Mem) := Classical.choose p_X10_leave_ex
theorem p_X10_leave_eq (a1 : Int32) (a2 : Int32) (a3 : Int64) (a5 : Int64) (μ : Mem) : p_X10_leave a1 a2 a3 a5 μ = (if (μ.1 137 6) = (0 : Int32) then bd (p_X5_addInstruction a1 a2 (μ.1 137 7) (μ.1 137 8) μ) (fun r3 μ2 => (if r3 = (-1 : Int32) then bw (p_X10_breakOff (-2 : Int32) μ2) (fun μ11 => some ((0 : Int64), μ11)) else bw (p_X5_setOperand r3 (0 : Int32) a3 μ2) (fun μ5 => bw (p_X5_setOperand r3 (1 : Int32) a5 μ5) (fun μ7 => bd (p_X5_cell r3 (1 : Int32) μ7) (fun r10 μ9 => some ((s_X0_make (3 : Int32) r10), μ9)))))) else some ((0 : Int64), μ)) := Classical.choose_spec p_X10_leave_ex a1 a2 a3 a5 μ
set_option maxHeartbeats 4000000 in
set_option maxRecDepth 100000 in
theorem t_X10_leave (l : Launch) (G : Gt) (ad : Nat → Nat) (a1 : Int32) (a2 : Int32) (a3 : Int64) (a5 : Int64) (μ : Mem) {r : Int64} {μz : Mem} (h : p_X10_leave a1 a2 a3 a5 μ = some (r, μz)) : Mt l yX10_leave cX10_leave 8 (some .long) ({ frames := 1, cells := 0, slots := 0, locals := 28 } : Room) G [.ref (ad 137), .int a1, .int a2, .long a3, .long a5] (wd 0 G ad μ) (eL 0 G ad r μz) := by
  refine Bk.mt (by decide) rfl (Nat.le_of_ble_eq_true rfl) ?_
  intro p e s m below meth c A ls H locs cx hr hlk hA hl hw
  have hx := cx.1
  have hb := cx.2.1
  have hl : lv_has ls 8 [(0, .ref (ad 137)), (1, .int a1), (2, .int a2), (3, .long a3), (5, .long a5)] := hl
  rw [p_X10_leave_eq] at h
  refine lv_aload_n hx hb dX10_leave_0 rfl (lv_at hl 0 rfl) ?_
  refine g_get cx hw inX10 (ci := 9) rfl 6 (by decide) rfl (v := .int (μ.1 137 6)) shx_137 rfl fl_X10_70 dX10_leave_1 ?_
  refine lv_if_eq (tgt := 9) hx hb dX10_leave_4 (by decide) (fun c1 => ?_) (fun c1 => ?_)
  · rw [if_pos c1] at h
    refine lv_aload_n hx hb dX10_leave_9 rfl (lv_at hl 0 rfl) ?_
    refine g_get cx hw inX10 (ci := 9) rfl 4 (by decide) rfl (v := .ref (ad 39)) shx_137 rfl fl_X10_25 dX10_leave_10 ?_
    refine lv_iload_n hx hb dX10_leave_13 rfl (lv_at hl 1 rfl) ?_
    refine lv_iload_n hx hb dX10_leave_14 rfl (lv_at hl 2 rfl) ?_
    refine lv_aload_n hx hb dX10_leave_15 rfl (lv_at hl 0 rfl) ?_
    refine g_get cx hw inX10 (ci := 9) rfl 7 (by decide) rfl (v := .int (μ.1 137 7)) shx_137 rfl fl_X10_92 dX10_leave_16 ?_
    refine lv_aload_n hx hb dX10_leave_19 rfl (lv_at hl 0 rfl) ?_
    refine g_get cx hw inX10 (ci := 9) rfl 8 (by decide) rfl (v := .int (μ.1 137 8)) shx_137 rfl fl_X10_108 dX10_leave_20 ?_
    obtain ⟨r3, μ2, gr3, h⟩ := bd_some h
    refine g_callVI (As := [.int a1, .int a2, .int (μ.1 137 7), .int (μ.1 137 8)]) (rest := []) cx hw hA (t_X5_addInstruction l G ad a1 a2 (μ.1 137 7) (μ.1 137 8) μ gr3) shx_39 rfl ml_X10_223 im_X5_addInstruction se_X5_addInstruction in_X5 co_X5_addInstruction rfl hd_X5_addInstruction rfl ⟨(Nat.le_of_ble_eq_true rfl), (Nat.le_of_ble_eq_true rfl)⟩ hl.1 rfl (Nat.le_of_ble_eq_true rfl) dX10_leave_23 ⟨rfl, rfl⟩ (fun H locs hw => ?_)
    refine lv_istore (lv' := [(7, .int r3), (0, .ref (ad 137)), (1, .int a1), (2, .int a2), (3, .long a3), (5, .long a5)]) hx hb dX10_leave_26 hl (by decide) rfl (fun ls hl => ?_)
    refine lv_iload hx hb dX10_leave_28 (lv_at hl 0 rfl) ?_
    refine lv_iconst (v := (-1)) hx hb dX10_leave_30 (by decide) ?_
    refine lv_icmp_ne (tgt := 42) hx hb dX10_leave_31 (by decide) (fun c4 => ?_) (fun c4 => ?_)
    · rw [if_neg c4] at h
      refine lv_aload_n hx hb dX10_leave_42 rfl (lv_at hl 1 rfl) ?_
      refine g_get cx hw inX10 (ci := 9) rfl 4 (by decide) rfl (v := .ref (ad 39)) shx_137 rfl fl_X10_25 dX10_leave_43 ?_
      refine lv_iload hx hb dX10_leave_46 (lv_at hl 0 rfl) ?_
      refine lv_iconst (v := 0) hx hb dX10_leave_48 (by decide) ?_
      refine lv_lload_n hx hb dX10_leave_49 rfl (lv_at hl 4 rfl) ?_
      obtain ⟨μ5, gμ5, h⟩ := bw_some h
      refine g_callVV (As := [.int r3, .int 0, .long a3]) (rest := []) cx hw hA (t_X5_setOperand l G ad r3 (0 : Int32) a3 μ2 gμ5) shx_39 rfl ml_X10_230 im_X5_setOperand se_X5_setOperand in_X5 co_X5_setOperand rfl hd_X5_setOperand rfl ⟨(Nat.le_of_ble_eq_true rfl), (Nat.le_of_ble_eq_true rfl)⟩ hl.1 rfl (Nat.le_of_ble_eq_true rfl) dX10_leave_50 ⟨rfl, rfl⟩ (fun H locs hw => ?_)
      refine lv_aload_n hx hb dX10_leave_53 rfl (lv_at hl 1 rfl) ?_
      refine g_get cx hw inX10 (ci := 9) rfl 4 (by decide) rfl (v := .ref (ad 39)) shx_137 rfl fl_X10_25 dX10_leave_54 ?_
      refine lv_iload hx hb dX10_leave_57 (lv_at hl 0 rfl) ?_
      refine lv_iconst (v := 1) hx hb dX10_leave_59 (by decide) ?_
      refine lv_lload hx hb dX10_leave_60 (lv_at hl 5 rfl) ?_
      obtain ⟨μ7, gμ7, h⟩ := bw_some h
      refine g_callVV (As := [.int r3, .int 1, .long a5]) (rest := []) cx hw hA (t_X5_setOperand l G ad r3 (1 : Int32) a5 μ5 gμ7) shx_39 rfl ml_X10_230 im_X5_setOperand se_X5_setOperand in_X5 co_X5_setOperand rfl hd_X5_setOperand rfl ⟨(Nat.le_of_ble_eq_true rfl), (Nat.le_of_ble_eq_true rfl)⟩ hl.1 rfl (Nat.le_of_ble_eq_true rfl) dX10_leave_62 ⟨rfl, rfl⟩ (fun H locs hw => ?_)
      refine lv_iconst (v := 3) hx hb dX10_leave_65 (by decide) ?_
      refine lv_aload_n hx hb dX10_leave_66 rfl (lv_at hl 1 rfl) ?_
      refine g_get cx hw inX10 (ci := 9) rfl 4 (by decide) rfl (v := .ref (ad 39)) shx_137 rfl fl_X10_25 dX10_leave_67 ?_
      refine lv_iload hx hb dX10_leave_70 (lv_at hl 0 rfl) ?_
      refine lv_iconst (v := 1) hx hb dX10_leave_72 (by decide) ?_
      obtain ⟨r10, μ9, gr10, h⟩ := bd_some h
      refine g_callVI (As := [.int r3, .int 1]) (rest := [.int 3]) cx hw hA (t_X5_cell l G ad r3 (1 : Int32) μ7 gr10) shx_39 rfl ml_X10_234 im_X5_cell se_X5_cell in_X5 co_X5_cell rfl hd_X5_cell rfl ⟨(Nat.le_of_ble_eq_true rfl), (Nat.le_of_ble_eq_true rfl)⟩ hl.1 rfl (Nat.le_of_ble_eq_true rfl) dX10_leave_73 ⟨rfl, rfl⟩ (fun H locs hw => ?_)
      refine s_callL (As := [.int 3, .int r10]) (rest := []) cx hw hA (t_X0_make l G (3 : Int32) r10) ml_X10_63 st_X0_make in_X0 co_X0_make hd_X0_make rfl ⟨(Nat.le_of_ble_eq_true rfl), (Nat.le_of_ble_eq_true rfl)⟩ hl.1 rfl (Nat.le_of_ble_eq_true rfl) dX10_leave_76 rfl (fun H locs hw => ?_)
      exact g_lret cx hr hlk hw h dX10_leave_79
    · rw [if_pos c4] at h
      refine lv_aload_n hx hb dX10_leave_34 rfl (lv_at hl 1 rfl) ?_
      refine lv_bipush (v := (-2)) hx hb dX10_leave_35 (by decide) ?_
      obtain ⟨μ11, gμ11, h⟩ := bw_some h
      refine g_callVV (As := [.int (-2)]) (rest := []) cx hw hA (t_X10_breakOff l G ad (-2 : Int32) μ2 gμ11) shx_137 rfl ml_X10_227 im_X10_breakOff se_X10_breakOff in_X10 co_X10_breakOff rfl hd_X10_breakOff rfl ⟨(Nat.le_of_ble_eq_true rfl), (Nat.le_of_ble_eq_true rfl)⟩ hl.1 rfl (Nat.le_of_ble_eq_true rfl) dX10_leave_37 ⟨rfl, rfl⟩ (fun H locs hw => ?_)
      refine lv_lconst (v := 0) hx hb dX10_leave_40 (by decide) ?_
      exact g_lret cx hr hlk hw h dX10_leave_41
  · rw [if_neg c1] at h
    refine lv_lconst (v := 0) hx hb dX10_leave_7 (by decide) ?_
    exact g_lret cx hr hlk hw h dX10_leave_8

theorem p_X10_reckon_b49_ex : ∃ f : Int32 → Int64 → Int64 → Mem → Option Mem, ∀ (a1 : Int32) (a2 : Int64) (a4 : Int64) (μ : Mem), f a1 a2 a4 μ = bd (p_X10_leave (0 : Int32) a1 a4 a2 μ) (fun r7 μ6 => bw (p_X8_push r7 μ6) (fun μ8 => some μ8)) := ⟨fun (a1 : Int32) (a2 : Int64) (a4 : Int64) (μ : Mem) => bd (p_X10_leave (0 : Int32) a1 a4 a2 μ) (fun r7 μ6 => bw (p_X8_push r7 μ6) (fun μ8 => some μ8)), fun _ _ _ _ => rfl⟩
noncomputable def p_X10_reckon_b49 : Int32 → Int64 → Int64 → Mem → Option Mem := Classical.choose p_X10_reckon_b49_ex
theorem p_X10_reckon_b49_eq (a1 : Int32) (a2 : Int64) (a4 : Int64) (μ : Mem) : p_X10_reckon_b49 a1 a2 a4 μ = bd (p_X10_leave (0 : Int32) a1 a4 a2 μ) (fun r7 μ6 => bw (p_X8_push r7 μ6) (fun μ8 => some μ8)) := Classical.choose_spec p_X10_reckon_b49_ex a1 a2 a4 μ
set_option maxHeartbeats 4000000 in
set_option maxRecDepth 100000 in
theorem t_X10_reckon_b49 (l : Launch) (G : Gt) (ad : Nat → Nat) (av : List Value) {μz : Mem} (a1 : Int32) (a2 : Int64) (a4 : Int64) (μ : Mem) (h : p_X10_reckon_b49  a1 a2 a4 μ = some μz) : Bk l cX10_reckon 6 RX10 none ({ frames := 5, cells := 0, slots := 0, locals := 135 } : Room) G av (eV 0 G ad μz) (wd 0 G ad μ) 49 [(0, .ref (ad 137)), (1, .int a1), (2, .long a2), (4, .long a4)] [] := by
  intro p e s m below meth c A ls H locs cx hr hlk hA hl hw
  have hx := cx.1
  have hb := cx.2.1
  rw [p_X10_reckon_b49_eq] at h
  refine lv_aload_n hx hb dX10_reckon_49 rfl (lv_at hl 0 rfl) ?_
  refine g_get cx hw inX10 (ci := 9) rfl 3 (by decide) rfl (v := .ref (ad 30)) shx_137 rfl fl_X10_21 dX10_reckon_50 ?_
  refine lv_aload_n hx hb dX10_reckon_53 rfl (lv_at hl 0 rfl) ?_
  refine lv_iconst (v := 0) hx hb dX10_reckon_54 (by decide) ?_
  refine lv_iload_n hx hb dX10_reckon_55 rfl (lv_at hl 1 rfl) ?_
  refine lv_lload hx hb dX10_reckon_56 (lv_at hl 3 rfl) ?_
  refine lv_lload_n hx hb dX10_reckon_58 rfl (lv_at hl 2 rfl) ?_
  obtain ⟨r7, μ6, gr7, h⟩ := bd_some h
  refine g_callVL (As := [.int 0, .int a1, .long a4, .long a2]) (rest := [.ref (ad 30)]) cx hw hA (t_X10_leave l G ad (0 : Int32) a1 a4 a2 μ gr7) shx_137 rfl ml_X10_191 im_X10_leave se_X10_leave in_X10 co_X10_leave rfl hd_X10_leave rfl ⟨(Nat.le_of_ble_eq_true rfl), (Nat.le_of_ble_eq_true rfl)⟩ hl.1 rfl (Nat.le_of_ble_eq_true rfl) dX10_reckon_59 ⟨rfl, rfl⟩ (fun H locs hw => ?_)
  obtain ⟨μ8, gμ8, h⟩ := bw_some h
  refine g_callVV (As := [.long r7]) (rest := []) cx hw hA (t_X8_push l G ad r7 μ6 gμ8) shx_30 rfl ml_X10_155 im_X8_push se_X8_push in_X8 co_X8_push rfl hd_X8_push rfl ⟨(Nat.le_of_ble_eq_true rfl), (Nat.le_of_ble_eq_true rfl)⟩ hl.1 rfl (Nat.le_of_ble_eq_true rfl) dX10_reckon_62 ⟨rfl, rfl⟩ (fun H locs hw => ?_)
  exact g_vret cx hr hlk hw h dX10_reckon_65
theorem p_X10_reckon_ex : ∃ f : Int32 → Mem → Option Mem, ∀ (a1 : Int32) (μ : Mem), f a1 μ = bd (p_X8_popNum μ) (fun r2 μ1 => bd (p_X8_popNum μ1) (fun r4 μ3 => (if (s_X0_isKnown r4) = (0 : Int32) then p_X10_reckon_b49  a1 r2 r4 μ3 else (if (s_X0_isKnown r2) = (0 : Int32) then p_X10_reckon_b49  a1 r2 r4 μ3 else bw (p_X8_push (s_X0_apply a1 r4 r2) μ3) (fun μ11 => some μ11))))) := ⟨fun (a1 : Int32) (μ : Mem) => bd (p_X8_popNum μ) (fun r2 μ1 => bd (p_X8_popNum μ1) (fun r4 μ3 => (if (s_X0_isKnown r4) = (0 : Int32) then p_X10_reckon_b49  a1 r2 r4 μ3 else (if (s_X0_isKnown r2) = (0 : Int32) then p_X10_reckon_b49  a1 r2 r4 μ3 else bw (p_X8_push (s_X0_apply a1 r4 r2) μ3) (fun μ11 => some μ11))))), fun _ _ => rfl⟩
noncomputable def p_X10_reckon : Int32 → Mem → Option Mem := Classical.choose p_X10_reckon_ex
theorem p_X10_reckon_eq (a1 : Int32) (μ : Mem) : p_X10_reckon a1 μ = bd (p_X8_popNum μ) (fun r2 μ1 => bd (p_X8_popNum μ1) (fun r4 μ3 => (if (s_X0_isKnown r4) = (0 : Int32) then p_X10_reckon_b49  a1 r2 r4 μ3 else (if (s_X0_isKnown r2) = (0 : Int32) then p_X10_reckon_b49  a1 r2 r4 μ3 else bw (p_X8_push (s_X0_apply a1 r4 r2) μ3) (fun μ11 => some μ11))))) := Classical.choose_spec p_X10_reckon_ex a1 μ
set_option maxHeartbeats 4000000 in
set_option maxRecDepth 100000 in
theorem t_X10_reckon (l : Launch) (G : Gt) (ad : Nat → Nat) (a1 : Int32) (μ : Mem) {μz : Mem} (h : p_X10_reckon a1 μ = some μz) : Mt l yX10_reckon cX10_reckon 6 none ({ frames := 5, cells := 0, slots := 0, locals := 135 } : Room) G [.ref (ad 137), .int a1] (wd 0 G ad μ) (eV 0 G ad μz) := by
  refine Bk.mt (by decide) rfl (Nat.le_of_ble_eq_true rfl) ?_
  intro p e s m below meth c A ls H locs cx hr hlk hA hl hw
  have hx := cx.1
  have hb := cx.2.1
  have hl : lv_has ls 6 [(0, .ref (ad 137)), (1, .int a1)] := hl
  rw [p_X10_reckon_eq] at h
  refine lv_aload_n hx hb dX10_reckon_0 rfl (lv_at hl 0 rfl) ?_
  refine g_get cx hw inX10 (ci := 9) rfl 3 (by decide) rfl (v := .ref (ad 30)) shx_137 rfl fl_X10_21 dX10_reckon_1 ?_
  obtain ⟨r2, μ1, gr2, h⟩ := bd_some h
  refine g_callVL (As := []) (rest := []) cx hw hA (t_X8_popNum l G ad μ gr2) shx_30 rfl ml_X10_212 im_X8_popNum se_X8_popNum in_X8 co_X8_popNum rfl hd_X8_popNum rfl ⟨(Nat.le_of_ble_eq_true rfl), (Nat.le_of_ble_eq_true rfl)⟩ hl.1 rfl (Nat.le_of_ble_eq_true rfl) dX10_reckon_4 ⟨rfl, rfl⟩ (fun H locs hw => ?_)
  refine lv_lstore_n (lv' := [(2, .long r2), (0, .ref (ad 137)), (1, .int a1)]) hx hb dX10_reckon_7 rfl hl (by decide) rfl (fun ls hl => ?_)
  refine lv_aload_n hx hb dX10_reckon_8 rfl (lv_at hl 1 rfl) ?_
  refine g_get cx hw inX10 (ci := 9) rfl 3 (by decide) rfl (v := .ref (ad 30)) shx_137 rfl fl_X10_21 dX10_reckon_9 ?_
  obtain ⟨r4, μ3, gr4, h⟩ := bd_some h
  refine g_callVL (As := []) (rest := []) cx hw hA (t_X8_popNum l G ad μ1 gr4) shx_30 rfl ml_X10_212 im_X8_popNum se_X8_popNum in_X8 co_X8_popNum rfl hd_X8_popNum rfl ⟨(Nat.le_of_ble_eq_true rfl), (Nat.le_of_ble_eq_true rfl)⟩ hl.1 rfl (Nat.le_of_ble_eq_true rfl) dX10_reckon_12 ⟨rfl, rfl⟩ (fun H locs hw => ?_)
  refine lv_lstore (lv' := [(4, .long r4), (2, .long r2), (0, .ref (ad 137)), (1, .int a1)]) hx hb dX10_reckon_15 hl (by decide) rfl (fun ls hl => ?_)
  refine lv_lload hx hb dX10_reckon_17 (lv_at hl 0 rfl) ?_
  refine s_callI (As := [.long r4]) (rest := []) cx hw hA (t_X0_isKnown l G r4) ml_X10_215 st_X0_isKnown in_X0 co_X0_isKnown hd_X0_isKnown rfl ⟨(Nat.le_of_ble_eq_true rfl), (Nat.le_of_ble_eq_true rfl)⟩ hl.1 rfl (Nat.le_of_ble_eq_true rfl) dX10_reckon_19 rfl (fun H locs hw => ?_)
  refine lv_if_eq (tgt := 49) hx hb dX10_reckon_22 (by decide) (fun c5 => ?_) (fun c5 => ?_)
  · rw [if_pos c5] at h
    exact t_X10_reckon_b49 l G ad _  a1 r2 r4 μ3 h p e s m below meth c A ls H locs cx hr hlk hA (lv_sub hl [2, 3, 1, 0] rfl) hw
  · rw [if_neg c5] at h
    refine lv_lload_n hx hb dX10_reckon_25 rfl (lv_at hl 1 rfl) ?_
    refine s_callI (As := [.long r2]) (rest := []) cx hw hA (t_X0_isKnown l G r2) ml_X10_215 st_X0_isKnown in_X0 co_X0_isKnown hd_X0_isKnown rfl ⟨(Nat.le_of_ble_eq_true rfl), (Nat.le_of_ble_eq_true rfl)⟩ hl.1 rfl (Nat.le_of_ble_eq_true rfl) dX10_reckon_26 rfl (fun H locs hw => ?_)
    refine lv_if_eq (tgt := 49) hx hb dX10_reckon_29 (by decide) (fun c10 => ?_) (fun c10 => ?_)
    · rw [if_pos c10] at h
      exact t_X10_reckon_b49 l G ad _  a1 r2 r4 μ3 h p e s m below meth c A ls H locs cx hr hlk hA (lv_sub hl [2, 3, 1, 0] rfl) hw
    · rw [if_neg c10] at h
      refine lv_aload_n hx hb dX10_reckon_32 rfl (lv_at hl 2 rfl) ?_
      refine g_get cx hw inX10 (ci := 9) rfl 3 (by decide) rfl (v := .ref (ad 30)) shx_137 rfl fl_X10_21 dX10_reckon_33 ?_
      refine lv_iload_n hx hb dX10_reckon_36 rfl (lv_at hl 3 rfl) ?_
      refine lv_lload hx hb dX10_reckon_37 (lv_at hl 0 rfl) ?_
      refine lv_lload_n hx hb dX10_reckon_39 rfl (lv_at hl 1 rfl) ?_
      refine s_callL (As := [.int a1, .long r4, .long r2]) (rest := [.ref (ad 30)]) cx hw hA (t_X0_apply l G a1 r4 r2) ml_X10_247 st_X0_apply in_X0 co_X0_apply hd_X0_apply rfl ⟨(Nat.le_of_ble_eq_true rfl), (Nat.le_of_ble_eq_true rfl)⟩ hl.1 rfl (Nat.le_of_ble_eq_true rfl) dX10_reckon_40 rfl (fun H locs hw => ?_)
      obtain ⟨μ11, gμ11, h⟩ := bw_some h
      refine g_callVV (As := [.long (s_X0_apply a1 r4 r2)]) (rest := []) cx hw hA (t_X8_push l G ad (s_X0_apply a1 r4 r2) μ3 gμ11) shx_30 rfl ml_X10_155 im_X8_push se_X8_push in_X8 co_X8_push rfl hd_X8_push rfl ⟨(Nat.le_of_ble_eq_true rfl), (Nat.le_of_ble_eq_true rfl)⟩ hl.1 rfl (Nat.le_of_ble_eq_true rfl) dX10_reckon_43 ⟨rfl, rfl⟩ (fun H locs hw => ?_)
      refine lv_goto (tgt := 65) hx hb dX10_reckon_46 (by decide) ?_
      exact g_vret cx hr hlk hw h dX10_reckon_65

theorem s_X0_turn_ex : ∃ f : Int32 → Int64 → Int64, ∀ (a0 : Int32) (a1 : Int64), f a0 a1 = (if a0 = (36 : Int32) then (s_X0_make (0 : Int32) (s_X0_cut a1)) else (if a0 = (94 : Int32) then (s_X0_make (1 : Int32) (s_X0_floatBits a1)) else (s_X0_make (0 : Int32) (s_X0_floatBits a1)))) := ⟨fun (a0 : Int32) (a1 : Int64) => (if a0 = (36 : Int32) then (s_X0_make (0 : Int32) (s_X0_cut a1)) else (if a0 = (94 : Int32) then (s_X0_make (1 : Int32) (s_X0_floatBits a1)) else (s_X0_make (0 : Int32) (s_X0_floatBits a1)))), fun _ _ => rfl⟩
noncomputable def s_X0_turn : Int32 → Int64 → Int64 := Classical.choose s_X0_turn_ex
theorem s_X0_turn_eq (a0 : Int32) (a1 : Int64) : s_X0_turn a0 a1 = (if a0 = (36 : Int32) then (s_X0_make (0 : Int32) (s_X0_cut a1)) else (if a0 = (94 : Int32) then (s_X0_make (1 : Int32) (s_X0_floatBits a1)) else (s_X0_make (0 : Int32) (s_X0_floatBits a1)))) := Classical.choose_spec s_X0_turn_ex a0 a1
set_option maxHeartbeats 4000000 in
set_option maxRecDepth 100000 in
theorem t_X0_turn (l : Launch) (G : Gt) (a0 : Int32) (a1 : Int64) : Mt l yX0_turn cX0_turn 3 (some .long) ({ frames := 4, cells := 0, slots := 0, locals := 99 } : Room) G [.int a0, .long a1] [] (sJ G (s_X0_turn a0 a1)) := by
  obtain ⟨r, h⟩ : ∃ r, s_X0_turn a0 a1 = r := ⟨_, rfl⟩
  rw [h]
  refine Bk.mt (by decide) rfl (Nat.le_of_ble_eq_true rfl) ?_
  intro p e s m below meth c A ls H locs cx hr hlk hA hl hw
  have hx := cx.1
  have hb := cx.2.1
  have hl : lv_has ls 3 [(0, .int a0), (1, .long a1)] := hl
  rw [s_X0_turn_eq] at h
  refine lv_iload_n hx hb dX0_turn_0 rfl (lv_at hl 0 rfl) ?_
  refine lv_bipush (v := 36) hx hb dX0_turn_1 (by decide) ?_
  refine lv_icmp_ne (tgt := 15) hx hb dX0_turn_3 (by decide) (fun c1 => ?_) (fun c1 => ?_)
  · rw [if_neg c1] at h
    refine lv_iload_n hx hb dX0_turn_15 rfl (lv_at hl 0 rfl) ?_
    refine lv_bipush (v := 94) hx hb dX0_turn_16 (by decide) ?_
    refine lv_icmp_ne (tgt := 30) hx hb dX0_turn_18 (by decide) (fun c2 => ?_) (fun c2 => ?_)
    · rw [if_neg c2] at h
      refine lv_iconst (v := 0) hx hb dX0_turn_30 (by decide) ?_
      refine lv_lload_n hx hb dX0_turn_31 rfl (lv_at hl 1 rfl) ?_
      refine s_callI (As := [.long a1]) (rest := [.int 0]) cx hw hA (t_X0_floatBits l G a1) ml_X0_33 st_X0_floatBits in_X0 co_X0_floatBits hd_X0_floatBits rfl ⟨(Nat.le_of_ble_eq_true rfl), (Nat.le_of_ble_eq_true rfl)⟩ hl.1 rfl (Nat.le_of_ble_eq_true rfl) dX0_turn_32 rfl (fun H locs hw => ?_)
      refine s_callL (As := [.int 0, .int (s_X0_floatBits a1)]) (rest := []) cx hw hA (t_X0_make l G (0 : Int32) (s_X0_floatBits a1)) ml_X0_19 st_X0_make in_X0 co_X0_make hd_X0_make rfl ⟨(Nat.le_of_ble_eq_true rfl), (Nat.le_of_ble_eq_true rfl)⟩ hl.1 rfl (Nat.le_of_ble_eq_true rfl) dX0_turn_35 rfl (fun H locs hw => ?_)
      exact s_lret cx hr hlk hw h dX0_turn_38
    · rw [if_pos c2] at h
      refine lv_iconst (v := 1) hx hb dX0_turn_21 (by decide) ?_
      refine lv_lload_n hx hb dX0_turn_22 rfl (lv_at hl 1 rfl) ?_
      refine s_callI (As := [.long a1]) (rest := [.int 1]) cx hw hA (t_X0_floatBits l G a1) ml_X0_33 st_X0_floatBits in_X0 co_X0_floatBits hd_X0_floatBits rfl ⟨(Nat.le_of_ble_eq_true rfl), (Nat.le_of_ble_eq_true rfl)⟩ hl.1 rfl (Nat.le_of_ble_eq_true rfl) dX0_turn_23 rfl (fun H locs hw => ?_)
      refine s_callL (As := [.int 1, .int (s_X0_floatBits a1)]) (rest := []) cx hw hA (t_X0_make l G (1 : Int32) (s_X0_floatBits a1)) ml_X0_19 st_X0_make in_X0 co_X0_make hd_X0_make rfl ⟨(Nat.le_of_ble_eq_true rfl), (Nat.le_of_ble_eq_true rfl)⟩ hl.1 rfl (Nat.le_of_ble_eq_true rfl) dX0_turn_26 rfl (fun H locs hw => ?_)
      exact s_lret cx hr hlk hw h dX0_turn_29
  · rw [if_pos c1] at h
    refine lv_iconst (v := 0) hx hb dX0_turn_6 (by decide) ?_
    refine lv_lload_n hx hb dX0_turn_7 rfl (lv_at hl 1 rfl) ?_
    refine s_callI (As := [.long a1]) (rest := [.int 0]) cx hw hA (t_X0_cut l G a1) ml_X0_11 st_X0_cut in_X0 co_X0_cut hd_X0_cut rfl ⟨(Nat.le_of_ble_eq_true rfl), (Nat.le_of_ble_eq_true rfl)⟩ hl.1 rfl (Nat.le_of_ble_eq_true rfl) dX0_turn_8 rfl (fun H locs hw => ?_)
    refine s_callL (As := [.int 0, .int (s_X0_cut a1)]) (rest := []) cx hw hA (t_X0_make l G (0 : Int32) (s_X0_cut a1)) ml_X0_19 st_X0_make in_X0 co_X0_make hd_X0_make rfl ⟨(Nat.le_of_ble_eq_true rfl), (Nat.le_of_ble_eq_true rfl)⟩ hl.1 rfl (Nat.le_of_ble_eq_true rfl) dX0_turn_11 rfl (fun H locs hw => ?_)
    exact s_lret cx hr hlk hw h dX0_turn_14

theorem p_X10_turn_b49_ex : ∃ f : Int64 → Int32 → Mem → Option Mem, ∀ (a2 : Int64) (k0 : Int32) (μ : Mem), f a2 k0 μ = bd (p_X10_leave k0 (0 : Int32) a2 (0 : Int64) μ) (fun r7 μ6 => bw (p_X8_push r7 μ6) (fun μ8 => some μ8)) := ⟨fun (a2 : Int64) (k0 : Int32) (μ : Mem) => bd (p_X10_leave k0 (0 : Int32) a2 (0 : Int64) μ) (fun r7 μ6 => bw (p_X8_push r7 μ6) (fun μ8 => some μ8)), fun _ _ _ => rfl⟩
noncomputable def p_X10_turn_b49 : Int64 → Int32 → Mem → Option Mem := Classical.choose p_X10_turn_b49_ex
theorem p_X10_turn_b49_eq (a2 : Int64) (k0 : Int32) (μ : Mem) : p_X10_turn_b49 a2 k0 μ = bd (p_X10_leave k0 (0 : Int32) a2 (0 : Int64) μ) (fun r7 μ6 => bw (p_X8_push r7 μ6) (fun μ8 => some μ8)) := Classical.choose_spec p_X10_turn_b49_ex a2 k0 μ
set_option maxHeartbeats 4000000 in
set_option maxRecDepth 100000 in
theorem t_X10_turn_b49 (l : Launch) (G : Gt) (ad : Nat → Nat) (av : List Value) {μz : Mem} (a2 : Int64) (k0 : Int32) (μ : Mem) (h : p_X10_turn_b49  a2 k0 μ = some μz) : Bk l cX10_turn 5 RX10 none ({ frames := 5, cells := 0, slots := 0, locals := 121 } : Room) G av (eV 0 G ad μz) (wd 0 G ad μ) 49 [(0, .ref (ad 137)), (2, .long a2)] [.int k0] := by
  intro p e s m below meth c A ls H locs cx hr hlk hA hl hw
  have hx := cx.1
  have hb := cx.2.1
  rw [p_X10_turn_b49_eq] at h
  refine lv_istore (lv' := [(4, .int k0), (0, .ref (ad 137)), (2, .long a2)]) hx hb dX10_turn_49 hl (by decide) rfl (fun ls hl => ?_)
  refine lv_aload_n hx hb dX10_turn_51 rfl (lv_at hl 1 rfl) ?_
  refine g_get cx hw inX10 (ci := 9) rfl 3 (by decide) rfl (v := .ref (ad 30)) shx_137 rfl fl_X10_21 dX10_turn_52 ?_
  refine lv_aload_n hx hb dX10_turn_55 rfl (lv_at hl 1 rfl) ?_
  refine lv_iload hx hb dX10_turn_56 (lv_at hl 0 rfl) ?_
  refine lv_iconst (v := 0) hx hb dX10_turn_58 (by decide) ?_
  refine lv_lload_n hx hb dX10_turn_59 rfl (lv_at hl 2 rfl) ?_
  refine lv_lconst (v := 0) hx hb dX10_turn_60 (by decide) ?_
  obtain ⟨r7, μ6, gr7, h⟩ := bd_some h
  refine g_callVL (As := [.int k0, .int 0, .long a2, .long 0]) (rest := [.ref (ad 30)]) cx hw hA (t_X10_leave l G ad k0 (0 : Int32) a2 (0 : Int64) μ gr7) shx_137 rfl ml_X10_191 im_X10_leave se_X10_leave in_X10 co_X10_leave rfl hd_X10_leave rfl ⟨(Nat.le_of_ble_eq_true rfl), (Nat.le_of_ble_eq_true rfl)⟩ hl.1 rfl (Nat.le_of_ble_eq_true rfl) dX10_turn_61 ⟨rfl, rfl⟩ (fun H locs hw => ?_)
  obtain ⟨μ8, gμ8, h⟩ := bw_some h
  refine g_callVV (As := [.long r7]) (rest := []) cx hw hA (t_X8_push l G ad r7 μ6 gμ8) shx_30 rfl ml_X10_155 im_X8_push se_X8_push in_X8 co_X8_push rfl hd_X8_push rfl ⟨(Nat.le_of_ble_eq_true rfl), (Nat.le_of_ble_eq_true rfl)⟩ hl.1 rfl (Nat.le_of_ble_eq_true rfl) dX10_turn_64 ⟨rfl, rfl⟩ (fun H locs hw => ?_)
  exact g_vret cx hr hlk hw h dX10_turn_67
theorem p_X10_turn_ex : ∃ f : Int32 → Mem → Option Mem, ∀ (a1 : Int32) (μ : Mem), f a1 μ = bd (p_X8_popNum μ) (fun r2 μ1 => (if (s_X0_isKnown r2) = (0 : Int32) then (if a1 = (36 : Int32) then p_X10_turn_b49  r2 (1 : Int32) μ1 else (if a1 = (94 : Int32) then p_X10_turn_b49  r2 (2 : Int32) μ1 else p_X10_turn_b49  r2 (3 : Int32) μ1)) else bw (p_X8_push (s_X0_turn a1 r2) μ1) (fun μ10 => some μ10))) := ⟨fun (a1 : Int32) (μ : Mem) => bd (p_X8_popNum μ) (fun r2 μ1 => (if (s_X0_isKnown r2) = (0 : Int32) then (if a1 = (36 : Int32) then p_X10_turn_b49  r2 (1 : Int32) μ1 else (if a1 = (94 : Int32) then p_X10_turn_b49  r2 (2 : Int32) μ1 else p_X10_turn_b49  r2 (3 : Int32) μ1)) else bw (p_X8_push (s_X0_turn a1 r2) μ1) (fun μ10 => some μ10))), fun _ _ => rfl⟩
noncomputable def p_X10_turn : Int32 → Mem → Option Mem := Classical.choose p_X10_turn_ex
theorem p_X10_turn_eq (a1 : Int32) (μ : Mem) : p_X10_turn a1 μ = bd (p_X8_popNum μ) (fun r2 μ1 => (if (s_X0_isKnown r2) = (0 : Int32) then (if a1 = (36 : Int32) then p_X10_turn_b49  r2 (1 : Int32) μ1 else (if a1 = (94 : Int32) then p_X10_turn_b49  r2 (2 : Int32) μ1 else p_X10_turn_b49  r2 (3 : Int32) μ1)) else bw (p_X8_push (s_X0_turn a1 r2) μ1) (fun μ10 => some μ10))) := Classical.choose_spec p_X10_turn_ex a1 μ
set_option maxHeartbeats 4000000 in
set_option maxRecDepth 100000 in
theorem t_X10_turn (l : Launch) (G : Gt) (ad : Nat → Nat) (a1 : Int32) (μ : Mem) {μz : Mem} (h : p_X10_turn a1 μ = some μz) : Mt l yX10_turn cX10_turn 5 none ({ frames := 5, cells := 0, slots := 0, locals := 121 } : Room) G [.ref (ad 137), .int a1] (wd 0 G ad μ) (eV 0 G ad μz) := by
  refine Bk.mt (by decide) rfl (Nat.le_of_ble_eq_true rfl) ?_
  intro p e s m below meth c A ls H locs cx hr hlk hA hl hw
  have hx := cx.1
  have hb := cx.2.1
  have hl : lv_has ls 5 [(0, .ref (ad 137)), (1, .int a1)] := hl
  rw [p_X10_turn_eq] at h
  refine lv_aload_n hx hb dX10_turn_0 rfl (lv_at hl 0 rfl) ?_
  refine g_get cx hw inX10 (ci := 9) rfl 3 (by decide) rfl (v := .ref (ad 30)) shx_137 rfl fl_X10_21 dX10_turn_1 ?_
  obtain ⟨r2, μ1, gr2, h⟩ := bd_some h
  refine g_callVL (As := []) (rest := []) cx hw hA (t_X8_popNum l G ad μ gr2) shx_30 rfl ml_X10_212 im_X8_popNum se_X8_popNum in_X8 co_X8_popNum rfl hd_X8_popNum rfl ⟨(Nat.le_of_ble_eq_true rfl), (Nat.le_of_ble_eq_true rfl)⟩ hl.1 rfl (Nat.le_of_ble_eq_true rfl) dX10_turn_4 ⟨rfl, rfl⟩ (fun H locs hw => ?_)
  refine lv_lstore_n (lv' := [(2, .long r2), (0, .ref (ad 137)), (1, .int a1)]) hx hb dX10_turn_7 rfl hl (by decide) rfl (fun ls hl => ?_)
  refine lv_lload_n hx hb dX10_turn_8 rfl (lv_at hl 0 rfl) ?_
  refine s_callI (As := [.long r2]) (rest := []) cx hw hA (t_X0_isKnown l G r2) ml_X10_215 st_X0_isKnown in_X0 co_X0_isKnown hd_X0_isKnown rfl ⟨(Nat.le_of_ble_eq_true rfl), (Nat.le_of_ble_eq_true rfl)⟩ hl.1 rfl (Nat.le_of_ble_eq_true rfl) dX10_turn_9 rfl (fun H locs hw => ?_)
  refine lv_if_eq (tgt := 28) hx hb dX10_turn_12 (by decide) (fun c3 => ?_) (fun c3 => ?_)
  · rw [if_pos c3] at h
    refine lv_iload_n hx hb dX10_turn_28 rfl (lv_at hl 2 rfl) ?_
    refine lv_bipush (v := 36) hx hb dX10_turn_29 (by decide) ?_
    refine lv_icmp_ne (tgt := 38) hx hb dX10_turn_31 (by decide) (fun c4 => ?_) (fun c4 => ?_)
    · rw [if_neg c4] at h
      refine lv_iload_n hx hb dX10_turn_38 rfl (lv_at hl 2 rfl) ?_
      refine lv_bipush (v := 94) hx hb dX10_turn_39 (by decide) ?_
      refine lv_icmp_ne (tgt := 48) hx hb dX10_turn_41 (by decide) (fun c5 => ?_) (fun c5 => ?_)
      · rw [if_neg c5] at h
        refine lv_iconst (v := 3) hx hb dX10_turn_48 (by decide) ?_
        exact t_X10_turn_b49 l G ad _  r2 (3 : Int32) μ1 h p e s m below meth c A ls H locs cx hr hlk hA (lv_sub hl [1, 0] rfl) hw
      · rw [if_pos c5] at h
        refine lv_iconst (v := 2) hx hb dX10_turn_44 (by decide) ?_
        refine lv_goto (tgt := 49) hx hb dX10_turn_45 (by decide) ?_
        exact t_X10_turn_b49 l G ad _  r2 (2 : Int32) μ1 h p e s m below meth c A ls H locs cx hr hlk hA (lv_sub hl [1, 0] rfl) hw
    · rw [if_pos c4] at h
      refine lv_iconst (v := 1) hx hb dX10_turn_34 (by decide) ?_
      refine lv_goto (tgt := 49) hx hb dX10_turn_35 (by decide) ?_
      exact t_X10_turn_b49 l G ad _  r2 (1 : Int32) μ1 h p e s m below meth c A ls H locs cx hr hlk hA (lv_sub hl [1, 0] rfl) hw
  · rw [if_neg c3] at h
    refine lv_aload_n hx hb dX10_turn_15 rfl (lv_at hl 1 rfl) ?_
    refine g_get cx hw inX10 (ci := 9) rfl 3 (by decide) rfl (v := .ref (ad 30)) shx_137 rfl fl_X10_21 dX10_turn_16 ?_
    refine lv_iload_n hx hb dX10_turn_19 rfl (lv_at hl 2 rfl) ?_
    refine lv_lload_n hx hb dX10_turn_20 rfl (lv_at hl 0 rfl) ?_
    refine s_callL (As := [.int a1, .long r2]) (rest := [.ref (ad 30)]) cx hw hA (t_X0_turn l G a1 r2) ml_X10_251 st_X0_turn in_X0 co_X0_turn hd_X0_turn rfl ⟨(Nat.le_of_ble_eq_true rfl), (Nat.le_of_ble_eq_true rfl)⟩ hl.1 rfl (Nat.le_of_ble_eq_true rfl) dX10_turn_21 rfl (fun H locs hw => ?_)
    obtain ⟨μ10, gμ10, h⟩ := bw_some h
    refine g_callVV (As := [.long (s_X0_turn a1 r2)]) (rest := []) cx hw hA (t_X8_push l G ad (s_X0_turn a1 r2) μ1 gμ10) shx_30 rfl ml_X10_155 im_X8_push se_X8_push in_X8 co_X8_push rfl hd_X8_push rfl ⟨(Nat.le_of_ble_eq_true rfl), (Nat.le_of_ble_eq_true rfl)⟩ hl.1 rfl (Nat.le_of_ble_eq_true rfl) dX10_turn_24 ⟨rfl, rfl⟩ (fun H locs hw => ?_)
    exact g_vret cx hr hlk hw h dX10_turn_27

theorem p_X8_secondOf_ex : ∃ f : Int64 → Mem → Option (Int64 × Mem), ∀ (a1 : Int64) (μ : Mem), f a1 μ = bd (p_X8_isPair a1 μ) (fun r2 μ1 => (if r2 = (0 : Int32) then some ((0 : Int64), μ1) else gd (inb (s_X0_bits a1) 30200) (some ((μ1.2.1 32 (s_X0_bits a1).toNatClampNeg), μ1)))) := ⟨fun (a1 : Int64) (μ : Mem) => bd (p_X8_isPair a1 μ) (fun r2 μ1 => (if r2 = (0 : Int32) then some ((0 : Int64), μ1) else gd (inb (s_X0_bits a1) 30200) (some ((μ1.2.1 32 (s_X0_bits a1).toNatClampNeg), μ1)))), fun _ _ => rfl⟩
noncomputable def p_X8_secondOf : Int64 → Mem → Option (Int64 × Mem) := Classical.choose p_X8_secondOf_ex
theorem p_X8_secondOf_eq (a1 : Int64) (μ : Mem) : p_X8_secondOf a1 μ = bd (p_X8_isPair a1 μ) (fun r2 μ1 => (if r2 = (0 : Int32) then some ((0 : Int64), μ1) else gd (inb (s_X0_bits a1) 30200) (some ((μ1.2.1 32 (s_X0_bits a1).toNatClampNeg), μ1)))) := Classical.choose_spec p_X8_secondOf_ex a1 μ
set_option maxHeartbeats 4000000 in
set_option maxRecDepth 100000 in
theorem t_X8_secondOf (l : Launch) (G : Gt) (ad : Nat → Nat) (a1 : Int64) (μ : Mem) {r : Int64} {μz : Mem} (h : p_X8_secondOf a1 μ = some (r, μz)) : Mt l yX8_secondOf cX8_secondOf 3 (some .long) ({ frames := 1, cells := 0, slots := 0, locals := 22 } : Room) G [.ref (ad 30), .long a1] (wd 0 G ad μ) (eL 0 G ad r μz) := by
  refine Bk.mt (by decide) rfl (Nat.le_of_ble_eq_true rfl) ?_
  intro p e s m below meth c A ls H locs cx hr hlk hA hl hw
  have hx := cx.1
  have hb := cx.2.1
  have hl : lv_has ls 3 [(0, .ref (ad 30)), (1, .long a1)] := hl
  rw [p_X8_secondOf_eq] at h
  refine lv_aload_n hx hb dX8_secondOf_0 rfl (lv_at hl 0 rfl) ?_
  refine lv_lload_n hx hb dX8_secondOf_1 rfl (lv_at hl 1 rfl) ?_
  obtain ⟨r2, μ1, gr2, h⟩ := bd_some h
  refine g_callVI (As := [.long a1]) (rest := []) cx hw hA (t_X8_isPair l G ad a1 μ gr2) shx_30 rfl ml_X8_88 im_X8_isPair se_X8_isPair in_X8 co_X8_isPair rfl hd_X8_isPair rfl ⟨(Nat.le_of_ble_eq_true rfl), (Nat.le_of_ble_eq_true rfl)⟩ hl.1 rfl (Nat.le_of_ble_eq_true rfl) dX8_secondOf_2 ⟨rfl, rfl⟩ (fun H locs hw => ?_)
  refine lv_if_eq (tgt := 20) hx hb dX8_secondOf_5 (by decide) (fun c3 => ?_) (fun c3 => ?_)
  · rw [if_pos c3] at h
    refine lv_lconst (v := 0) hx hb dX8_secondOf_20 (by decide) ?_
    exact g_lret cx hr hlk hw h dX8_secondOf_21
  · rw [if_neg c3] at h
    refine lv_aload_n hx hb dX8_secondOf_8 rfl (lv_at hl 0 rfl) ?_
    refine g_get cx hw inX8 (ci := 7) rfl 1 (by decide) rfl (v := .ref (ad 32)) shx_30 rfl fl_X8_17 dX8_secondOf_9 ?_
    refine lv_lload_n hx hb dX8_secondOf_12 rfl (lv_at hl 1 rfl) ?_
    refine s_callI (As := [.long a1]) (rest := [.ref (ad 32)]) cx hw hA (t_X0_bits l G a1) ml_X8_92 st_X0_bits in_X0 co_X0_bits hd_X0_bits rfl ⟨(Nat.le_of_ble_eq_true rfl), (Nat.le_of_ble_eq_true rfl)⟩ hl.1 rfl (Nat.le_of_ble_eq_true rfl) dX8_secondOf_13 rfl (fun H locs hw => ?_)
    refine g_lald cx hw shx_32 h dX8_secondOf_16 (fun h => ?_)
    refine lv_goto (tgt := 21) hx hb dX8_secondOf_17 (by decide) ?_
    exact g_lret cx hr hlk hw h dX8_secondOf_21
