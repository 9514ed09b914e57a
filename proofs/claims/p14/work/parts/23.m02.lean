theorem s_X0_pack_b181_ex : ∃ f : Int32 → Int64 → Int32 → Int32, ∀ (a0 : Int32) (a7 : Int64) (k0 : Int32), f a0 a7 k0 = (((a0 <<< ((31 : Int32) &&& 31)) ||| (k0 <<< ((23 : Int32) &&& 31))) ||| ((a7.toInt32) &&& (8388607 : Int32))) := ⟨fun (a0 : Int32) (a7 : Int64) (k0 : Int32) => (((a0 <<< ((31 : Int32) &&& 31)) ||| (k0 <<< ((23 : Int32) &&& 31))) ||| ((a7.toInt32) &&& (8388607 : Int32))), fun _ _ _ => rfl⟩
noncomputable def s_X0_pack_b181 : Int32 → Int64 → Int32 → Int32 := Classical.choose s_X0_pack_b181_ex
theorem s_X0_pack_b181_eq (a0 : Int32) (a7 : Int64) (k0 : Int32) : s_X0_pack_b181 a0 a7 k0 = (((a0 <<< ((31 : Int32) &&& 31)) ||| (k0 <<< ((23 : Int32) &&& 31))) ||| ((a7.toInt32) &&& (8388607 : Int32))) := Classical.choose_spec s_X0_pack_b181_ex a0 a7 k0
set_option maxHeartbeats 4000000 in
set_option maxRecDepth 100000 in
theorem t_X0_pack_b181 (l : Launch) (G : Gt) (av : List Value) {r : Int32} (a0 : Int32) (a7 : Int64) (k0 : Int32) (h : s_X0_pack_b181  a0 a7 k0 = r) : Bk l cX0_pack 13 RX0 (some .int) ({ frames := 2, cells := 0, slots := 0, locals := 43 } : Room) G av (sI G r) [] 181 [(0, .int a0), (7, .long a7)] [.int k0] := by
  intro p e s m below meth c A ls H locs cx hr hlk hA hl hw
  have hx := cx.1
  have hb := cx.2.1
  rw [s_X0_pack_b181_eq] at h
  refine lv_istore (lv' := [(9, .int k0), (0, .int a0), (7, .long a7)]) hx hb dX0_pack_181 hl (by decide) rfl (fun ls hl => ?_)
  refine lv_iload_n hx hb dX0_pack_183 rfl (lv_at hl 1 rfl) ?_
  refine lv_bipush (v := 31) hx hb dX0_pack_184 (by decide) ?_
  refine lv_ishl hx hb dX0_pack_186 ?_
  refine lv_iload hx hb dX0_pack_187 (lv_at hl 0 rfl) ?_
  refine lv_bipush (v := 23) hx hb dX0_pack_189 (by decide) ?_
  refine lv_ishl hx hb dX0_pack_191 ?_
  refine lv_ior hx hb dX0_pack_192 ?_
  refine lv_lload hx hb dX0_pack_193 (lv_at hl 2 rfl) ?_
  refine lv_l2i hx hb dX0_pack_195 rfl ?_
  refine lv_ldc hx hb cx.2.2.2.1 (cx.2.2.2.2.1 _ cs_X0_75) dX0_pack_196 ?_
  refine lv_iand hx hb dX0_pack_198 ?_
  refine lv_ior hx hb dX0_pack_199 ?_
  exact s_iret cx hr hlk hw h dX0_pack_200
theorem s_X0_pack_b142_ex : ∃ f : Int32 → Int32 → Int64 → Int32, ∀ (a0 : Int32) (a5 : Int32) (a7 : Int64), f a0 a5 a7 = (if (a5 + (150 : Int32)) < (255 : Int32) then (if (0 : Int32) ≤ (lg_cmp a7 (8388608 : Int64)) then s_X0_pack_b181  a0 a7 (a5 + (150 : Int32)) else s_X0_pack_b181  a0 a7 (0 : Int32)) else ((a0 <<< ((31 : Int32) &&& 31)) ||| (2139095040 : Int32))) := ⟨fun (a0 : Int32) (a5 : Int32) (a7 : Int64) => (if (a5 + (150 : Int32)) < (255 : Int32) then (if (0 : Int32) ≤ (lg_cmp a7 (8388608 : Int64)) then s_X0_pack_b181  a0 a7 (a5 + (150 : Int32)) else s_X0_pack_b181  a0 a7 (0 : Int32)) else ((a0 <<< ((31 : Int32) &&& 31)) ||| (2139095040 : Int32))), fun _ _ _ => rfl⟩
noncomputable def s_X0_pack_b142 : Int32 → Int32 → Int64 → Int32 := Classical.choose s_X0_pack_b142_ex
theorem s_X0_pack_b142_eq (a0 : Int32) (a5 : Int32) (a7 : Int64) : s_X0_pack_b142 a0 a5 a7 = (if (a5 + (150 : Int32)) < (255 : Int32) then (if (0 : Int32) ≤ (lg_cmp a7 (8388608 : Int64)) then s_X0_pack_b181  a0 a7 (a5 + (150 : Int32)) else s_X0_pack_b181  a0 a7 (0 : Int32)) else ((a0 <<< ((31 : Int32) &&& 31)) ||| (2139095040 : Int32))) := Classical.choose_spec s_X0_pack_b142_ex a0 a5 a7
set_option maxHeartbeats 4000000 in
set_option maxRecDepth 100000 in
theorem t_X0_pack_b142 (l : Launch) (G : Gt) (av : List Value) {r : Int32} (a0 : Int32) (a5 : Int32) (a7 : Int64) (h : s_X0_pack_b142  a0 a5 a7 = r) : Bk l cX0_pack 13 RX0 (some .int) ({ frames := 2, cells := 0, slots := 0, locals := 43 } : Room) G av (sI G r) [] 142 [(0, .int a0), (5, .int a5), (7, .long a7)] [] := by
  intro p e s m below meth c A ls H locs cx hr hlk hA hl hw
  have hx := cx.1
  have hb := cx.2.1
  rw [s_X0_pack_b142_eq] at h
  refine lv_iload hx hb dX0_pack_142 (lv_at hl 1 rfl) ?_
  refine lv_sipush (v := 150) hx hb dX0_pack_144 (by decide) ?_
  refine lv_iadd hx hb dX0_pack_147 ?_
  refine lv_sipush (v := 255) hx hb dX0_pack_148 (by decide) ?_
  refine lv_icmp_lt (tgt := 162) hx hb dX0_pack_151 (by decide) (fun c8 => ?_) (fun c8 => ?_)
  · rw [if_pos c8] at h
    refine lv_lload hx hb dX0_pack_162 (lv_at hl 2 rfl) ?_
    refine lv_ldc2 hx hb cx.2.2.2.1 (cx.2.2.2.2.1 _ cs_X0_89) dX0_pack_164 ?_
    refine W.lcmp hx hb dX0_pack_167 ?_
    refine lv_if_ge (tgt := 175) hx hb dX0_pack_168 (by decide) (fun c9 => ?_) (fun c9 => ?_)
    · rw [if_pos c9] at h
      refine lv_iload hx hb dX0_pack_175 (lv_at hl 1 rfl) ?_
      refine lv_sipush (v := 150) hx hb dX0_pack_177 (by decide) ?_
      refine lv_iadd hx hb dX0_pack_180 ?_
      exact t_X0_pack_b181 l G av  a0 a7 (a5 + (150 : Int32)) h p e s m below meth c A ls H locs cx hr hlk hA (lv_sub hl [0, 2] rfl) hw
    · rw [if_neg c9] at h
      refine lv_iconst (v := 0) hx hb dX0_pack_171 (by decide) ?_
      refine lv_goto (tgt := 181) hx hb dX0_pack_172 (by decide) ?_
      exact t_X0_pack_b181 l G av  a0 a7 (0 : Int32) h p e s m below meth c A ls H locs cx hr hlk hA (lv_sub hl [0, 2] rfl) hw
  · rw [if_neg c8] at h
    refine lv_iload_n hx hb dX0_pack_154 rfl (lv_at hl 0 rfl) ?_
    refine lv_bipush (v := 31) hx hb dX0_pack_155 (by decide) ?_
    refine lv_ishl hx hb dX0_pack_157 ?_
    refine lv_ldc hx hb cx.2.2.2.1 (cx.2.2.2.2.1 _ cs_X0_71) dX0_pack_158 ?_
    refine lv_ior hx hb dX0_pack_160 ?_
    exact s_iret cx hr hlk hw h dX0_pack_161
theorem s_X0_pack_b124_ex : ∃ f : Int32 → Int32 → Int64 → Int32, ∀ (a0 : Int32) (a5 : Int32) (a7 : Int64), f a0 a5 a7 = (if (lg_cmp a7 (16777216 : Int64)) < (0 : Int32) then s_X0_pack_b142  a0 a5 a7 else bv (a7 >>> ((1 : Int32).toInt64 &&& 63)) (fun v10 => bv (a5 + 1) (fun v11 => s_X0_pack_b142  a0 v11 v10))) := ⟨fun (a0 : Int32) (a5 : Int32) (a7 : Int64) => (if (lg_cmp a7 (16777216 : Int64)) < (0 : Int32) then s_X0_pack_b142  a0 a5 a7 else bv (a7 >>> ((1 : Int32).toInt64 &&& 63)) (fun v10 => bv (a5 + 1) (fun v11 => s_X0_pack_b142  a0 v11 v10))), fun _ _ _ => rfl⟩
noncomputable def s_X0_pack_b124 : Int32 → Int32 → Int64 → Int32 := Classical.choose s_X0_pack_b124_ex
theorem s_X0_pack_b124_eq (a0 : Int32) (a5 : Int32) (a7 : Int64) : s_X0_pack_b124 a0 a5 a7 = (if (lg_cmp a7 (16777216 : Int64)) < (0 : Int32) then s_X0_pack_b142  a0 a5 a7 else bv (a7 >>> ((1 : Int32).toInt64 &&& 63)) (fun v10 => bv (a5 + 1) (fun v11 => s_X0_pack_b142  a0 v11 v10))) := Classical.choose_spec s_X0_pack_b124_ex a0 a5 a7
set_option maxHeartbeats 4000000 in
set_option maxRecDepth 100000 in
theorem t_X0_pack_b124 (l : Launch) (G : Gt) (av : List Value) {r : Int32} (a0 : Int32) (a5 : Int32) (a7 : Int64) (h : s_X0_pack_b124  a0 a5 a7 = r) : Bk l cX0_pack 13 RX0 (some .int) ({ frames := 2, cells := 0, slots := 0, locals := 43 } : Room) G av (sI G r) [] 124 [(0, .int a0), (5, .int a5), (7, .long a7)] [] := by
  intro p e s m below meth c A ls H locs cx hr hlk hA hl hw
  have hx := cx.1
  have hb := cx.2.1
  rw [s_X0_pack_b124_eq] at h
  refine lv_lload hx hb dX0_pack_124 (lv_at hl 2 rfl) ?_
  refine lv_ldc2 hx hb cx.2.2.2.1 (cx.2.2.2.2.1 _ cs_X0_87) dX0_pack_126 ?_
  refine W.lcmp hx hb dX0_pack_129 ?_
  refine lv_if_lt (tgt := 142) hx hb dX0_pack_130 (by decide) (fun c7 => ?_) (fun c7 => ?_)
  · rw [if_pos c7] at h
    exact t_X0_pack_b142 l G av  a0 a5 a7 h p e s m below meth c A ls H locs cx hr hlk hA (lv_sub hl [0, 1, 2] rfl) hw
  · rw [if_neg c7] at h
    refine lv_lload hx hb dX0_pack_133 (lv_at hl 2 rfl) ?_
    refine lv_iconst (v := 1) hx hb dX0_pack_135 (by decide) ?_
    refine lv_lshr hx hb dX0_pack_136 rfl ?_
    obtain ⟨v10, ev10, h⟩ := bv_ex h
    refine lv_topl (fun y9 z9 => ?_)
    obtain rfl : v10 = y9 := ev10.trans z9.symm
    refine lv_lstore (lv' := [(7, .long v10), (0, .int a0), (5, .int a5)]) hx hb dX0_pack_137 hl (by decide) rfl (fun ls hl => ?_)
    obtain ⟨v11, ev11, h⟩ := bv_ex h
    refine lv_iinc (v := v11) (lv' := [(5, .int v11), (7, .long v10), (0, .int a0)]) hx hb dX0_pack_139 hl (k := 2) rfl (by rw [ev11]; rfl) (by decide) rfl (fun ls hl => ?_)
    exact t_X0_pack_b142 l G av  a0 v11 v10 h p e s m below meth c A ls H locs cx hr hlk hA (lv_sub hl [2, 0, 1] rfl) hw
theorem s_X0_pack_b121_ex : ∃ f : Int32 → Int32 → Int64 → Int64 → Int32, ∀ (a0 : Int32) (a5 : Int32) (k0 : Int64) (k1 : Int64), f a0 a5 k0 k1 = bv (k1 + k0) (fun v16 => s_X0_pack_b124  a0 a5 v16) := ⟨fun (a0 : Int32) (a5 : Int32) (k0 : Int64) (k1 : Int64) => bv (k1 + k0) (fun v16 => s_X0_pack_b124  a0 a5 v16), fun _ _ _ _ => rfl⟩
noncomputable def s_X0_pack_b121 : Int32 → Int32 → Int64 → Int64 → Int32 := Classical.choose s_X0_pack_b121_ex
theorem s_X0_pack_b121_eq (a0 : Int32) (a5 : Int32) (k0 : Int64) (k1 : Int64) : s_X0_pack_b121 a0 a5 k0 k1 = bv (k1 + k0) (fun v16 => s_X0_pack_b124  a0 a5 v16) := Classical.choose_spec s_X0_pack_b121_ex a0 a5 k0 k1
set_option maxHeartbeats 4000000 in
set_option maxRecDepth 100000 in
theorem t_X0_pack_b121 (l : Launch) (G : Gt) (av : List Value) {r : Int32} (a0 : Int32) (a5 : Int32) (k0 : Int64) (k1 : Int64) (h : s_X0_pack_b121  a0 a5 k0 k1 = r) : Bk l cX0_pack 13 RX0 (some .int) ({ frames := 2, cells := 0, slots := 0, locals := 43 } : Room) G av (sI G r) [] 121 [(0, .int a0), (5, .int a5)] [.long k0, .long k1] := by
  intro p e s m below meth c A ls H locs cx hr hlk hA hl hw
  have hx := cx.1
  have hb := cx.2.1
  rw [s_X0_pack_b121_eq] at h
  refine lv_ladd hx hb dX0_pack_121 ?_
  obtain ⟨v16, ev16, h⟩ := bv_ex h
  refine lv_topl (fun y9 z9 => ?_)
  obtain rfl : v16 = y9 := ev16.trans z9.symm
  refine lv_lstore (lv' := [(7, .long v16), (0, .int a0), (5, .int a5)]) hx hb dX0_pack_122 hl (by decide) rfl (fun ls hl => ?_)
  exact t_X0_pack_b124 l G av  a0 a5 v16 h p e s m below meth c A ls H locs cx hr hlk hA (lv_sub hl [1, 2, 0] rfl) hw
theorem s_X0_pack_b116_ex : ∃ f : Int32 → Int32 → Int64 → Int32, ∀ (a0 : Int32) (a5 : Int32) (k0 : Int64), f a0 a5 k0 = s_X0_pack_b121  a0 a5 (1 : Int64) k0 := ⟨fun (a0 : Int32) (a5 : Int32) (k0 : Int64) => s_X0_pack_b121  a0 a5 (1 : Int64) k0, fun _ _ _ => rfl⟩
noncomputable def s_X0_pack_b116 : Int32 → Int32 → Int64 → Int32 := Classical.choose s_X0_pack_b116_ex
theorem s_X0_pack_b116_eq (a0 : Int32) (a5 : Int32) (k0 : Int64) : s_X0_pack_b116 a0 a5 k0 = s_X0_pack_b121  a0 a5 (1 : Int64) k0 := Classical.choose_spec s_X0_pack_b116_ex a0 a5 k0
set_option maxHeartbeats 4000000 in
set_option maxRecDepth 100000 in
theorem t_X0_pack_b116 (l : Launch) (G : Gt) (av : List Value) {r : Int32} (a0 : Int32) (a5 : Int32) (k0 : Int64) (h : s_X0_pack_b116  a0 a5 k0 = r) : Bk l cX0_pack 13 RX0 (some .int) ({ frames := 2, cells := 0, slots := 0, locals := 43 } : Room) G av (sI G r) [] 116 [(0, .int a0), (5, .int a5)] [.long k0] := by
  intro p e s m below meth c A ls H locs cx hr hlk hA hl hw
  have hx := cx.1
  have hb := cx.2.1
  rw [s_X0_pack_b116_eq] at h
  refine lv_lconst (v := 1) hx hb dX0_pack_116 (by decide) ?_
  refine lv_goto (tgt := 121) hx hb dX0_pack_117 (by decide) ?_
  exact t_X0_pack_b121 l G av  a0 a5 (1 : Int64) k0 h p e s m below meth c A ls H locs cx hr hlk hA (lv_sub hl [0, 1] rfl) hw
theorem s_X0_pack_b120_ex : ∃ f : Int32 → Int32 → Int64 → Int32, ∀ (a0 : Int32) (a5 : Int32) (k0 : Int64), f a0 a5 k0 = s_X0_pack_b121  a0 a5 (0 : Int64) k0 := ⟨fun (a0 : Int32) (a5 : Int32) (k0 : Int64) => s_X0_pack_b121  a0 a5 (0 : Int64) k0, fun _ _ _ => rfl⟩
noncomputable def s_X0_pack_b120 : Int32 → Int32 → Int64 → Int32 := Classical.choose s_X0_pack_b120_ex
theorem s_X0_pack_b120_eq (a0 : Int32) (a5 : Int32) (k0 : Int64) : s_X0_pack_b120 a0 a5 k0 = s_X0_pack_b121  a0 a5 (0 : Int64) k0 := Classical.choose_spec s_X0_pack_b120_ex a0 a5 k0
set_option maxHeartbeats 4000000 in
set_option maxRecDepth 100000 in
theorem t_X0_pack_b120 (l : Launch) (G : Gt) (av : List Value) {r : Int32} (a0 : Int32) (a5 : Int32) (k0 : Int64) (h : s_X0_pack_b120  a0 a5 k0 = r) : Bk l cX0_pack 13 RX0 (some .int) ({ frames := 2, cells := 0, slots := 0, locals := 43 } : Room) G av (sI G r) [] 120 [(0, .int a0), (5, .int a5)] [.long k0] := by
  intro p e s m below meth c A ls H locs cx hr hlk hA hl hw
  have hx := cx.1
  have hb := cx.2.1
  rw [s_X0_pack_b120_eq] at h
  refine lv_lconst (v := 0) hx hb dX0_pack_120 (by decide) ?_
  exact t_X0_pack_b121 l G av  a0 a5 (0 : Int64) k0 h p e s m below meth c A ls H locs cx hr hlk hA (lv_sub hl [0, 1] rfl) hw
theorem s_X0_pack_ex : ∃ f : Int32 → Int64 → Int32 → Int32, ∀ (a0 : Int32) (a1 : Int64) (a3 : Int32), f a0 a1 a3 = (if (lg_cmp a1 (0 : Int64)) = (0 : Int32) then (a0 <<< ((31 : Int32) &&& 31)) else bv ((64 : Int32) - (s_J13_numberOfLeadingZeros_95d88 a1)) (fun v2 => bv (imax ((a3 + v2) - (24 : Int32)) (-149 : Int32)) (fun v3 => bv (v3 - a3) (fun v4 => (if (0 : Int32) < v4 then (if (62 : Int32) < v4 then s_X0_pack_b124  a0 v3 (0 : Int64) else bv (a1 >>> (v4.toInt64 &&& 63)) (fun v12 => bv (a1 - (v12 <<< (v4.toInt64 &&& 63))) (fun v13 => bv ((1 : Int64) <<< ((v4 - (1 : Int32)).toInt64 &&& 63)) (fun v14 => (if (0 : Int32) < (lg_cmp v13 v14) then s_X0_pack_b116  a0 v3 v12 else (if (lg_cmp v13 v14) = (0 : Int32) then (if (lg_cmp (v12 &&& (1 : Int64)) (1 : Int64)) = (0 : Int32) then s_X0_pack_b116  a0 v3 v12 else s_X0_pack_b120  a0 v3 v12) else s_X0_pack_b120  a0 v3 v12)))))) else bv (a1 <<< ((-v4).toInt64 &&& 63)) (fun v19 => s_X0_pack_b124  a0 v3 v19)))))) := ⟨fun (a0 : Int32) (a1 : Int64) (a3 : Int32) => (if (lg_cmp a1 (0 : Int64)) = (0 : Int32) then (a0 <<< ((31 : Int32) &&& 31)) else bv ((64 : Int32) - (s_J13_numberOfLeadingZeros_95d88 a1)) (fun v2 => bv (imax ((a3 + v2) - (24 : Int32)) (-149 : Int32)) (fun v3 => bv (v3 - a3) (fun v4 => (if (0 : Int32) < v4 then (if (62 : Int32) < v4 then s_X0_pack_b124  a0 v3 (0 : Int64) else bv (a1 >>> (v4.toInt64 &&& 63)) (fun v12 => bv (a1 - (v12 <<< (v4.toInt64 &&& 63))) (fun v13 => bv ((1 : Int64) <<< ((v4 - (1 : Int32)).toInt64 &&& 63)) (fun v14 => (if (0 : Int32) < (lg_cmp v13 v14) then s_X0_pack_b116  a0 v3 v12 else (if (lg_cmp v13 v14) = (0 : Int32) then (if (lg_cmp (v12 &&& (1 : Int64)) (1 : Int64)) = (0 : Int32) then s_X0_pack_b116  a0 v3 v12 else s_X0_pack_b120  a0 v3 v12) else s_X0_pack_b120  a0 v3 v12)))))) else bv (a1 <<< ((-v4).toInt64 &&& 63)) (fun v19 => s_X0_pack_b124  a0 v3 v19)))))), fun _ _ _ => rfl⟩
noncomputable def s_X0_pack : Int32 → Int64 → Int32 → Int32 := Classical.choose s_X0_pack_ex
theorem s_X0_pack_eq (a0 : Int32) (a1 : Int64) (a3 : Int32) : s_X0_pack a0 a1 a3 = (if (lg_cmp a1 (0 : Int64)) = (0 : Int32) then (a0 <<< ((31 : Int32) &&& 31)) else bv ((64 : Int32) - (s_J13_numberOfLeadingZeros_95d88 a1)) (fun v2 => bv (imax ((a3 + v2) - (24 : Int32)) (-149 : Int32)) (fun v3 => bv (v3 - a3) (fun v4 => (if (0 : Int32) < v4 then (if (62 : Int32) < v4 then s_X0_pack_b124  a0 v3 (0 : Int64) else bv (a1 >>> (v4.toInt64 &&& 63)) (fun v12 => bv (a1 - (v12 <<< (v4.toInt64 &&& 63))) (fun v13 => bv ((1 : Int64) <<< ((v4 - (1 : Int32)).toInt64 &&& 63)) (fun v14 => (if (0 : Int32) < (lg_cmp v13 v14) then s_X0_pack_b116  a0 v3 v12 else (if (lg_cmp v13 v14) = (0 : Int32) then (if (lg_cmp (v12 &&& (1 : Int64)) (1 : Int64)) = (0 : Int32) then s_X0_pack_b116  a0 v3 v12 else s_X0_pack_b120  a0 v3 v12) else s_X0_pack_b120  a0 v3 v12)))))) else bv (a1 <<< ((-v4).toInt64 &&& 63)) (fun v19 => s_X0_pack_b124  a0 v3 v19)))))) := Classical.choose_spec s_X0_pack_ex a0 a1 a3
set_option maxHeartbeats 4000000 in
set_option maxRecDepth 100000 in
theorem t_X0_pack (l : Launch) (G : Gt) (a0 : Int32) (a1 : Int64) (a3 : Int32) : Mt l yX0_pack cX0_pack 13 (some .int) ({ frames := 2, cells := 0, slots := 0, locals := 43 } : Room) G [.int a0, .long a1, .int a3] [] (sI G (s_X0_pack a0 a1 a3)) := by
  obtain ⟨r, h⟩ : ∃ r, s_X0_pack a0 a1 a3 = r := ⟨_, rfl⟩
  rw [h]
  refine Bk.mt (by decide) rfl (Nat.le_of_ble_eq_true rfl) ?_
  intro p e s m below meth c A ls H locs cx hr hlk hA hl hw
  have hx := cx.1
  have hb := cx.2.1
  have hl : lv_has ls 13 [(0, .int a0), (1, .long a1), (3, .int a3)] := hl
  rw [s_X0_pack_eq] at h
  refine lv_lload_n hx hb dX0_pack_0 rfl (lv_at hl 1 rfl) ?_
  refine lv_lconst (v := 0) hx hb dX0_pack_1 (by decide) ?_
  refine W.lcmp hx hb dX0_pack_2 ?_
  refine lv_if_ne (tgt := 11) hx hb dX0_pack_3 (by decide) (fun c1 => ?_) (fun c1 => ?_)
  · rw [if_neg c1] at h
    refine lv_bipush (v := 64) hx hb dX0_pack_11 (by decide) ?_
    refine lv_lload_n hx hb dX0_pack_13 rfl (lv_at hl 1 rfl) ?_
    refine s_callI (As := [.long a1]) (rest := [.int 64]) cx hw hA (t_J13_numberOfLeadingZeros_95d88 l G a1) ml_X0_77 st_J13_numberOfLeadingZeros_95d88 in_J13 co_J13_numberOfLeadingZeros_95d88 hd_J13_numberOfLeadingZeros_95d88 rfl ⟨(Nat.le_of_ble_eq_true rfl), (Nat.le_of_ble_eq_true rfl)⟩ hl.1 rfl (Nat.le_of_ble_eq_true rfl) dX0_pack_14 rfl (fun H locs hw => ?_)
    refine lv_isub hx hb dX0_pack_17 ?_
    obtain ⟨v2, ev2, h⟩ := bv_ex h
    refine lv_topi (fun y9 z9 => ?_)
    obtain rfl : v2 = y9 := ev2.trans z9.symm
    refine lv_istore (lv' := [(4, .int v2), (0, .int a0), (1, .long a1), (3, .int a3)]) hx hb dX0_pack_18 hl (by decide) rfl (fun ls hl => ?_)
    refine lv_iload_n hx hb dX0_pack_20 rfl (lv_at hl 3 rfl) ?_
    refine lv_iload hx hb dX0_pack_21 (lv_at hl 0 rfl) ?_
    refine lv_iadd hx hb dX0_pack_23 ?_
    refine lv_bipush (v := 24) hx hb dX0_pack_24 (by decide) ?_
    refine lv_isub hx hb dX0_pack_26 ?_
    refine lv_sipush (v := (-149)) hx hb dX0_pack_27 (by decide) ?_
    refine r_mmax (v := (imax ((a3 + v2) - (24 : Int32)) (-149 : Int32))) cx ml_X0_82 hl.1 (Nat.le_of_ble_eq_true rfl) (Nat.le_of_ble_eq_true rfl) (Nat.le_of_ble_eq_true rfl) (Nat.le_of_ble_eq_true rfl) rfl dX0_pack_30 ?_
    obtain ⟨v3, ev3, h⟩ := bv_ex h
    refine lv_topi (fun y9 z9 => ?_)
    obtain rfl : v3 = y9 := ev3.trans z9.symm
    refine lv_istore (lv' := [(5, .int v3), (4, .int v2), (0, .int a0), (1, .long a1), (3, .int a3)]) hx hb dX0_pack_33 hl (by decide) rfl (fun ls hl => ?_)
    refine lv_iload hx hb dX0_pack_35 (lv_at hl 0 rfl) ?_
    refine lv_iload_n hx hb dX0_pack_37 rfl (lv_at hl 4 rfl) ?_
    refine lv_isub hx hb dX0_pack_38 ?_
    obtain ⟨v4, ev4, h⟩ := bv_ex h
    refine lv_topi (fun y9 z9 => ?_)
    obtain rfl : v4 = y9 := ev4.trans z9.symm
    refine lv_istore (lv' := [(6, .int v4), (5, .int v3), (4, .int v2), (0, .int a0), (1, .long a1), (3, .int a3)]) hx hb dX0_pack_39 hl (by decide) rfl (fun ls hl => ?_)
    refine lv_lconst (v := 0) hx hb dX0_pack_41 (by decide) ?_
    refine lv_lstore (lv' := [(7, .long 0), (6, .int v4), (5, .int v3), (4, .int v2), (0, .int a0), (1, .long a1), (3, .int a3)]) hx hb dX0_pack_42 hl (by decide) rfl (fun ls hl => ?_)
    refine lv_iload hx hb dX0_pack_44 (lv_at hl 1 rfl) ?_
    refine lv_if_gt (tgt := 59) hx hb dX0_pack_46 (by decide) (fun c5 => ?_) (fun c5 => ?_)
    · rw [if_pos c5] at h
      refine lv_iload hx hb dX0_pack_59 (lv_at hl 1 rfl) ?_
      refine lv_bipush (v := 62) hx hb dX0_pack_61 (by decide) ?_
      refine lv_icmp_gt (tgt := 124) hx hb dX0_pack_63 (by decide) (fun c6 => ?_) (fun c6 => ?_)
      · rw [if_pos c6] at h
        exact t_X0_pack_b124 l G _  a0 v3 (0 : Int64) h p e s m below meth c A ls H locs cx hr hlk hA (lv_sub hl [4, 2, 0] rfl) hw
      · rw [if_neg c6] at h
        refine lv_lload_n hx hb dX0_pack_66 rfl (lv_at hl 5 rfl) ?_
        refine lv_iload hx hb dX0_pack_67 (lv_at hl 1 rfl) ?_
        refine lv_lshr hx hb dX0_pack_69 rfl ?_
        obtain ⟨v12, ev12, h⟩ := bv_ex h
        refine lv_topl (fun y9 z9 => ?_)
        obtain rfl : v12 = y9 := ev12.trans z9.symm
        refine lv_lstore (lv' := [(7, .long v12), (6, .int v4), (5, .int v3), (4, .int v2), (0, .int a0), (1, .long a1), (3, .int a3)]) hx hb dX0_pack_70 hl (by decide) rfl (fun ls hl => ?_)
        refine lv_lload_n hx hb dX0_pack_72 rfl (lv_at hl 5 rfl) ?_
        refine lv_lload hx hb dX0_pack_73 (lv_at hl 0 rfl) ?_
        refine lv_iload hx hb dX0_pack_75 (lv_at hl 1 rfl) ?_
        refine lv_lshl hx hb dX0_pack_77 rfl ?_
        refine lv_lsub hx hb dX0_pack_78 ?_
        obtain ⟨v13, ev13, h⟩ := bv_ex h
        refine lv_topl (fun y9 z9 => ?_)
        obtain rfl : v13 = y9 := ev13.trans z9.symm
        refine lv_lstore (lv' := [(9, .long v13), (7, .long v12), (6, .int v4), (5, .int v3), (4, .int v2), (0, .int a0), (1, .long a1), (3, .int a3)]) hx hb dX0_pack_79 hl (by decide) rfl (fun ls hl => ?_)
        refine lv_lconst (v := 1) hx hb dX0_pack_81 (by decide) ?_
        refine lv_iload hx hb dX0_pack_82 (lv_at hl 2 rfl) ?_
        refine lv_iconst (v := 1) hx hb dX0_pack_84 (by decide) ?_
        refine lv_isub hx hb dX0_pack_85 ?_
        refine lv_lshl hx hb dX0_pack_86 rfl ?_
        obtain ⟨v14, ev14, h⟩ := bv_ex h
        refine lv_topl (fun y9 z9 => ?_)
        obtain rfl : v14 = y9 := ev14.trans z9.symm
        refine lv_lstore (lv' := [(11, .long v14), (9, .long v13), (7, .long v12), (6, .int v4), (5, .int v3), (4, .int v2), (0, .int a0), (1, .long a1), (3, .int a3)]) hx hb dX0_pack_87 hl (by decide) rfl (fun ls hl => ?_)
        refine lv_lload hx hb dX0_pack_89 (lv_at hl 2 rfl) ?_
        refine lv_lload hx hb dX0_pack_91 (lv_at hl 1 rfl) ?_
        refine lv_lload hx hb dX0_pack_93 (lv_at hl 0 rfl) ?_
        refine W.lcmp hx hb dX0_pack_95 ?_
        refine lv_if_gt (tgt := 116) hx hb dX0_pack_96 (by decide) (fun c15 => ?_) (fun c15 => ?_)
        · rw [if_pos c15] at h
          exact t_X0_pack_b116 l G _  a0 v3 v12 h p e s m below meth c A ls H locs cx hr hlk hA (lv_sub hl [6, 4] rfl) hw
        · rw [if_neg c15] at h
          refine lv_lload hx hb dX0_pack_99 (lv_at hl 1 rfl) ?_
          refine lv_lload hx hb dX0_pack_101 (lv_at hl 0 rfl) ?_
          refine W.lcmp hx hb dX0_pack_103 ?_
          refine lv_if_ne (tgt := 120) hx hb dX0_pack_104 (by decide) (fun c17 => ?_) (fun c17 => ?_)
          · rw [if_neg c17] at h
            exact t_X0_pack_b120 l G _  a0 v3 v12 h p e s m below meth c A ls H locs cx hr hlk hA (lv_sub hl [6, 4] rfl) hw
          · rw [if_pos c17] at h
            refine lv_lload hx hb dX0_pack_107 (lv_at hl 2 rfl) ?_
            refine lv_lconst (v := 1) hx hb dX0_pack_109 (by decide) ?_
            refine lv_land hx hb dX0_pack_110 ?_
            refine lv_lconst (v := 1) hx hb dX0_pack_111 (by decide) ?_
            refine W.lcmp hx hb dX0_pack_112 ?_
            refine lv_if_ne (tgt := 120) hx hb dX0_pack_113 (by decide) (fun c18 => ?_) (fun c18 => ?_)
            · rw [if_neg c18] at h
              exact t_X0_pack_b120 l G _  a0 v3 v12 h p e s m below meth c A ls H locs cx hr hlk hA (lv_sub hl [6, 4] rfl) hw
            · rw [if_pos c18] at h
              exact t_X0_pack_b116 l G _  a0 v3 v12 h p e s m below meth c A ls H locs cx hr hlk hA (lv_sub hl [6, 4] rfl) hw
    · rw [if_neg c5] at h
      refine lv_lload_n hx hb dX0_pack_49 rfl (lv_at hl 5 rfl) ?_
      refine lv_iload hx hb dX0_pack_50 (lv_at hl 1 rfl) ?_
      refine lv_ineg hx hb dX0_pack_52 ?_
      refine lv_lshl hx hb dX0_pack_53 rfl ?_
      obtain ⟨v19, ev19, h⟩ := bv_ex h
      refine lv_topl (fun y9 z9 => ?_)
      obtain rfl : v19 = y9 := ev19.trans z9.symm
      refine lv_lstore (lv' := [(7, .long v19), (6, .int v4), (5, .int v3), (4, .int v2), (0, .int a0), (1, .long a1), (3, .int a3)]) hx hb dX0_pack_54 hl (by decide) rfl (fun ls hl => ?_)
      refine lv_goto (tgt := 124) hx hb dX0_pack_56 (by decide) ?_
      exact t_X0_pack_b124 l G _  a0 v3 v19 h p e s m below meth c A ls H locs cx hr hlk hA (lv_sub hl [4, 2, 0] rfl) hw
  · rw [if_pos c1] at h
    refine lv_iload_n hx hb dX0_pack_6 rfl (lv_at hl 0 rfl) ?_
    refine lv_bipush (v := 31) hx hb dX0_pack_7 (by decide) ?_
    refine lv_ishl hx hb dX0_pack_9 ?_
    exact s_iret cx hr hlk hw h dX0_pack_10

theorem s_X0_floatBits_ex : ∃ f : Int64 → Int32, ∀ (a0 : Int64), f a0 = bv (s_X0_bits a0) (fun v1 => (if (s_X0_kind a0) = (1 : Int32) then (if (s_X0_isNan v1) = (0 : Int32) then v1 else (2143289344 : Int32)) else bv (v1.toInt64) (fun v3 => (if (0 : Int32) ≤ (lg_cmp v3 (0 : Int64)) then (s_X0_pack (0 : Int32) v3 (0 : Int32)) else (s_X0_pack (1 : Int32) (-v3) (0 : Int32)))))) := ⟨fun (a0 : Int64) => bv (s_X0_bits a0) (fun v1 => (if (s_X0_kind a0) = (1 : Int32) then (if (s_X0_isNan v1) = (0 : Int32) then v1 else (2143289344 : Int32)) else bv (v1.toInt64) (fun v3 => (if (0 : Int32) ≤ (lg_cmp v3 (0 : Int64)) then (s_X0_pack (0 : Int32) v3 (0 : Int32)) else (s_X0_pack (1 : Int32) (-v3) (0 : Int32)))))), fun _ => rfl⟩
noncomputable def s_X0_floatBits : Int64 → Int32 := Classical.choose s_X0_floatBits_ex
theorem s_X0_floatBits_eq (a0 : Int64) : s_X0_floatBits a0 = bv (s_X0_bits a0) (fun v1 => (if (s_X0_kind a0) = (1 : Int32) then (if (s_X0_isNan v1) = (0 : Int32) then v1 else (2143289344 : Int32)) else bv (v1.toInt64) (fun v3 => (if (0 : Int32) ≤ (lg_cmp v3 (0 : Int64)) then (s_X0_pack (0 : Int32) v3 (0 : Int32)) else (s_X0_pack (1 : Int32) (-v3) (0 : Int32)))))) := Classical.choose_spec s_X0_floatBits_ex a0
set_option maxHeartbeats 4000000 in
set_option maxRecDepth 100000 in
theorem t_X0_floatBits (l : Launch) (G : Gt) (a0 : Int64) : Mt l yX0_floatBits cX0_floatBits 5 (some .int) ({ frames := 3, cells := 0, slots := 0, locals := 75 } : Room) G [.long a0] [] (sI G (s_X0_floatBits a0)) := by
  obtain ⟨r, h⟩ : ∃ r, s_X0_floatBits a0 = r := ⟨_, rfl⟩
  rw [h]
  refine Bk.mt (by decide) rfl (Nat.le_of_ble_eq_true rfl) ?_
  intro p e s m below meth c A ls H locs cx hr hlk hA hl hw
  have hx := cx.1
  have hb := cx.2.1
  have hl : lv_has ls 5 [(0, .long a0)] := hl
  rw [s_X0_floatBits_eq] at h
  refine lv_lload_n hx hb dX0_floatBits_0 rfl (lv_at hl 0 rfl) ?_
  refine s_callI (As := [.long a0]) (rest := []) cx hw hA (t_X0_bits l G a0) ml_X0_26 st_X0_bits in_X0 co_X0_bits hd_X0_bits rfl ⟨(Nat.le_of_ble_eq_true rfl), (Nat.le_of_ble_eq_true rfl)⟩ hl.1 rfl (Nat.le_of_ble_eq_true rfl) dX0_floatBits_1 rfl (fun H locs hw => ?_)
  obtain ⟨v1, ev1, h⟩ := bv_ex h
  refine lv_topi (fun y9 z9 => ?_)
  obtain rfl : v1 = y9 := ev1.trans z9.symm
  refine lv_istore_n (lv' := [(2, .int v1), (0, .long a0)]) hx hb dX0_floatBits_4 rfl hl (by decide) rfl (fun ls hl => ?_)
  refine lv_lload_n hx hb dX0_floatBits_5 rfl (lv_at hl 1 rfl) ?_
  refine s_callI (As := [.long a0]) (rest := []) cx hw hA (t_X0_kind l G a0) ml_X0_23 st_X0_kind in_X0 co_X0_kind hd_X0_kind rfl ⟨(Nat.le_of_ble_eq_true rfl), (Nat.le_of_ble_eq_true rfl)⟩ hl.1 rfl (Nat.le_of_ble_eq_true rfl) dX0_floatBits_6 rfl (fun H locs hw => ?_)
  refine lv_iconst (v := 1) hx hb dX0_floatBits_9 (by decide) ?_
  refine lv_icmp_ne (tgt := 27) hx hb dX0_floatBits_10 (by decide) (fun c2 => ?_) (fun c2 => ?_)
  · rw [if_neg c2] at h
    refine lv_iload_n hx hb dX0_floatBits_27 rfl (lv_at hl 0 rfl) ?_
    refine lv_i2l hx hb dX0_floatBits_28 rfl ?_
    obtain ⟨v3, ev3, h⟩ := bv_ex h
    refine lv_topl (fun y9 z9 => ?_)
    obtain rfl : v3 = y9 := ev3.trans z9.symm
    refine lv_lstore_n (lv' := [(3, .long v3), (2, .int v1), (0, .long a0)]) hx hb dX0_floatBits_29 rfl hl (by decide) rfl (fun ls hl => ?_)
    refine lv_lload_n hx hb dX0_floatBits_30 rfl (lv_at hl 0 rfl) ?_
    refine lv_lconst (v := 0) hx hb dX0_floatBits_31 (by decide) ?_
    refine W.lcmp hx hb dX0_floatBits_32 ?_
    refine lv_if_ge (tgt := 46) hx hb dX0_floatBits_33 (by decide) (fun c4 => ?_) (fun c4 => ?_)
    · rw [if_pos c4] at h
      refine lv_iconst (v := 0) hx hb dX0_floatBits_46 (by decide) ?_
      refine lv_lload_n hx hb dX0_floatBits_47 rfl (lv_at hl 0 rfl) ?_
      refine lv_iconst (v := 0) hx hb dX0_floatBits_48 (by decide) ?_
      refine s_callI (As := [.int 0, .long v3, .int 0]) (rest := []) cx hw hA (t_X0_pack l G (0 : Int32) v3 (0 : Int32)) ml_X0_59 st_X0_pack in_X0 co_X0_pack hd_X0_pack rfl ⟨(Nat.le_of_ble_eq_true rfl), (Nat.le_of_ble_eq_true rfl)⟩ hl.1 rfl (Nat.le_of_ble_eq_true rfl) dX0_floatBits_49 rfl (fun H locs hw => ?_)
      exact s_iret cx hr hlk hw h dX0_floatBits_52
    · rw [if_neg c4] at h
      refine lv_iconst (v := 1) hx hb dX0_floatBits_36 (by decide) ?_
      refine lv_lload_n hx hb dX0_floatBits_37 rfl (lv_at hl 0 rfl) ?_
      refine lv_lneg hx hb dX0_floatBits_38 ?_
      refine lv_iconst (v := 0) hx hb dX0_floatBits_39 (by decide) ?_
      refine s_callI (As := [.int 1, .long (-v3), .int 0]) (rest := []) cx hw hA (t_X0_pack l G (1 : Int32) (-v3) (0 : Int32)) ml_X0_59 st_X0_pack in_X0 co_X0_pack hd_X0_pack rfl ⟨(Nat.le_of_ble_eq_true rfl), (Nat.le_of_ble_eq_true rfl)⟩ hl.1 rfl (Nat.le_of_ble_eq_true rfl) dX0_floatBits_40 rfl (fun H locs hw => ?_)
      refine lv_goto (tgt := 52) hx hb dX0_floatBits_43 (by decide) ?_
      exact s_iret cx hr hlk hw h dX0_floatBits_52
  · rw [if_pos c2] at h
    refine lv_iload_n hx hb dX0_floatBits_13 rfl (lv_at hl 0 rfl) ?_
    refine s_callI (As := [.int v1]) (rest := []) cx hw hA (t_X0_isNan l G v1) ml_X0_36 st_X0_isNan in_X0 co_X0_isNan hd_X0_isNan rfl ⟨(Nat.le_of_ble_eq_true rfl), (Nat.le_of_ble_eq_true rfl)⟩ hl.1 rfl (Nat.le_of_ble_eq_true rfl) dX0_floatBits_14 rfl (fun H locs hw => ?_)
    refine lv_if_eq (tgt := 25) hx hb dX0_floatBits_17 (by decide) (fun c5 => ?_) (fun c5 => ?_)
    · rw [if_pos c5] at h
      refine lv_iload_n hx hb dX0_floatBits_25 rfl (lv_at hl 0 rfl) ?_
      exact s_iret cx hr hlk hw h dX0_floatBits_26
    · rw [if_neg c5] at h
      refine lv_ldc hx hb cx.2.2.2.1 (cx.2.2.2.2.1 _ cs_X0_47) dX0_floatBits_20 ?_
      refine lv_goto (tgt := 26) hx hb dX0_floatBits_22 (by decide) ?_
      exact s_iret cx hr hlk hw h dX0_floatBits_26

theorem s_X0_wholeOf_ex : ∃ f : Int32 → Int64, ∀ (a0 : Int32), f a0 = bv (a0 &&& (8388607 : Int32)) (fun v1 => (if (a0 &&& (2139095040 : Int32)) = (0 : Int32) then (v1.toInt64) else ((v1 ||| (8388608 : Int32)).toInt64))) := ⟨fun (a0 : Int32) => bv (a0 &&& (8388607 : Int32)) (fun v1 => (if (a0 &&& (2139095040 : Int32)) = (0 : Int32) then (v1.toInt64) else ((v1 ||| (8388608 : Int32)).toInt64))), fun _ => rfl⟩
noncomputable def s_X0_wholeOf : Int32 → Int64 := Classical.choose s_X0_wholeOf_ex
theorem s_X0_wholeOf_eq (a0 : Int32) : s_X0_wholeOf a0 = bv (a0 &&& (8388607 : Int32)) (fun v1 => (if (a0 &&& (2139095040 : Int32)) = (0 : Int32) then (v1.toInt64) else ((v1 ||| (8388608 : Int32)).toInt64))) := Classical.choose_spec s_X0_wholeOf_ex a0
set_option maxHeartbeats 4000000 in
set_option maxRecDepth 100000 in
theorem t_X0_wholeOf (l : Launch) (G : Gt) (a0 : Int32) : Mt l yX0_wholeOf cX0_wholeOf 2 (some .long) ({ frames := 0, cells := 0, slots := 0, locals := 0 } : Room) G [.int a0] [] (sJ G (s_X0_wholeOf a0)) := by
  obtain ⟨r, h⟩ : ∃ r, s_X0_wholeOf a0 = r := ⟨_, rfl⟩
  rw [h]
  refine Bk.mt (by decide) rfl (Nat.le_of_ble_eq_true rfl) ?_
  intro p e s m below meth c A ls H locs cx hr hlk hA hl hw
  have hx := cx.1
  have hb := cx.2.1
  have hl : lv_has ls 2 [(0, .int a0)] := hl
  rw [s_X0_wholeOf_eq] at h
  refine lv_iload_n hx hb dX0_wholeOf_0 rfl (lv_at hl 0 rfl) ?_
  refine lv_ldc hx hb cx.2.2.2.1 (cx.2.2.2.2.1 _ cs_X0_75) dX0_wholeOf_1 ?_
  refine lv_iand hx hb dX0_wholeOf_3 ?_
  obtain ⟨v1, ev1, h⟩ := bv_ex h
  refine lv_topi (fun y9 z9 => ?_)
  obtain rfl : v1 = y9 := ev1.trans z9.symm
  refine lv_istore_n (lv' := [(1, .int v1), (0, .int a0)]) hx hb dX0_wholeOf_4 rfl hl (by decide) rfl (fun ls hl => ?_)
  refine lv_iload_n hx hb dX0_wholeOf_5 rfl (lv_at hl 1 rfl) ?_
  refine lv_ldc hx hb cx.2.2.2.1 (cx.2.2.2.2.1 _ cs_X0_71) dX0_wholeOf_6 ?_
  refine lv_iand hx hb dX0_wholeOf_8 ?_
  refine lv_if_ne (tgt := 17) hx hb dX0_wholeOf_9 (by decide) (fun c2 => ?_) (fun c2 => ?_)
  · rw [if_neg c2] at h
    refine lv_iload_n hx hb dX0_wholeOf_17 rfl (lv_at hl 0 rfl) ?_
    refine lv_ldc hx hb cx.2.2.2.1 (cx.2.2.2.2.1 _ cs_X0_76) dX0_wholeOf_18 ?_
    refine lv_ior hx hb dX0_wholeOf_20 ?_
    refine lv_i2l hx hb dX0_wholeOf_21 rfl ?_
    exact s_lret cx hr hlk hw h dX0_wholeOf_22
  · rw [if_pos c2] at h
    refine lv_iload_n hx hb dX0_wholeOf_12 rfl (lv_at hl 0 rfl) ?_
    refine lv_i2l hx hb dX0_wholeOf_13 rfl ?_
    refine lv_goto (tgt := 22) hx hb dX0_wholeOf_14 (by decide) ?_
    exact s_lret cx hr hlk hw h dX0_wholeOf_22

theorem s_X0_lastBitOf_ex : ∃ f : Int32 → Int32, ∀ (a0 : Int32), f a0 = bv (((a0 &&& (2139095040 : Int32)).toUInt32 >>> ((23 : Int32).toUInt32 &&& Int32.toUInt32 31)).toInt32) (fun v1 => (if v1 = (0 : Int32) then (-149 : Int32) else (v1 - (150 : Int32)))) := ⟨fun (a0 : Int32) => bv (((a0 &&& (2139095040 : Int32)).toUInt32 >>> ((23 : Int32).toUInt32 &&& Int32.toUInt32 31)).toInt32) (fun v1 => (if v1 = (0 : Int32) then (-149 : Int32) else (v1 - (150 : Int32)))), fun _ => rfl⟩
noncomputable def s_X0_lastBitOf : Int32 → Int32 := Classical.choose s_X0_lastBitOf_ex
theorem s_X0_lastBitOf_eq (a0 : Int32) : s_X0_lastBitOf a0 = bv (((a0 &&& (2139095040 : Int32)).toUInt32 >>> ((23 : Int32).toUInt32 &&& Int32.toUInt32 31)).toInt32) (fun v1 => (if v1 = (0 : Int32) then (-149 : Int32) else (v1 - (150 : Int32)))) := Classical.choose_spec s_X0_lastBitOf_ex a0
set_option maxHeartbeats 4000000 in
set_option maxRecDepth 100000 in
theorem t_X0_lastBitOf (l : Launch) (G : Gt) (a0 : Int32) : Mt l yX0_lastBitOf cX0_lastBitOf 2 (some .int) ({ frames := 0, cells := 0, slots := 0, locals := 0 } : Room) G [.int a0] [] (sI G (s_X0_lastBitOf a0)) := by
  obtain ⟨r, h⟩ : ∃ r, s_X0_lastBitOf a0 = r := ⟨_, rfl⟩
  rw [h]
  refine Bk.mt (by decide) rfl (Nat.le_of_ble_eq_true rfl) ?_
  intro p e s m below meth c A ls H locs cx hr hlk hA hl hw
  have hx := cx.1
  have hb := cx.2.1
  have hl : lv_has ls 2 [(0, .int a0)] := hl
  rw [s_X0_lastBitOf_eq] at h
  refine lv_iload_n hx hb dX0_lastBitOf_0 rfl (lv_at hl 0 rfl) ?_
  refine lv_ldc hx hb cx.2.2.2.1 (cx.2.2.2.2.1 _ cs_X0_71) dX0_lastBitOf_1 ?_
  refine lv_iand hx hb dX0_lastBitOf_3 ?_
  refine lv_bipush (v := 23) hx hb dX0_lastBitOf_4 (by decide) ?_
  refine lv_iushr hx hb dX0_lastBitOf_6 rfl ?_
  obtain ⟨v1, ev1, h⟩ := bv_ex h
  refine lv_topi (fun y9 z9 => ?_)
  obtain rfl : v1 = y9 := ev1.trans z9.symm
  refine lv_istore_n (lv' := [(1, .int v1), (0, .int a0)]) hx hb dX0_lastBitOf_7 rfl hl (by decide) rfl (fun ls hl => ?_)
  refine lv_iload_n hx hb dX0_lastBitOf_8 rfl (lv_at hl 0 rfl) ?_
  refine lv_if_ne (tgt := 16) hx hb dX0_lastBitOf_9 (by decide) (fun c2 => ?_) (fun c2 => ?_)
  · rw [if_neg c2] at h
    refine lv_iload_n hx hb dX0_lastBitOf_16 rfl (lv_at hl 0 rfl) ?_
    refine lv_sipush (v := 150) hx hb dX0_lastBitOf_17 (by decide) ?_
    refine lv_isub hx hb dX0_lastBitOf_20 ?_
    exact s_iret cx hr hlk hw h dX0_lastBitOf_21
  · rw [if_pos c2] at h
    refine lv_iconst (v := 1) hx hb dX0_lastBitOf_12 (by decide) ?_
    refine lv_goto (tgt := 17) hx hb dX0_lastBitOf_13 (by decide) ?_
    refine lv_sipush (v := 150) hx hb dX0_lastBitOf_17 (by decide) ?_
    refine lv_isub hx hb dX0_lastBitOf_20 ?_
    refine r_topi (v := (-149)) (by decide +kernel) ?_
    exact s_iret cx hr hlk hw h dX0_lastBitOf_21

theorem s_X0_divide_b159_ex : ∃ f : Int32 → Int32 → Int32 → Int32 → Int64 → Int64 → Int32, ∀ (a0 : Int32) (a1 : Int32) (a2 : Int32) (a9 : Int32) (a10 : Int64) (k0 : Int64), f a0 a1 a2 a9 a10 k0 = (s_X0_pack a2 (a10 ||| k0) (((s_X0_lastBitOf a0) - (s_X0_lastBitOf a1)) - a9)) := ⟨fun (a0 : Int32) (a1 : Int32) (a2 : Int32) (a9 : Int32) (a10 : Int64) (k0 : Int64) => (s_X0_pack a2 (a10 ||| k0) (((s_X0_lastBitOf a0) - (s_X0_lastBitOf a1)) - a9)), fun _ _ _ _ _ _ => rfl⟩
noncomputable def s_X0_divide_b159 : Int32 → Int32 → Int32 → Int32 → Int64 → Int64 → Int32 := Classical.choose s_X0_divide_b159_ex
theorem s_X0_divide_b159_eq (a0 : Int32) (a1 : Int32) (a2 : Int32) (a9 : Int32) (a10 : Int64) (k0 : Int64) : s_X0_divide_b159 a0 a1 a2 a9 a10 k0 = (s_X0_pack a2 (a10 ||| k0) (((s_X0_lastBitOf a0) - (s_X0_lastBitOf a1)) - a9)) := Classical.choose_spec s_X0_divide_b159_ex a0 a1 a2 a9 a10 k0
set_option maxHeartbeats 4000000 in
set_option maxRecDepth 100000 in
theorem t_X0_divide_b159 (l : Launch) (G : Gt) (av : List Value) {r : Int32} (a0 : Int32) (a1 : Int32) (a2 : Int32) (a9 : Int32) (a10 : Int64) (k0 : Int64) (h : s_X0_divide_b159  a0 a1 a2 a9 a10 k0 = r) : Bk l cX0_divide 14 RX0 (some .int) ({ frames := 3, cells := 0, slots := 0, locals := 75 } : Room) G av (sI G r) [] 159 [(0, .int a0), (1, .int a1), (2, .int a2), (9, .int a9), (10, .long a10)] [.long k0] := by
  intro p e s m below meth c A ls H locs cx hr hlk hA hl hw
  have hx := cx.1
  have hb := cx.2.1
  rw [s_X0_divide_b159_eq] at h
  refine lv_lstore (lv' := [(12, .long k0), (0, .int a0), (1, .int a1), (2, .int a2), (9, .int a9), (10, .long a10)]) hx hb dX0_divide_159 hl (by decide) rfl (fun ls hl => ?_)
  refine lv_iload_n hx hb dX0_divide_161 rfl (lv_at hl 3 rfl) ?_
  refine lv_lload hx hb dX0_divide_162 (lv_at hl 5 rfl) ?_
  refine lv_lload hx hb dX0_divide_164 (lv_at hl 0 rfl) ?_
  refine lv_lor hx hb dX0_divide_166 ?_
  refine lv_iload_n hx hb dX0_divide_167 rfl (lv_at hl 1 rfl) ?_
  refine s_callI (As := [.int a0]) (rest := [.long (a10 ||| k0), .int a2]) cx hw hA (t_X0_lastBitOf l G a0) ml_X0_63 st_X0_lastBitOf in_X0 co_X0_lastBitOf hd_X0_lastBitOf rfl ⟨(Nat.le_of_ble_eq_true rfl), (Nat.le_of_ble_eq_true rfl)⟩ hl.1 rfl (Nat.le_of_ble_eq_true rfl) dX0_divide_168 rfl (fun H locs hw => ?_)
  refine lv_iload_n hx hb dX0_divide_171 rfl (lv_at hl 2 rfl) ?_
  refine s_callI (As := [.int a1]) (rest := [.int (s_X0_lastBitOf a0), .long (a10 ||| k0), .int a2]) cx hw hA (t_X0_lastBitOf l G a1) ml_X0_63 st_X0_lastBitOf in_X0 co_X0_lastBitOf hd_X0_lastBitOf rfl ⟨(Nat.le_of_ble_eq_true rfl), (Nat.le_of_ble_eq_true rfl)⟩ hl.1 rfl (Nat.le_of_ble_eq_true rfl) dX0_divide_172 rfl (fun H locs hw => ?_)
  refine lv_isub hx hb dX0_divide_175 ?_
  refine lv_iload hx hb dX0_divide_176 (lv_at hl 4 rfl) ?_
  refine lv_isub hx hb dX0_divide_178 ?_
  refine s_callI (As := [.int a2, .long (a10 ||| k0), .int (((s_X0_lastBitOf a0) - (s_X0_lastBitOf a1)) - a9)]) (rest := []) cx hw hA (t_X0_pack l G a2 (a10 ||| k0) (((s_X0_lastBitOf a0) - (s_X0_lastBitOf a1)) - a9)) ml_X0_59 st_X0_pack in_X0 co_X0_pack hd_X0_pack rfl ⟨(Nat.le_of_ble_eq_true rfl), (Nat.le_of_ble_eq_true rfl)⟩ hl.1 rfl (Nat.le_of_ble_eq_true rfl) dX0_divide_179 rfl (fun H locs hw => ?_)
  exact s_iret cx hr hlk hw h dX0_divide_182
theorem s_X0_divide_b36_ex : ∃ f : Int32 → Int32 → Int32 → Int32 → Int32 → Int32, ∀ (a0 : Int32) (a1 : Int32) (a2 : Int32) (a3 : Int32) (k0 : Int32), f a0 a1 a2 a3 k0 = bv (s_X0_wholeOf a0) (fun v4 => bv (s_X0_wholeOf a1) (fun v5 => (if a3 = (0 : Int32) then (if k0 = (0 : Int32) then (if (lg_cmp v5 (0 : Int64)) = (0 : Int32) then (if (lg_cmp v4 (0 : Int64)) = (0 : Int32) then (2143289344 : Int32) else ((a2 <<< ((31 : Int32) &&& 31)) ||| (2139095040 : Int32))) else (if (lg_cmp v4 (0 : Int64)) = (0 : Int32) then (a2 <<< ((31 : Int32) &&& 31)) else bv ((s_J13_numberOfLeadingZeros_95d88 v4) - (3 : Int32)) (fun v10 => bv (v4 <<< (v10.toInt64 &&& 63)) (fun v11 => bv (v11 / v5) (fun v12 => (if (lg_cmp (v11 - v11 / v5 * v5) (0 : Int64)) = (0 : Int32) then s_X0_divide_b159  a0 a1 a2 v10 v12 (0 : Int64) else s_X0_divide_b159  a0 a1 a2 v10 v12 (1 : Int64))))))) else (a2 <<< ((31 : Int32) &&& 31))) else (if k0 = (0 : Int32) then ((a2 <<< ((31 : Int32) &&& 31)) ||| (2139095040 : Int32)) else (2143289344 : Int32))))) := ⟨fun (a0 : Int32) (a1 : Int32) (a2 : Int32) (a3 : Int32) (k0 : Int32) => bv (s_X0_wholeOf a0) (fun v4 => bv (s_X0_wholeOf a1) (fun v5 => (if a3 = (0 : Int32) then (if k0 = (0 : Int32) then (if (lg_cmp v5 (0 : Int64)) = (0 : Int32) then (if (lg_cmp v4 (0 : Int64)) = (0 : Int32) then (2143289344 : Int32) else ((a2 <<< ((31 : Int32) &&& 31)) ||| (2139095040 : Int32))) else (if (lg_cmp v4 (0 : Int64)) = (0 : Int32) then (a2 <<< ((31 : Int32) &&& 31)) else bv ((s_J13_numberOfLeadingZeros_95d88 v4) - (3 : Int32)) (fun v10 => bv (v4 <<< (v10.toInt64 &&& 63)) (fun v11 => bv (v11 / v5) (fun v12 => (if (lg_cmp (v11 - v11 / v5 * v5) (0 : Int64)) = (0 : Int32) then s_X0_divide_b159  a0 a1 a2 v10 v12 (0 : Int64) else s_X0_divide_b159  a0 a1 a2 v10 v12 (1 : Int64))))))) else (a2 <<< ((31 : Int32) &&& 31))) else (if k0 = (0 : Int32) then ((a2 <<< ((31 : Int32) &&& 31)) ||| (2139095040 : Int32)) else (2143289344 : Int32))))), fun _ _ _ _ _ => rfl⟩
noncomputable def s_X0_divide_b36 : Int32 → Int32 → Int32 → Int32 → Int32 → Int32 := Classical.choose s_X0_divide_b36_ex
theorem s_X0_divide_b36_eq (a0 : Int32) (a1 : Int32) (a2 : Int32) (a3 : Int32) (k0 : Int32) : s_X0_divide_b36 a0 a1 a2 a3 k0 = bv (s_X0_wholeOf a0) (fun v4 => bv (s_X0_wholeOf a1) (fun v5 => (if a3 = (0 : Int32) then (if k0 = (0 : Int32) then (if (lg_cmp v5 (0 : Int64)) = (0 : Int32) then (if (lg_cmp v4 (0 : Int64)) = (0 : Int32) then (2143289344 : Int32) else ((a2 <<< ((31 : Int32) &&& 31)) ||| (2139095040 : Int32))) else (if (lg_cmp v4 (0 : Int64)) = (0 : Int32) then (a2 <<< ((31 : Int32) &&& 31)) else bv ((s_J13_numberOfLeadingZeros_95d88 v4) - (3 : Int32)) (fun v10 => bv (v4 <<< (v10.toInt64 &&& 63)) (fun v11 => bv (v11 / v5) (fun v12 => (if (lg_cmp (v11 - v11 / v5 * v5) (0 : Int64)) = (0 : Int32) then s_X0_divide_b159  a0 a1 a2 v10 v12 (0 : Int64) else s_X0_divide_b159  a0 a1 a2 v10 v12 (1 : Int64))))))) else (a2 <<< ((31 : Int32) &&& 31))) else (if k0 = (0 : Int32) then ((a2 <<< ((31 : Int32) &&& 31)) ||| (2139095040 : Int32)) else (2143289344 : Int32))))) := Classical.choose_spec s_X0_divide_b36_ex a0 a1 a2 a3 k0
set_option maxHeartbeats 4000000 in
set_option maxRecDepth 100000 in
theorem t_X0_divide_b36 (l : Launch) (G : Gt) (av : List Value) {r : Int32} (a0 : Int32) (a1 : Int32) (a2 : Int32) (a3 : Int32) (k0 : Int32) (h : s_X0_divide_b36  a0 a1 a2 a3 k0 = r) : Bk l cX0_divide 14 RX0 (some .int) ({ frames := 3, cells := 0, slots := 0, locals := 75 } : Room) G av (sI G r) [] 36 [(0, .int a0), (1, .int a1), (2, .int a2), (3, .int a3)] [.int k0] := by
  intro p e s m below meth c A ls H locs cx hr hlk hA hl hw
  have hx := cx.1
  have hb := cx.2.1
  rw [s_X0_divide_b36_eq] at h
  refine lv_istore (lv' := [(4, .int k0), (0, .int a0), (1, .int a1), (2, .int a2), (3, .int a3)]) hx hb dX0_divide_36 hl (by decide) rfl (fun ls hl => ?_)
  refine lv_iload_n hx hb dX0_divide_38 rfl (lv_at hl 1 rfl) ?_
  refine s_callL (As := [.int a0]) (rest := []) cx hw hA (t_X0_wholeOf l G a0) ml_X0_67 st_X0_wholeOf in_X0 co_X0_wholeOf hd_X0_wholeOf rfl ⟨(Nat.le_of_ble_eq_true rfl), (Nat.le_of_ble_eq_true rfl)⟩ hl.1 rfl (Nat.le_of_ble_eq_true rfl) dX0_divide_39 rfl (fun H locs hw => ?_)
  obtain ⟨v4, ev4, h⟩ := bv_ex h
  refine lv_topl (fun y9 z9 => ?_)
  obtain rfl : v4 = y9 := ev4.trans z9.symm
  refine lv_lstore (lv' := [(5, .long v4), (4, .int k0), (0, .int a0), (1, .int a1), (2, .int a2), (3, .int a3)]) hx hb dX0_divide_42 hl (by decide) rfl (fun ls hl => ?_)
  refine lv_iload_n hx hb dX0_divide_44 rfl (lv_at hl 3 rfl) ?_
  refine s_callL (As := [.int a1]) (rest := []) cx hw hA (t_X0_wholeOf l G a1) ml_X0_67 st_X0_wholeOf in_X0 co_X0_wholeOf hd_X0_wholeOf rfl ⟨(Nat.le_of_ble_eq_true rfl), (Nat.le_of_ble_eq_true rfl)⟩ hl.1 rfl (Nat.le_of_ble_eq_true rfl) dX0_divide_45 rfl (fun H locs hw => ?_)
  obtain ⟨v5, ev5, h⟩ := bv_ex h
  refine lv_topl (fun y9 z9 => ?_)
  obtain rfl : v5 = y9 := ev5.trans z9.symm
  refine lv_lstore (lv' := [(7, .long v5), (5, .long v4), (4, .int k0), (0, .int a0), (1, .int a1), (2, .int a2), (3, .int a3)]) hx hb dX0_divide_48 hl (by decide) rfl (fun ls hl => ?_)
  refine lv_iload_n hx hb dX0_divide_50 rfl (lv_at hl 6 rfl) ?_
  refine lv_if_eq (tgt := 72) hx hb dX0_divide_51 (by decide) (fun c6 => ?_) (fun c6 => ?_)
  · rw [if_pos c6] at h
    refine lv_iload hx hb dX0_divide_72 (lv_at hl 2 rfl) ?_
    refine lv_if_eq (tgt := 82) hx hb dX0_divide_74 (by decide) (fun c7 => ?_) (fun c7 => ?_)
    · rw [if_pos c7] at h
      refine lv_lload hx hb dX0_divide_82 (lv_at hl 0 rfl) ?_
      refine lv_lconst (v := 0) hx hb dX0_divide_84 (by decide) ?_
      refine W.lcmp hx hb dX0_divide_85 ?_
      refine lv_if_ne (tgt := 109) hx hb dX0_divide_86 (by decide) (fun c8 => ?_) (fun c8 => ?_)
      · rw [if_neg c8] at h
        refine lv_lload hx hb dX0_divide_109 (lv_at hl 1 rfl) ?_
        refine lv_lconst (v := 0) hx hb dX0_divide_111 (by decide) ?_
        refine W.lcmp hx hb dX0_divide_112 ?_
        refine lv_if_ne (tgt := 121) hx hb dX0_divide_113 (by decide) (fun c9 => ?_) (fun c9 => ?_)
        · rw [if_neg c9] at h
          refine lv_lload hx hb dX0_divide_121 (lv_at hl 1 rfl) ?_
          refine s_callI (As := [.long v4]) (rest := []) cx hw hA (t_J13_numberOfLeadingZeros_95d88 l G v4) ml_X0_77 st_J13_numberOfLeadingZeros_95d88 in_J13 co_J13_numberOfLeadingZeros_95d88 hd_J13_numberOfLeadingZeros_95d88 rfl ⟨(Nat.le_of_ble_eq_true rfl), (Nat.le_of_ble_eq_true rfl)⟩ hl.1 rfl (Nat.le_of_ble_eq_true rfl) dX0_divide_123 rfl (fun H locs hw => ?_)
          refine lv_iconst (v := 3) hx hb dX0_divide_126 (by decide) ?_
          refine lv_isub hx hb dX0_divide_127 ?_
          obtain ⟨v10, ev10, h⟩ := bv_ex h
          refine lv_topi (fun y9 z9 => ?_)
          obtain rfl : v10 = y9 := ev10.trans z9.symm
          refine lv_istore (lv' := [(9, .int v10), (7, .long v5), (5, .long v4), (4, .int k0), (0, .int a0), (1, .int a1), (2, .int a2), (3, .int a3)]) hx hb dX0_divide_128 hl (by decide) rfl (fun ls hl => ?_)
          refine lv_lload hx hb dX0_divide_130 (lv_at hl 2 rfl) ?_
          refine lv_iload hx hb dX0_divide_132 (lv_at hl 0 rfl) ?_
          refine lv_lshl hx hb dX0_divide_134 rfl ?_
          obtain ⟨v11, ev11, h⟩ := bv_ex h
          refine lv_topl (fun y9 z9 => ?_)
          obtain rfl : v11 = y9 := ev11.trans z9.symm
          refine lv_lstore (lv' := [(5, .long v11), (9, .int v10), (7, .long v5), (4, .int k0), (0, .int a0), (1, .int a1), (2, .int a2), (3, .int a3)]) hx hb dX0_divide_135 hl (by decide) rfl (fun ls hl => ?_)
          refine lv_lload hx hb dX0_divide_137 (lv_at hl 0 rfl) ?_
          refine lv_lload hx hb dX0_divide_139 (lv_at hl 2 rfl) ?_
          refine lv_ldiv hx hb dX0_divide_141 (lg_nz c8) ?_
          obtain ⟨v12, ev12, h⟩ := bv_ex h
          refine lv_topl (fun y9 z9 => ?_)
          obtain rfl : v12 = y9 := ev12.trans z9.symm
          refine lv_lstore (lv' := [(10, .long v12), (5, .long v11), (9, .int v10), (7, .long v5), (4, .int k0), (0, .int a0), (1, .int a1), (2, .int a2), (3, .int a3)]) hx hb dX0_divide_142 hl (by decide) rfl (fun ls hl => ?_)
          refine lv_lload hx hb dX0_divide_144 (lv_at hl 1 rfl) ?_
          refine lv_lload hx hb dX0_divide_146 (lv_at hl 3 rfl) ?_
          refine lv_lrem hx hb dX0_divide_148 (lg_nz c8) ?_
          refine lv_lconst (v := 0) hx hb dX0_divide_149 (by decide) ?_
          refine W.lcmp hx hb dX0_divide_150 ?_
          refine lv_if_ne (tgt := 158) hx hb dX0_divide_151 (by decide) (fun c13 => ?_) (fun c13 => ?_)
          · rw [if_neg c13] at h
            refine lv_lconst (v := 1) hx hb dX0_divide_158 (by decide) ?_
            exact t_X0_divide_b159 l G av  a0 a1 a2 v10 v12 (1 : Int64) h p e s m below meth c A ls H locs cx hr hlk hA (lv_sub hl [5, 6, 7, 2, 0] rfl) hw
          · rw [if_pos c13] at h
            refine lv_lconst (v := 0) hx hb dX0_divide_154 (by decide) ?_
            refine lv_goto (tgt := 159) hx hb dX0_divide_155 (by decide) ?_
            exact t_X0_divide_b159 l G av  a0 a1 a2 v10 v12 (0 : Int64) h p e s m below meth c A ls H locs cx hr hlk hA (lv_sub hl [5, 6, 7, 2, 0] rfl) hw
        · rw [if_pos c9] at h
          refine lv_iload_n hx hb dX0_divide_116 rfl (lv_at hl 5 rfl) ?_
          refine lv_bipush (v := 31) hx hb dX0_divide_117 (by decide) ?_
          refine lv_ishl hx hb dX0_divide_119 ?_
          exact s_iret cx hr hlk hw h dX0_divide_120
      · rw [if_pos c8] at h
        refine lv_lload hx hb dX0_divide_89 (lv_at hl 1 rfl) ?_
        refine lv_lconst (v := 0) hx hb dX0_divide_91 (by decide) ?_
        refine W.lcmp hx hb dX0_divide_92 ?_
        refine lv_if_ne (tgt := 101) hx hb dX0_divide_93 (by decide) (fun c14 => ?_) (fun c14 => ?_)
        · rw [if_neg c14] at h
          refine lv_iload_n hx hb dX0_divide_101 rfl (lv_at hl 5 rfl) ?_
          refine lv_bipush (v := 31) hx hb dX0_divide_102 (by decide) ?_
          refine lv_ishl hx hb dX0_divide_104 ?_
          refine lv_ldc hx hb cx.2.2.2.1 (cx.2.2.2.2.1 _ cs_X0_71) dX0_divide_105 ?_
          refine lv_ior hx hb dX0_divide_107 ?_
          exact s_iret cx hr hlk hw h dX0_divide_108
        · rw [if_pos c14] at h
          refine lv_ldc hx hb cx.2.2.2.1 (cx.2.2.2.2.1 _ cs_X0_47) dX0_divide_96 ?_
          refine lv_goto (tgt := 108) hx hb dX0_divide_98 (by decide) ?_
          exact s_iret cx hr hlk hw h dX0_divide_108
    · rw [if_neg c7] at h
      refine lv_iload_n hx hb dX0_divide_77 rfl (lv_at hl 5 rfl) ?_
      refine lv_bipush (v := 31) hx hb dX0_divide_78 (by decide) ?_
      refine lv_ishl hx hb dX0_divide_80 ?_
      exact s_iret cx hr hlk hw h dX0_divide_81
  · rw [if_neg c6] at h
    refine lv_iload hx hb dX0_divide_54 (lv_at hl 2 rfl) ?_
    refine lv_if_eq (tgt := 64) hx hb dX0_divide_56 (by decide) (fun c15 => ?_) (fun c15 => ?_)
    · rw [if_pos c15] at h
      refine lv_iload_n hx hb dX0_divide_64 rfl (lv_at hl 5 rfl) ?_
      refine lv_bipush (v := 31) hx hb dX0_divide_65 (by decide) ?_
      refine lv_ishl hx hb dX0_divide_67 ?_
      refine lv_ldc hx hb cx.2.2.2.1 (cx.2.2.2.2.1 _ cs_X0_71) dX0_divide_68 ?_
      refine lv_ior hx hb dX0_divide_70 ?_
      exact s_iret cx hr hlk hw h dX0_divide_71
    · rw [if_neg c15] at h
      refine lv_ldc hx hb cx.2.2.2.1 (cx.2.2.2.2.1 _ cs_X0_47) dX0_divide_59 ?_
      refine lv_goto (tgt := 71) hx hb dX0_divide_61 (by decide) ?_
      exact s_iret cx hr hlk hw h dX0_divide_71
theorem s_X0_divide_b21_ex : ∃ f : Int32 → Int32 → Int32 → Int32 → Int32, ∀ (a0 : Int32) (a1 : Int32) (a2 : Int32) (k0 : Int32), f a0 a1 a2 k0 = (if (a1 &&& (2147483647 : Int32)) = (2139095040 : Int32) then s_X0_divide_b36  a0 a1 a2 k0 (1 : Int32) else s_X0_divide_b36  a0 a1 a2 k0 (0 : Int32)) := ⟨fun (a0 : Int32) (a1 : Int32) (a2 : Int32) (k0 : Int32) => (if (a1 &&& (2147483647 : Int32)) = (2139095040 : Int32) then s_X0_divide_b36  a0 a1 a2 k0 (1 : Int32) else s_X0_divide_b36  a0 a1 a2 k0 (0 : Int32)), fun _ _ _ _ => rfl⟩
noncomputable def s_X0_divide_b21 : Int32 → Int32 → Int32 → Int32 → Int32 := Classical.choose s_X0_divide_b21_ex
theorem s_X0_divide_b21_eq (a0 : Int32) (a1 : Int32) (a2 : Int32) (k0 : Int32) : s_X0_divide_b21 a0 a1 a2 k0 = (if (a1 &&& (2147483647 : Int32)) = (2139095040 : Int32) then s_X0_divide_b36  a0 a1 a2 k0 (1 : Int32) else s_X0_divide_b36  a0 a1 a2 k0 (0 : Int32)) := Classical.choose_spec s_X0_divide_b21_ex a0 a1 a2 k0
set_option maxHeartbeats 4000000 in
set_option maxRecDepth 100000 in
theorem t_X0_divide_b21 (l : Launch) (G : Gt) (av : List Value) {r : Int32} (a0 : Int32) (a1 : Int32) (a2 : Int32) (k0 : Int32) (h : s_X0_divide_b21  a0 a1 a2 k0 = r) : Bk l cX0_divide 14 RX0 (some .int) ({ frames := 3, cells := 0, slots := 0, locals := 75 } : Room) G av (sI G r) [] 21 [(0, .int a0), (1, .int a1), (2, .int a2)] [.int k0] := by
  intro p e s m below meth c A ls H locs cx hr hlk hA hl hw
  have hx := cx.1
  have hb := cx.2.1
  rw [s_X0_divide_b21_eq] at h
  refine lv_istore_n (lv' := [(3, .int k0), (0, .int a0), (1, .int a1), (2, .int a2)]) hx hb dX0_divide_21 rfl hl (by decide) rfl (fun ls hl => ?_)
  refine lv_iload_n hx hb dX0_divide_22 rfl (lv_at hl 2 rfl) ?_
  refine lv_ldc hx hb cx.2.2.2.1 (cx.2.2.2.2.1 _ cs_X0_58) dX0_divide_23 ?_
  refine lv_iand hx hb dX0_divide_25 ?_
  refine lv_ldc hx hb cx.2.2.2.1 (cx.2.2.2.2.1 _ cs_X0_71) dX0_divide_26 ?_
  refine lv_icmp_ne (tgt := 35) hx hb dX0_divide_28 (by decide) (fun c3 => ?_) (fun c3 => ?_)
  · rw [if_neg c3] at h
    refine lv_iconst (v := 0) hx hb dX0_divide_35 (by decide) ?_
    exact t_X0_divide_b36 l G av  a0 a1 a2 k0 (0 : Int32) h p e s m below meth c A ls H locs cx hr hlk hA (lv_sub hl [1, 2, 3, 0] rfl) hw
  · rw [if_pos c3] at h
    refine lv_iconst (v := 1) hx hb dX0_divide_31 (by decide) ?_
    refine lv_goto (tgt := 36) hx hb dX0_divide_32 (by decide) ?_
    exact t_X0_divide_b36 l G av  a0 a1 a2 k0 (1 : Int32) h p e s m below meth c A ls H locs cx hr hlk hA (lv_sub hl [1, 2, 3, 0] rfl) hw
theorem s_X0_divide_ex : ∃ f : Int32 → Int32 → Int32, ∀ (a0 : Int32) (a1 : Int32), f a0 a1 = bv (((a0 ^^^ a1).toUInt32 >>> ((31 : Int32).toUInt32 &&& Int32.toUInt32 31)).toInt32) (fun v1 => (if (a0 &&& (2147483647 : Int32)) = (2139095040 : Int32) then s_X0_divide_b21  a0 a1 v1 (1 : Int32) else s_X0_divide_b21  a0 a1 v1 (0 : Int32))) := ⟨fun (a0 : Int32) (a1 : Int32) => bv (((a0 ^^^ a1).toUInt32 >>> ((31 : Int32).toUInt32 &&& Int32.toUInt32 31)).toInt32) (fun v1 => (if (a0 &&& (2147483647 : Int32)) = (2139095040 : Int32) then s_X0_divide_b21  a0 a1 v1 (1 : Int32) else s_X0_divide_b21  a0 a1 v1 (0 : Int32))), fun _ _ => rfl⟩
noncomputable def s_X0_divide : Int32 → Int32 → Int32 := Classical.choose s_X0_divide_ex
theorem s_X0_divide_eq (a0 : Int32) (a1 : Int32) : s_X0_divide a0 a1 = bv (((a0 ^^^ a1).toUInt32 >>> ((31 : Int32).toUInt32 &&& Int32.toUInt32 31)).toInt32) (fun v1 => (if (a0 &&& (2147483647 : Int32)) = (2139095040 : Int32) then s_X0_divide_b21  a0 a1 v1 (1 : Int32) else s_X0_divide_b21  a0 a1 v1 (0 : Int32))) := Classical.choose_spec s_X0_divide_ex a0 a1
set_option maxHeartbeats 4000000 in
set_option maxRecDepth 100000 in
theorem t_X0_divide (l : Launch) (G : Gt) (a0 : Int32) (a1 : Int32) : Mt l yX0_divide cX0_divide 14 (some .int) ({ frames := 3, cells := 0, slots := 0, locals := 75 } : Room) G [.int a0, .int a1] [] (sI G (s_X0_divide a0 a1)) := by
  obtain ⟨r, h⟩ : ∃ r, s_X0_divide a0 a1 = r := ⟨_, rfl⟩
  rw [h]
  refine Bk.mt (by decide) rfl (Nat.le_of_ble_eq_true rfl) ?_
  intro p e s m below meth c A ls H locs cx hr hlk hA hl hw
  have hx := cx.1
  have hb := cx.2.1
  have hl : lv_has ls 14 [(0, .int a0), (1, .int a1)] := hl
  rw [s_X0_divide_eq] at h
  refine lv_iload_n hx hb dX0_divide_0 rfl (lv_at hl 0 rfl) ?_
  refine lv_iload_n hx hb dX0_divide_1 rfl (lv_at hl 1 rfl) ?_
  refine lv_ixor hx hb dX0_divide_2 ?_
  refine lv_bipush (v := 31) hx hb dX0_divide_3 (by decide) ?_
  refine lv_iushr hx hb dX0_divide_5 rfl ?_
  obtain ⟨v1, ev1, h⟩ := bv_ex h
  refine lv_topi (fun y9 z9 => ?_)
  obtain rfl : v1 = y9 := ev1.trans z9.symm
  refine lv_istore_n (lv' := [(2, .int v1), (0, .int a0), (1, .int a1)]) hx hb dX0_divide_6 rfl hl (by decide) rfl (fun ls hl => ?_)
  refine lv_iload_n hx hb dX0_divide_7 rfl (lv_at hl 1 rfl) ?_
  refine lv_ldc hx hb cx.2.2.2.1 (cx.2.2.2.2.1 _ cs_X0_58) dX0_divide_8 ?_
  refine lv_iand hx hb dX0_divide_10 ?_
  refine lv_ldc hx hb cx.2.2.2.1 (cx.2.2.2.2.1 _ cs_X0_71) dX0_divide_11 ?_
  refine lv_icmp_ne (tgt := 20) hx hb dX0_divide_13 (by decide) (fun c2 => ?_) (fun c2 => ?_)
  · rw [if_neg c2] at h
    refine lv_iconst (v := 0) hx hb dX0_divide_20 (by decide) ?_
    exact t_X0_divide_b21 l G _  a0 a1 v1 (0 : Int32) h p e s m below meth c A ls H locs cx hr hlk hA (lv_sub hl [1, 2, 0] rfl) hw
  · rw [if_pos c2] at h
    refine lv_iconst (v := 1) hx hb dX0_divide_16 (by decide) ?_
    refine lv_goto (tgt := 21) hx hb dX0_divide_17 (by decide) ?_
    exact t_X0_divide_b21 l G _  a0 a1 v1 (1 : Int32) h p e s m below meth c A ls H locs cx hr hlk hA (lv_sub hl [1, 2, 0] rfl) hw

theorem p_X4_readNumber_b52_ex : ∃ f : Int32 → Int32 → Mem → Option (Int64 × Mem), ∀ (a1 : Int32) (a2 : Int32) (μ : Mem), f a1 a2 μ = (if a1 = (0 : Int32) then some ((s_X0_make (0 : Int32) a2), μ) else some ((s_X0_make (0 : Int32) (-a2)), μ)) := ⟨fun (a1 : Int32) (a2 : Int32) (μ : Mem) => (if a1 = (0 : Int32) then some ((s_X0_make (0 : Int32) a2), μ) else some ((s_X0_make (0 : Int32) (-a2)), μ)), fun _ _ _ => rfl⟩
noncomputable def p_X4_readNumber_b52 : Int32 → Int32 → Mem → Option (Int64 × Mem) := Classical.choose p_X4_readNumber_b52_ex
theorem p_X4_readNumber_b52_eq (a1 : Int32) (a2 : Int32) (μ : Mem) : p_X4_readNumber_b52 a1 a2 μ = (if a1 = (0 : Int32) then some ((s_X0_make (0 : Int32) a2), μ) else some ((s_X0_make (0 : Int32) (-a2)), μ)) := Classical.choose_spec p_X4_readNumber_b52_ex a1 a2 μ
set_option maxHeartbeats 4000000 in
set_option maxRecDepth 100000 in
theorem t_X4_readNumber_b52 (l : Launch) (G : Gt) (ad : Nat → Nat) (av : List Value) {r : Int64} {μz : Mem} (a1 : Int32) (a2 : Int32) (μ : Mem) (h : p_X4_readNumber_b52  a1 a2 μ = some (r, μz)) : Bk l cX4_readNumber 7 RX4 (some .long) ({ frames := 4, cells := 0, slots := 0, locals := 108 } : Room) G av (eL 0 G ad r μz) (wd 0 G ad μ) 52 [(1, .int a1), (2, .int a2)] [] := by
  intro p e s m below meth c A ls H locs cx hr hlk hA hl hw
  have hx := cx.1
  have hb := cx.2.1
  rw [p_X4_readNumber_b52_eq] at h
  refine lv_iconst (v := 0) hx hb dX4_readNumber_52 (by decide) ?_
  refine lv_iload_n hx hb dX4_readNumber_53 rfl (lv_at hl 0 rfl) ?_
  refine lv_if_eq (tgt := 62) hx hb dX4_readNumber_54 (by decide) (fun c10 => ?_) (fun c10 => ?_)
  · rw [if_pos c10] at h
    refine lv_iload_n hx hb dX4_readNumber_62 rfl (lv_at hl 1 rfl) ?_
    refine s_callL (As := [.int 0, .int a2]) (rest := []) cx hw hA (t_X0_make l G (0 : Int32) a2) ml_X4_136 st_X0_make in_X0 co_X0_make hd_X0_make rfl ⟨(Nat.le_of_ble_eq_true rfl), (Nat.le_of_ble_eq_true rfl)⟩ hl.1 rfl (Nat.le_of_ble_eq_true rfl) dX4_readNumber_63 rfl (fun H locs hw => ?_)
    exact g_lret cx hr hlk hw h dX4_readNumber_66
  · rw [if_neg c10] at h
    refine lv_iload_n hx hb dX4_readNumber_57 rfl (lv_at hl 1 rfl) ?_
    refine lv_ineg hx hb dX4_readNumber_58 ?_
    refine lv_goto (tgt := 63) hx hb dX4_readNumber_59 (by decide) ?_
    refine s_callL (As := [.int 0, .int (-a2)]) (rest := []) cx hw hA (t_X0_make l G (0 : Int32) (-a2)) ml_X4_136 st_X0_make in_X0 co_X0_make hd_X0_make rfl ⟨(Nat.le_of_ble_eq_true rfl), (Nat.le_of_ble_eq_true rfl)⟩ hl.1 rfl (Nat.le_of_ble_eq_true rfl) dX4_readNumber_63 rfl (fun H locs hw => ?_)
    exact g_lret cx hr hlk hw h dX4_readNumber_66
theorem p_X4_readNumber_b128_ex : ∃ f : Int32 → Int32 → Int32 → Mem → Option (Int64 × Mem), ∀ (a4 : Int32) (k0 : Int32) (k1 : Int32) (μ : Mem), f a4 k0 k1 μ = bv (s_X0_floatBits (s_X0_make k1 k0)) (fun v20 => bv (s_X0_floatBits (s_X0_make (0 : Int32) a4)) (fun v21 => some ((s_X0_make (1 : Int32) (s_X0_divide v20 v21)), μ))) := ⟨fun (a4 : Int32) (k0 : Int32) (k1 : Int32) (μ : Mem) => bv (s_X0_floatBits (s_X0_make k1 k0)) (fun v20 => bv (s_X0_floatBits (s_X0_make (0 : Int32) a4)) (fun v21 => some ((s_X0_make (1 : Int32) (s_X0_divide v20 v21)), μ))), fun _ _ _ _ => rfl⟩
noncomputable def p_X4_readNumber_b128 : Int32 → Int32 → Int32 → Mem → Option (Int64 × Mem) := Classical.choose p_X4_readNumber_b128_ex
theorem p_X4_readNumber_b128_eq (a4 : Int32) (k0 : Int32) (k1 : Int32) (μ : Mem) : p_X4_readNumber_b128 a4 k0 k1 μ = bv (s_X0_floatBits (s_X0_make k1 k0)) (fun v20 => bv (s_X0_floatBits (s_X0_make (0 : Int32) a4)) (fun v21 => some ((s_X0_make (1 : Int32) (s_X0_divide v20 v21)), μ))) := Classical.choose_spec p_X4_readNumber_b128_ex a4 k0 k1 μ
set_option maxHeartbeats 4000000 in
set_option maxRecDepth 100000 in
theorem t_X4_readNumber_b128 (l : Launch) (G : Gt) (ad : Nat → Nat) (av : List Value) {r : Int64} {μz : Mem} (a4 : Int32) (k0 : Int32) (k1 : Int32) (μ : Mem) (h : p_X4_readNumber_b128  a4 k0 k1 μ = some (r, μz)) : Bk l cX4_readNumber 7 RX4 (some .long) ({ frames := 4, cells := 0, slots := 0, locals := 108 } : Room) G av (eL 0 G ad r μz) (wd 0 G ad μ) 128 [(4, .int a4)] [.int k0, .int k1] := by
  intro p e s m below meth c A ls H locs cx hr hlk hA hl hw
  have hx := cx.1
  have hb := cx.2.1
  rw [p_X4_readNumber_b128_eq] at h
  refine s_callL (As := [.int k1, .int k0]) (rest := []) cx hw hA (t_X0_make l G k1 k0) ml_X4_136 st_X0_make in_X0 co_X0_make hd_X0_make rfl ⟨(Nat.le_of_ble_eq_true rfl), (Nat.le_of_ble_eq_true rfl)⟩ hl.1 rfl (Nat.le_of_ble_eq_true rfl) dX4_readNumber_128 rfl (fun H locs hw => ?_)
  refine s_callI (As := [.long (s_X0_make k1 k0)]) (rest := []) cx hw hA (t_X0_floatBits l G (s_X0_make k1 k0)) ml_X4_140 st_X0_floatBits in_X0 co_X0_floatBits hd_X0_floatBits rfl ⟨(Nat.le_of_ble_eq_true rfl), (Nat.le_of_ble_eq_true rfl)⟩ hl.1 rfl (Nat.le_of_ble_eq_true rfl) dX4_readNumber_131 rfl (fun H locs hw => ?_)
  obtain ⟨v20, ev20, h⟩ := bv_ex h
  refine lv_topi (fun y9 z9 => ?_)
  obtain rfl : v20 = y9 := ev20.trans z9.symm
  refine lv_istore (lv' := [(5, .int v20), (4, .int a4)]) hx hb dX4_readNumber_134 hl (by decide) rfl (fun ls hl => ?_)
  refine lv_iconst (v := 0) hx hb dX4_readNumber_136 (by decide) ?_
  refine lv_iload hx hb dX4_readNumber_137 (lv_at hl 1 rfl) ?_
  refine s_callL (As := [.int 0, .int a4]) (rest := []) cx hw hA (t_X0_make l G (0 : Int32) a4) ml_X4_136 st_X0_make in_X0 co_X0_make hd_X0_make rfl ⟨(Nat.le_of_ble_eq_true rfl), (Nat.le_of_ble_eq_true rfl)⟩ hl.1 rfl (Nat.le_of_ble_eq_true rfl) dX4_readNumber_139 rfl (fun H locs hw => ?_)
  refine s_callI (As := [.long (s_X0_make (0 : Int32) a4)]) (rest := []) cx hw hA (t_X0_floatBits l G (s_X0_make (0 : Int32) a4)) ml_X4_140 st_X0_floatBits in_X0 co_X0_floatBits hd_X0_floatBits rfl ⟨(Nat.le_of_ble_eq_true rfl), (Nat.le_of_ble_eq_true rfl)⟩ hl.1 rfl (Nat.le_of_ble_eq_true rfl) dX4_readNumber_142 rfl (fun H locs hw => ?_)
  obtain ⟨v21, ev21, h⟩ := bv_ex h
  refine lv_topi (fun y9 z9 => ?_)
  obtain rfl : v21 = y9 := ev21.trans z9.symm
  refine lv_istore (lv' := [(6, .int v21), (5, .int v20), (4, .int a4)]) hx hb dX4_readNumber_145 hl (by decide) rfl (fun ls hl => ?_)
  refine lv_iconst (v := 1) hx hb dX4_readNumber_147 (by decide) ?_
  refine lv_iload hx hb dX4_readNumber_148 (lv_at hl 1 rfl) ?_
  refine lv_iload hx hb dX4_readNumber_150 (lv_at hl 0 rfl) ?_
  refine s_callI (As := [.int v20, .int v21]) (rest := [.int 1]) cx hw hA (t_X0_divide l G v20 v21) ml_X4_143 st_X0_divide in_X0 co_X0_divide hd_X0_divide rfl ⟨(Nat.le_of_ble_eq_true rfl), (Nat.le_of_ble_eq_true rfl)⟩ hl.1 rfl (Nat.le_of_ble_eq_true rfl) dX4_readNumber_152 rfl (fun H locs hw => ?_)
  refine s_callL (As := [.int 1, .int (s_X0_divide v20 v21)]) (rest := []) cx hw hA (t_X0_make l G (1 : Int32) (s_X0_divide v20 v21)) ml_X4_136 st_X0_make in_X0 co_X0_make hd_X0_make rfl ⟨(Nat.le_of_ble_eq_true rfl), (Nat.le_of_ble_eq_true rfl)⟩ hl.1 rfl (Nat.le_of_ble_eq_true rfl) dX4_readNumber_155 rfl (fun H locs hw => ?_)
  exact g_lret cx hr hlk hw h dX4_readNumber_158
theorem p_X4_readNumber_b95_ex : ∃ f : Nat → Int32 → Int32 → Int32 → Int32 → Mem → Option (Int64 × Mem), (∀ (a1 : Int32) (a2 : Int32) (a4 : Int32) (a5 : Int32) (μ : Mem), f  0 a1 a2 a4 a5 μ = none) ∧ (∀ (n : Nat) (a1 : Int32) (a2 : Int32) (a4 : Int32) (a5 : Int32) (μ : Mem), f  (n + 1) a1 a2 a4 a5 μ = (if (μ.1 16 2) ≤ a5 then (if a1 = (0 : Int32) then p_X4_readNumber_b128  a4 a2 (0 : Int32) μ else p_X4_readNumber_b128  a4 (-a2) (0 : Int32) μ) else bv (a4 * (10 : Int32)) (fun v22 => bv (a5 + 1) (fun v23 => f n a1 a2 v22 v23 μ)))) := ⟨fun n => Nat.rec (fun (a1 : Int32) (a2 : Int32) (a4 : Int32) (a5 : Int32) (μ : Mem) => none) (fun _ ih => fun (a1 : Int32) (a2 : Int32) (a4 : Int32) (a5 : Int32) (μ : Mem) => (if (μ.1 16 2) ≤ a5 then (if a1 = (0 : Int32) then p_X4_readNumber_b128  a4 a2 (0 : Int32) μ else p_X4_readNumber_b128  a4 (-a2) (0 : Int32) μ) else bv (a4 * (10 : Int32)) (fun v22 => bv (a5 + 1) (fun v23 => ih a1 a2 v22 v23 μ)))) n, fun  _ _ _ _ _ => rfl, fun  _ _ _ _ _ _ => rfl⟩
noncomputable def p_X4_readNumber_b95 : Nat → Int32 → Int32 → Int32 → Int32 → Mem → Option (Int64 × Mem) := Classical.choose p_X4_readNumber_b95_ex
theorem p_X4_readNumber_b95_z (a1 : Int32) (a2 : Int32) (a4 : Int32) (a5 : Int32) (μ : Mem) : p_X4_readNumber_b95  0 a1 a2 a4 a5 μ = none := (Classical.choose_spec p_X4_readNumber_b95_ex).1  a1 a2 a4 a5 μ
theorem p_X4_readNumber_b95_s (n : Nat) (a1 : Int32) (a2 : Int32) (a4 : Int32) (a5 : Int32) (μ : Mem) : p_X4_readNumber_b95  (n + 1) a1 a2 a4 a5 μ = (if (μ.1 16 2) ≤ a5 then (if a1 = (0 : Int32) then p_X4_readNumber_b128  a4 a2 (0 : Int32) μ else p_X4_readNumber_b128  a4 (-a2) (0 : Int32) μ) else bv (a4 * (10 : Int32)) (fun v22 => bv (a5 + 1) (fun v23 => p_X4_readNumber_b95  n a1 a2 v22 v23 μ))) := (Classical.choose_spec p_X4_readNumber_b95_ex).2  n a1 a2 a4 a5 μ
set_option maxHeartbeats 4000000 in
set_option maxRecDepth 100000 in
theorem t_X4_readNumber_b95 (l : Launch) (G : Gt) (ad : Nat → Nat) (av : List Value) {r : Int64} {μz : Mem} : ∀ (n : Nat) (a1 : Int32) (a2 : Int32) (a4 : Int32) (a5 : Int32) (μ : Mem), p_X4_readNumber_b95  n a1 a2 a4 a5 μ = some (r, μz) → Bk l cX4_readNumber 7 RX4 (some .long) ({ frames := 4, cells := 0, slots := 0, locals := 108 } : Room) G av (eL 0 G ad r μz) (wd 0 G ad μ) 95 [(0, .ref (ad 16)), (1, .int a1), (2, .int a2), (4, .int a4), (5, .int a5)] [] := by
  intro n
  induction n with
  | zero => intro a1 a2 a4 a5 μ h; rw [p_X4_readNumber_b95_z] at h; cases h
  | succ n ih =>
    intro a1 a2 a4 a5 μ h p e s m below meth c A ls H locs cx hr hlk hA hl hw
    have hx := cx.1
    have hb := cx.2.1
    rw [p_X4_readNumber_b95_s] at h
    refine lv_iload hx hb dX4_readNumber_95 (lv_at hl 4 rfl) ?_
    refine lv_aload_n hx hb dX4_readNumber_97 rfl (lv_at hl 0 rfl) ?_
    refine g_get cx hw inX4 (ci := 3) rfl 2 (by decide) rfl (v := .int (μ.1 16 2)) shx_16 rfl fl_X4_19 dX4_readNumber_98 ?_
    refine lv_icmp_ge (tgt := 117) hx hb dX4_readNumber_101 (by decide) (fun c18 => ?_) (fun c18 => ?_)
    · rw [if_pos c18] at h
      refine lv_iconst (v := 0) hx hb dX4_readNumber_117 (by decide) ?_
      refine lv_iload_n hx hb dX4_readNumber_118 rfl (lv_at hl 1 rfl) ?_
      refine lv_if_eq (tgt := 127) hx hb dX4_readNumber_119 (by decide) (fun c19 => ?_) (fun c19 => ?_)
      · rw [if_pos c19] at h
        refine lv_iload_n hx hb dX4_readNumber_127 rfl (lv_at hl 2 rfl) ?_
        exact t_X4_readNumber_b128 l G ad av  a4 a2 (0 : Int32) μ h p e s m below meth c A ls H locs cx hr hlk hA (lv_sub hl [3] rfl) hw
      · rw [if_neg c19] at h
        refine lv_iload_n hx hb dX4_readNumber_122 rfl (lv_at hl 2 rfl) ?_
        refine lv_ineg hx hb dX4_readNumber_123 ?_
        refine lv_goto (tgt := 128) hx hb dX4_readNumber_124 (by decide) ?_
        exact t_X4_readNumber_b128 l G ad av  a4 (-a2) (0 : Int32) μ h p e s m below meth c A ls H locs cx hr hlk hA (lv_sub hl [3] rfl) hw
    · rw [if_neg c18] at h
      refine lv_iload hx hb dX4_readNumber_104 (lv_at hl 3 rfl) ?_
      refine lv_bipush (v := 10) hx hb dX4_readNumber_106 (by decide) ?_
      refine lv_imul hx hb dX4_readNumber_108 ?_
      obtain ⟨v22, ev22, h⟩ := bv_ex h
      refine lv_topi (fun y9 z9 => ?_)
      obtain rfl : v22 = y9 := ev22.trans z9.symm
      refine lv_istore (lv' := [(4, .int v22), (0, .ref (ad 16)), (1, .int a1), (2, .int a2), (5, .int a5)]) hx hb dX4_readNumber_109 hl (by decide) rfl (fun ls hl => ?_)
      obtain ⟨v23, ev23, h⟩ := bv_ex h
      refine lv_iinc (v := v23) (lv' := [(5, .int v23), (4, .int v22), (0, .ref (ad 16)), (1, .int a1), (2, .int a2)]) hx hb dX4_readNumber_111 hl (k := 4) rfl (by rw [ev23]; rfl) (by decide) rfl (fun ls hl => ?_)
      refine lv_goto (tgt := 95) hx hb dX4_readNumber_114 (by decide) ?_
      exact ih a1 a2 v22 v23 μ h p e s m below meth c A ls H locs cx hr hlk hA (lv_sub hl [2, 3, 4, 1, 0] rfl) hw
theorem p_X4_readNumber_b29_ex : ∃ f : Int32 → Mem → Option (Int64 × Mem), ∀ (a1 : Int32) (μ : Mem), f a1 μ = bd (p_X4_readDigits (0 : Int32) (5 : Int32) μ) (fun r6 μ5 => bd (p_X4_isWell μ5) (fun r8 μ7 => (if r8 = (0 : Int32) then p_X4_readNumber_b52  a1 r6 μ7 else bd (p_X4_here μ7) (fun r12 μ11 => (if r12 = (46 : Int32) then bv (sF μ11 16 2 ((μ11.1 16 2) + (1 : Int32))) (fun μ14 => bv (μ14.1 16 2) (fun v15 => bd (p_X4_readDigits r6 (3 : Int32) μ14) (fun r17 μ16 => p_X4_readNumber_b95  FUEL a1 r17 (1 : Int32) v15 μ16))) else p_X4_readNumber_b52  a1 r6 μ11))))) := ⟨fun (a1 : Int32) (μ : Mem) => bd (p_X4_readDigits (0 : Int32) (5 : Int32) μ) (fun r6 μ5 => bd (p_X4_isWell μ5) (fun r8 μ7 => (if r8 = (0 : Int32) then p_X4_readNumber_b52  a1 r6 μ7 else bd (p_X4_here μ7) (fun r12 μ11 => (if r12 = (46 : Int32) then bv (sF μ11 16 2 ((μ11.1 16 2) + (1 : Int32))) (fun μ14 => bv (μ14.1 16 2) (fun v15 => bd (p_X4_readDigits r6 (3 : Int32) μ14) (fun r17 μ16 => p_X4_readNumber_b95  FUEL a1 r17 (1 : Int32) v15 μ16))) else p_X4_readNumber_b52  a1 r6 μ11))))), fun _ _ => rfl⟩
noncomputable def p_X4_readNumber_b29 : Int32 → Mem → Option (Int64 × Mem) := Classical.choose p_X4_readNumber_b29_ex
theorem p_X4_readNumber_b29_eq (a1 : Int32) (μ : Mem) : p_X4_readNumber_b29 a1 μ = bd (p_X4_readDigits (0 : Int32) (5 : Int32) μ) (fun r6 μ5 => bd (p_X4_isWell μ5) (fun r8 μ7 => (if r8 = (0 : Int32) then p_X4_readNumber_b52  a1 r6 μ7 else bd (p_X4_here μ7) (fun r12 μ11 => (if r12 = (46 : Int32) then bv (sF μ11 16 2 ((μ11.1 16 2) + (1 : Int32))) (fun μ14 => bv (μ14.1 16 2) (fun v15 => bd (p_X4_readDigits r6 (3 : Int32) μ14) (fun r17 μ16 => p_X4_readNumber_b95  FUEL a1 r17 (1 : Int32) v15 μ16))) else p_X4_readNumber_b52  a1 r6 μ11))))) := Classical.choose_spec p_X4_readNumber_b29_ex a1 μ
set_option maxHeartbeats 4000000 in
set_option maxRecDepth 100000 in
theorem t_X4_readNumber_b29 (l : Launch) (G : Gt) (ad : Nat → Nat) (av : List Value) {r : Int64} {μz : Mem} (a1 : Int32) (μ : Mem) (h : p_X4_readNumber_b29  a1 μ = some (r, μz)) : Bk l cX4_readNumber 7 RX4 (some .long) ({ frames := 4, cells := 0, slots := 0, locals := 108 } : Room) G av (eL 0 G ad r μz) (wd 0 G ad μ) 29 [(0, .ref (ad 16)), (1, .int a1)] [] := by
  intro p e s m below meth c A ls H locs cx hr hlk hA hl hw
  have hx := cx.1
  have hb := cx.2.1
  rw [p_X4_readNumber_b29_eq] at h
  refine lv_aload_n hx hb dX4_readNumber_29 rfl (lv_at hl 0 rfl) ?_
  refine lv_iconst (v := 0) hx hb dX4_readNumber_30 (by decide) ?_
  refine lv_iconst (v := 5) hx hb dX4_readNumber_31 (by decide) ?_
  obtain ⟨r6, μ5, gr6, h⟩ := bd_some h
  refine g_callVI (As := [.int 0, .int 5]) (rest := []) cx hw hA (t_X4_readDigits l G ad (0 : Int32) (5 : Int32) μ gr6) shx_16 rfl ml_X4_133 im_X4_readDigits se_X4_readDigits in_X4 co_X4_readDigits rfl hd_X4_readDigits rfl ⟨(Nat.le_of_ble_eq_true rfl), (Nat.le_of_ble_eq_true rfl)⟩ hl.1 rfl (Nat.le_of_ble_eq_true rfl) dX4_readNumber_32 ⟨rfl, rfl⟩ (fun H locs hw => ?_)
  refine lv_istore_n (lv' := [(2, .int r6), (0, .ref (ad 16)), (1, .int a1)]) hx hb dX4_readNumber_35 rfl hl (by decide) rfl (fun ls hl => ?_)
  refine lv_aload_n hx hb dX4_readNumber_36 rfl (lv_at hl 1 rfl) ?_
  obtain ⟨r8, μ7, gr8, h⟩ := bd_some h
  refine g_callVI (As := []) (rest := []) cx hw hA (t_X4_isWell l G ad μ5 gr8) shx_16 rfl ml_X4_43 im_X4_isWell se_X4_isWell in_X4 co_X4_isWell rfl hd_X4_isWell rfl ⟨(Nat.le_of_ble_eq_true rfl), (Nat.le_of_ble_eq_true rfl)⟩ hl.1 rfl (Nat.le_of_ble_eq_true rfl) dX4_readNumber_37 ⟨rfl, rfl⟩ (fun H locs hw => ?_)
  refine lv_if_eq (tgt := 52) hx hb dX4_readNumber_40 (by decide) (fun c9 => ?_) (fun c9 => ?_)
  · rw [if_pos c9] at h
    exact t_X4_readNumber_b52 l G ad av  a1 r6 μ7 h p e s m below meth c A ls H locs cx hr hlk hA (lv_sub hl [2, 0] rfl) hw
  · rw [if_neg c9] at h
    refine lv_aload_n hx hb dX4_readNumber_43 rfl (lv_at hl 1 rfl) ?_
    obtain ⟨r12, μ11, gr12, h⟩ := bd_some h
    refine g_callVI (As := []) (rest := []) cx hw hA (t_X4_here l G ad μ7 gr12) shx_16 rfl ml_X4_47 im_X4_here se_X4_here in_X4 co_X4_here rfl hd_X4_here rfl ⟨(Nat.le_of_ble_eq_true rfl), (Nat.le_of_ble_eq_true rfl)⟩ hl.1 rfl (Nat.le_of_ble_eq_true rfl) dX4_readNumber_44 ⟨rfl, rfl⟩ (fun H locs hw => ?_)
    refine lv_bipush (v := 46) hx hb dX4_readNumber_47 (by decide) ?_
    refine lv_icmp_eq (tgt := 67) hx hb dX4_readNumber_49 (by decide) (fun c13 => ?_) (fun c13 => ?_)
    · rw [if_pos c13] at h
      refine lv_aload_n hx hb dX4_readNumber_67 rfl (lv_at hl 1 rfl) ?_
      refine lv_dup hx hb dX4_readNumber_68 rfl ?_
      refine g_get cx hw inX4 (ci := 3) rfl 2 (by decide) rfl (v := .int (μ11.1 16 2)) shx_16 rfl fl_X4_19 dX4_readNumber_69 ?_
      refine lv_iconst (v := 1) hx hb dX4_readNumber_72 (by decide) ?_
      refine lv_iadd hx hb dX4_readNumber_73 ?_
      refine g_put cx hw inX4 (ci := 3) rfl tyX4_ok nmX4 2 (by decide) rfl rfl rfl rfl shx_16 h fl_X4_19 dX4_readNumber_74 (fun μ14 H locs h hw => ?_)
      refine lv_aload_n hx hb dX4_readNumber_77 rfl (lv_at hl 1 rfl) ?_
      refine g_get cx hw inX4 (ci := 3) rfl 2 (by decide) rfl (v := .int (μ14.1 16 2)) shx_16 rfl fl_X4_19 dX4_readNumber_78 ?_
      obtain ⟨v15, ev15, h⟩ := bv_ex h
      refine lv_topi (fun y9 z9 => ?_)
      obtain rfl : v15 = y9 := ev15.trans z9.symm
      refine lv_istore_n (lv' := [(3, .int v15), (2, .int r6), (0, .ref (ad 16)), (1, .int a1)]) hx hb dX4_readNumber_81 rfl hl (by decide) rfl (fun ls hl => ?_)
      refine lv_aload_n hx hb dX4_readNumber_82 rfl (lv_at hl 2 rfl) ?_
      refine lv_iload_n hx hb dX4_readNumber_83 rfl (lv_at hl 1 rfl) ?_
      refine lv_iconst (v := 3) hx hb dX4_readNumber_84 (by decide) ?_
      obtain ⟨r17, μ16, gr17, h⟩ := bd_some h
      refine g_callVI (As := [.int r6, .int 3]) (rest := []) cx hw hA (t_X4_readDigits l G ad r6 (3 : Int32) μ14 gr17) shx_16 rfl ml_X4_133 im_X4_readDigits se_X4_readDigits in_X4 co_X4_readDigits rfl hd_X4_readDigits rfl ⟨(Nat.le_of_ble_eq_true rfl), (Nat.le_of_ble_eq_true rfl)⟩ hl.1 rfl (Nat.le_of_ble_eq_true rfl) dX4_readNumber_85 ⟨rfl, rfl⟩ (fun H locs hw => ?_)
      refine lv_istore_n (lv' := [(2, .int r17), (3, .int v15), (0, .ref (ad 16)), (1, .int a1)]) hx hb dX4_readNumber_88 rfl hl (by decide) rfl (fun ls hl => ?_)
      refine lv_iconst (v := 1) hx hb dX4_readNumber_89 (by decide) ?_
      refine lv_istore (lv' := [(4, .int 1), (2, .int r17), (3, .int v15), (0, .ref (ad 16)), (1, .int a1)]) hx hb dX4_readNumber_90 hl (by decide) rfl (fun ls hl => ?_)
      refine lv_iload_n hx hb dX4_readNumber_92 rfl (lv_at hl 2 rfl) ?_
      refine lv_istore (lv' := [(5, .int v15), (4, .int 1), (2, .int r17), (3, .int v15), (0, .ref (ad 16)), (1, .int a1)]) hx hb dX4_readNumber_93 hl (by decide) rfl (fun ls hl => ?_)
      exact t_X4_readNumber_b95 l G ad av  FUEL a1 r17 (1 : Int32) v15 μ16 h p e s m below meth c A ls H locs cx hr hlk hA (lv_sub hl [4, 5, 2, 1, 0] rfl) hw
    · rw [if_neg c13] at h
      exact t_X4_readNumber_b52 l G ad av  a1 r6 μ11 h p e s m below meth c A ls H locs cx hr hlk hA (lv_sub hl [2, 0] rfl) hw
theorem p_X4_readNumber_b14_ex : ∃ f : Int32 → Mem → Option (Int64 × Mem), ∀ (k0 : Int32) (μ : Mem), f k0 μ = (if k0 = (0 : Int32) then p_X4_readNumber_b29  k0 μ else bv (sF μ 16 2 ((μ.1 16 2) + (1 : Int32))) (fun μ24 => p_X4_readNumber_b29  k0 μ24)) := ⟨fun (k0 : Int32) (μ : Mem) => (if k0 = (0 : Int32) then p_X4_readNumber_b29  k0 μ else bv (sF μ 16 2 ((μ.1 16 2) + (1 : Int32))) (fun μ24 => p_X4_readNumber_b29  k0 μ24)), fun _ _ => rfl⟩
noncomputable def p_X4_readNumber_b14 : Int32 → Mem → Option (Int64 × Mem) := Classical.choose p_X4_readNumber_b14_ex
theorem p_X4_readNumber_b14_eq (k0 : Int32) (μ : Mem) : p_X4_readNumber_b14 k0 μ = (if k0 = (0 : Int32) then p_X4_readNumber_b29  k0 μ else bv (sF μ 16 2 ((μ.1 16 2) + (1 : Int32))) (fun μ24 => p_X4_readNumber_b29  k0 μ24)) := Classical.choose_spec p_X4_readNumber_b14_ex k0 μ
set_option maxHeartbeats 4000000 in
set_option maxRecDepth 100000 in
theorem t_X4_readNumber_b14 (l : Launch) (G : Gt) (ad : Nat → Nat) (av : List Value) {r : Int64} {μz : Mem} (k0 : Int32) (μ : Mem) (h : p_X4_readNumber_b14  k0 μ = some (r, μz)) : Bk l cX4_readNumber 7 RX4 (some .long) ({ frames := 4, cells := 0, slots := 0, locals := 108 } : Room) G av (eL 0 G ad r μz) (wd 0 G ad μ) 14 [(0, .ref (ad 16))] [.int k0] := by
  intro p e s m below meth c A ls H locs cx hr hlk hA hl hw
  have hx := cx.1
  have hb := cx.2.1
  rw [p_X4_readNumber_b14_eq] at h
  refine lv_istore_n (lv' := [(1, .int k0), (0, .ref (ad 16))]) hx hb dX4_readNumber_14 rfl hl (by decide) rfl (fun ls hl => ?_)
  refine lv_iload_n hx hb dX4_readNumber_15 rfl (lv_at hl 0 rfl) ?_
  refine lv_if_eq (tgt := 29) hx hb dX4_readNumber_16 (by decide) (fun c4 => ?_) (fun c4 => ?_)
  · rw [if_pos c4] at h
    exact t_X4_readNumber_b29 l G ad av  k0 μ h p e s m below meth c A ls H locs cx hr hlk hA (lv_sub hl [1, 0] rfl) hw
  · rw [if_neg c4] at h
    refine lv_aload_n hx hb dX4_readNumber_19 rfl (lv_at hl 1 rfl) ?_
    refine lv_dup hx hb dX4_readNumber_20 rfl ?_
    refine g_get cx hw inX4 (ci := 3) rfl 2 (by decide) rfl (v := .int (μ.1 16 2)) shx_16 rfl fl_X4_19 dX4_readNumber_21 ?_
    refine lv_iconst (v := 1) hx hb dX4_readNumber_24 (by decide) ?_
    refine lv_iadd hx hb dX4_readNumber_25 ?_
    refine g_put cx hw inX4 (ci := 3) rfl tyX4_ok nmX4 2 (by decide) rfl rfl rfl rfl shx_16 h fl_X4_19 dX4_readNumber_26 (fun μ24 H locs h hw => ?_)
    exact t_X4_readNumber_b29 l G ad av  k0 μ24 h p e s m below meth c A ls H locs cx hr hlk hA (lv_sub hl [1, 0] rfl) hw
theorem p_X4_readNumber_ex : ∃ f : Mem → Option (Int64 × Mem), ∀  (μ : Mem), f  μ = bd (p_X4_here μ) (fun r2 μ1 => (if r2 = (45 : Int32) then p_X4_readNumber_b14  (1 : Int32) μ1 else p_X4_readNumber_b14  (0 : Int32) μ1)) := ⟨fun  (μ : Mem) => bd (p_X4_here μ) (fun r2 μ1 => (if r2 = (45 : Int32) then p_X4_readNumber_b14  (1 : Int32) μ1 else p_X4_readNumber_b14  (0 : Int32) μ1)), fun _ => rfl⟩
noncomputable def p_X4_readNumber : Mem → Option (Int64 × Mem) := Classical.choose p_X4_readNumber_ex
theorem p_X4_readNumber_eq  (μ : Mem) : p_X4_readNumber  μ = bd (p_X4_here μ) (fun r2 μ1 => (if r2 = (45 : Int32) then p_X4_readNumber_b14  (1 : Int32) μ1 else p_X4_readNumber_b14  (0 : Int32) μ1)) := Classical.choose_spec p_X4_readNumber_ex  μ
set_option maxHeartbeats 4000000 in
set_option maxRecDepth 100000 in
theorem t_X4_readNumber (l : Launch) (G : Gt) (ad : Nat → Nat)  (μ : Mem) {r : Int64} {μz : Mem} (h : p_X4_readNumber  μ = some (r, μz)) : Mt l yX4_readNumber cX4_readNumber 7 (some .long) ({ frames := 4, cells := 0, slots := 0, locals := 108 } : Room) G [.ref (ad 16)] (wd 0 G ad μ) (eL 0 G ad r μz) := by
  refine Bk.mt (by decide) rfl (Nat.le_of_ble_eq_true rfl) ?_
  intro p e s m below meth c A ls H locs cx hr hlk hA hl hw
  have hx := cx.1
  have hb := cx.2.1
  have hl : lv_has ls 7 [(0, .ref (ad 16))] := hl
  rw [p_X4_readNumber_eq] at h
  refine lv_aload_n hx hb dX4_readNumber_0 rfl (lv_at hl 0 rfl) ?_
  obtain ⟨r2, μ1, gr2, h⟩ := bd_some h
  refine g_callVI (As := []) (rest := []) cx hw hA (t_X4_here l G ad μ gr2) shx_16 rfl ml_X4_47 im_X4_here se_X4_here in_X4 co_X4_here rfl hd_X4_here rfl ⟨(Nat.le_of_ble_eq_true rfl), (Nat.le_of_ble_eq_true rfl)⟩ hl.1 rfl (Nat.le_of_ble_eq_true rfl) dX4_readNumber_1 ⟨rfl, rfl⟩ (fun H locs hw => ?_)
  refine lv_bipush (v := 45) hx hb dX4_readNumber_4 (by decide) ?_
  refine lv_icmp_ne (tgt := 13) hx hb dX4_readNumber_6 (by decide) (fun c3 => ?_) (fun c3 => ?_)
  · rw [if_neg c3] at h
    refine lv_iconst (v := 0) hx hb dX4_readNumber_13 (by decide) ?_
    exact t_X4_readNumber_b14 l G ad _  (0 : Int32) μ1 h p e s m below meth c A ls H locs cx hr hlk hA (lv_sub hl [0] rfl) hw
  · rw [if_pos c3] at h
    refine lv_iconst (v := 1) hx hb dX4_readNumber_9 (by decide) ?_
    refine lv_goto (tgt := 14) hx hb dX4_readNumber_10 (by decide) ?_
    exact t_X4_readNumber_b14 l G ad _  (1 : Int32) μ1 h p e s m below meth c A ls H locs cx hr hlk hA (lv_sub hl [0] rfl) hw

theorem p_X3_add_ex : ∃ f : Nat → Int32 → Int32 → Int32 → Mem → Option (Int32 × Mem), ∀ (a0 : Nat) (a1 : Int32) (a2 : Int32) (a3 : Int32) (μ : Mem), f a0 a1 a2 a3 μ = (if (μ.1 a0 2) < (2472 : Int32) then gd (inb (μ.1 a0 2) 2472) (bv (sF μ (a0 + 4) (μ.1 a0 2).toNatClampNeg a1) (fun μ2 => gd (inb (μ2.1 a0 2) 2472) (bv (sF μ2 (a0 + 5) (μ2.1 a0 2).toNatClampNeg a2) (fun μ3 => gd (inb (μ3.1 a0 2) 2472) (bv (sF μ3 (a0 + 6) (μ3.1 a0 2).toNatClampNeg a3) (fun μ4 => bv (sF μ4 a0 2 ((μ4.1 a0 2) + (1 : Int32))) (fun μ5 => some (((μ5.1 a0 2) - (1 : Int32)), μ5)))))))) else some ((-1 : Int32), μ)) := ⟨fun (a0 : Nat) (a1 : Int32) (a2 : Int32) (a3 : Int32) (μ : Mem) => (if (μ.1 a0 2) < (2472 : Int32) then gd (inb (μ.1 a0 2) 2472) (bv (sF μ (a0 + 4) (μ.1 a0 2).toNatClampNeg a1) (fun μ2 => gd (inb (μ2.1 a0 2) 2472) (bv (sF μ2 (a0 + 5) (μ2.1 a0 2).toNatClampNeg a2) (fun μ3 => gd (inb (μ3.1 a0 2) 2472) (bv (sF μ3 (a0 + 6) (μ3.1 a0 2).toNatClampNeg a3) (fun μ4 => bv (sF μ4 a0 2 ((μ4.1 a0 2) + (1 : Int32))) (fun μ5 => some (((μ5.1 a0 2) - (1 : Int32)), μ5)))))))) else some ((-1 : Int32), μ)), fun _ _ _ _ _ => rfl⟩
noncomputable def p_X3_add : Nat → Int32 → Int32 → Int32 → Mem → Option (Int32 × Mem) := Classical.choose p_X3_add_ex
theorem p_X3_add_eq (a0 : Nat) (a1 : Int32) (a2 : Int32) (a3 : Int32) (μ : Mem) : p_X3_add a0 a1 a2 a3 μ = (if (μ.1 a0 2) < (2472 : Int32) then gd (inb (μ.1 a0 2) 2472) (bv (sF μ (a0 + 4) (μ.1 a0 2).toNatClampNeg a1) (fun μ2 => gd (inb (μ2.1 a0 2) 2472) (bv (sF μ2 (a0 + 5) (μ2.1 a0 2).toNatClampNeg a2) (fun μ3 => gd (inb (μ3.1 a0 2) 2472) (bv (sF μ3 (a0 + 6) (μ3.1 a0 2).toNatClampNeg a3) (fun μ4 => bv (sF μ4 a0 2 ((μ4.1 a0 2) + (1 : Int32))) (fun μ5 => some (((μ5.1 a0 2) - (1 : Int32)), μ5)))))))) else some ((-1 : Int32), μ)) := Classical.choose_spec p_X3_add_ex a0 a1 a2 a3 μ
set_option maxHeartbeats 4000000 in
set_option maxRecDepth 100000 in
theorem t_X3_add (l : Launch) (G : Gt) (ad : Nat → Nat) (a0 : Nat) (q0 : sh 0 a0 = (0, 2)) (a1 : Int32) (a2 : Int32) (a3 : Int32) (μ : Mem) {r : Int32} {μz : Mem} (h : p_X3_add a0 a1 a2 a3 μ = some (r, μz)) : Mt l yX3_add cX3_add 4 (some .int) ({ frames := 0, cells := 0, slots := 0, locals := 0 } : Room) G [.ref (ad a0), .int a1, .int a2, .int a3] (wd 0 G ad μ) (eI 0 G ad r μz) := by
  refine Bk.mt (by decide) rfl (Nat.le_of_ble_eq_true rfl) ?_
  intro p e s m below meth c A ls H locs cx hr hlk hA hl hw
  have hx := cx.1
  have hb := cx.2.1
  have hl : lv_has ls 4 [(0, .ref (ad a0)), (1, .int a1), (2, .int a2), (3, .int a3)] := hl
  rw [p_X3_add_eq] at h
  refine lv_aload_n hx hb dX3_add_0 rfl (lv_at hl 0 rfl) ?_
  refine g_get cx hw inX3 (ci := 2) rfl 2 (by decide) rfl (v := .int (μ.1 a0 2)) q0 rfl fl_X3_37 dX3_add_1 ?_
  refine lv_sipush (v := 2472) hx hb dX3_add_4 (by decide) ?_
  refine lv_icmp_lt (tgt := 12) hx hb dX3_add_7 (by decide) (fun c1 => ?_) (fun c1 => ?_)
  · rw [if_pos c1] at h
    refine lv_aload_n hx hb dX3_add_12 rfl (lv_at hl 0 rfl) ?_
    refine g_get cx hw inX3 (ci := 2) rfl 6 (by decide) rfl (v := .ref (ad (a0 + 4))) q0 rfl fl_X3_21 dX3_add_13 ?_
    refine lv_aload_n hx hb dX3_add_16 rfl (lv_at hl 0 rfl) ?_
    refine g_get cx hw inX3 (ci := 2) rfl 2 (by decide) rfl (v := .int (μ.1 a0 2)) q0 rfl fl_X3_37 dX3_add_17 ?_
    refine lv_iload_n hx hb dX3_add_20 rfl (lv_at hl 1 rfl) ?_
    refine g_iast cx hw (rl_X3_6 q0) h dX3_add_21 (fun μ2 H locs h hw => ?_)
    refine lv_aload_n hx hb dX3_add_22 rfl (lv_at hl 0 rfl) ?_
    refine g_get cx hw inX3 (ci := 2) rfl 7 (by decide) rfl (v := .ref (ad (a0 + 5))) q0 rfl fl_X3_24 dX3_add_23 ?_
    refine lv_aload_n hx hb dX3_add_26 rfl (lv_at hl 0 rfl) ?_
    refine g_get cx hw inX3 (ci := 2) rfl 2 (by decide) rfl (v := .int (μ2.1 a0 2)) q0 rfl fl_X3_37 dX3_add_27 ?_
    refine lv_iload_n hx hb dX3_add_30 rfl (lv_at hl 2 rfl) ?_
    refine g_iast cx hw (rl_X3_7 q0) h dX3_add_31 (fun μ3 H locs h hw => ?_)
    refine lv_aload_n hx hb dX3_add_32 rfl (lv_at hl 0 rfl) ?_
    refine g_get cx hw inX3 (ci := 2) rfl 8 (by decide) rfl (v := .ref (ad (a0 + 6))) q0 rfl fl_X3_27 dX3_add_33 ?_
    refine lv_aload_n hx hb dX3_add_36 rfl (lv_at hl 0 rfl) ?_
    refine g_get cx hw inX3 (ci := 2) rfl 2 (by decide) rfl (v := .int (μ3.1 a0 2)) q0 rfl fl_X3_37 dX3_add_37 ?_
    refine lv_iload_n hx hb dX3_add_40 rfl (lv_at hl 3 rfl) ?_
    refine g_iast cx hw (rl_X3_8 q0) h dX3_add_41 (fun μ4 H locs h hw => ?_)
    refine lv_aload_n hx hb dX3_add_42 rfl (lv_at hl 0 rfl) ?_
    refine lv_dup hx hb dX3_add_43 rfl ?_
    refine g_get cx hw inX3 (ci := 2) rfl 2 (by decide) rfl (v := .int (μ4.1 a0 2)) q0 rfl fl_X3_37 dX3_add_44 ?_
    refine lv_iconst (v := 1) hx hb dX3_add_47 (by decide) ?_
    refine lv_iadd hx hb dX3_add_48 ?_
    refine g_put cx hw inX3 (ci := 2) rfl tyX3_ok nmX3 2 (by decide) rfl rfl rfl rfl q0 h fl_X3_37 dX3_add_49 (fun μ5 H locs h hw => ?_)
    refine lv_aload_n hx hb dX3_add_52 rfl (lv_at hl 0 rfl) ?_
    refine g_get cx hw inX3 (ci := 2) rfl 2 (by decide) rfl (v := .int (μ5.1 a0 2)) q0 rfl fl_X3_37 dX3_add_53 ?_
    refine lv_iconst (v := 1) hx hb dX3_add_56 (by decide) ?_
    refine lv_isub hx hb dX3_add_57 ?_
    exact g_iret cx hr hlk hw h dX3_add_58
  · rw [if_neg c1] at h
    refine lv_iconst (v := (-1)) hx hb dX3_add_10 (by decide) ?_
    exact g_iret cx hr hlk hw h dX3_add_11

theorem p_X4_readVar_ex : ∃ f : Int32 → Mem → Option Mem, ∀ (a1 : Int32) (μ : Mem), f a1 μ = bd (p_X4_slotOf a1 μ) (fun r2 μ1 => (if r2 = (-1 : Int32) then bw (p_X4_fail (μ1.1 16 2) μ1) (fun μ7 => some μ7) else bv (sF μ1 16 2 ((μ1.1 16 2) + (1 : Int32))) (fun μ4 => bd (p_X3_add (sel 2 (μ4.2.2 16 4)) (1 : Int32) r2 (0 : Int32) μ4) (fun r6 μ5 => some μ5)))) := ⟨fun (a1 : Int32) (μ : Mem) => bd (p_X4_slotOf a1 μ) (fun r2 μ1 => (if r2 = (-1 : Int32) then bw (p_X4_fail (μ1.1 16 2) μ1) (fun μ7 => some μ7) else bv (sF μ1 16 2 ((μ1.1 16 2) + (1 : Int32))) (fun μ4 => bd (p_X3_add (sel 2 (μ4.2.2 16 4)) (1 : Int32) r2 (0 : Int32) μ4) (fun r6 μ5 => some μ5)))), fun _ _ => rfl⟩
noncomputable def p_X4_readVar : Int32 → Mem → Option Mem := Classical.choose p_X4_readVar_ex
theorem p_X4_readVar_eq (a1 : Int32) (μ : Mem) : p_X4_readVar a1 μ = bd (p_X4_slotOf a1 μ) (fun r2 μ1 => (if r2 = (-1 : Int32) then bw (p_X4_fail (μ1.1 16 2) μ1) (fun μ7 => some μ7) else bv (sF μ1 16 2 ((μ1.1 16 2) + (1 : Int32))) (fun μ4 => bd (p_X3_add (sel 2 (μ4.2.2 16 4)) (1 : Int32) r2 (0 : Int32) μ4) (fun r6 μ5 => some μ5)))) := Classical.choose_spec p_X4_readVar_ex a1 μ
set_option maxHeartbeats 4000000 in
set_option maxRecDepth 100000 in
theorem t_X4_readVar (l : Launch) (G : Gt) (ad : Nat → Nat) (a1 : Int32) (μ : Mem) {μz : Mem} (h : p_X4_readVar a1 μ = some μz) : Mt l yX4_readVar cX4_readVar 3 none ({ frames := 1, cells := 0, slots := 0, locals := 23 } : Room) G [.ref (ad 16), .int a1] (wd 0 G ad μ) (eV 0 G ad μz) := by
  refine Bk.mt (by decide) rfl (Nat.le_of_ble_eq_true rfl) ?_
  intro p e s m below meth c A ls H locs cx hr hlk hA hl hw
  have hx := cx.1
  have hb := cx.2.1
  have hl : lv_has ls 3 [(0, .ref (ad 16)), (1, .int a1)] := hl
  rw [p_X4_readVar_eq] at h
  refine lv_aload_n hx hb dX4_readVar_0 rfl (lv_at hl 0 rfl) ?_
  refine lv_iload_n hx hb dX4_readVar_1 rfl (lv_at hl 1 rfl) ?_
  obtain ⟨r2, μ1, gr2, h⟩ := bd_some h
  refine g_callVI (As := [.int a1]) (rest := []) cx hw hA (t_X4_slotOf l G ad a1 μ gr2) shx_16 rfl ml_X4_98 im_X4_slotOf se_X4_slotOf in_X4 co_X4_slotOf rfl hd_X4_slotOf rfl ⟨(Nat.le_of_ble_eq_true rfl), (Nat.le_of_ble_eq_true rfl)⟩ hl.1 rfl (Nat.le_of_ble_eq_true rfl) dX4_readVar_2 ⟨rfl, rfl⟩ (fun H locs hw => ?_)
  refine lv_istore_n (lv' := [(2, .int r2), (0, .ref (ad 16)), (1, .int a1)]) hx hb dX4_readVar_5 rfl hl (by decide) rfl (fun ls hl => ?_)
  refine lv_iload_n hx hb dX4_readVar_6 rfl (lv_at hl 0 rfl) ?_
  refine lv_iconst (v := (-1)) hx hb dX4_readVar_7 (by decide) ?_
  refine lv_icmp_ne (tgt := 20) hx hb dX4_readVar_8 (by decide) (fun c3 => ?_) (fun c3 => ?_)
  · rw [if_neg c3] at h
    refine lv_aload_n hx hb dX4_readVar_20 rfl (lv_at hl 1 rfl) ?_
    refine lv_dup hx hb dX4_readVar_21 rfl ?_
    refine g_get cx hw inX4 (ci := 3) rfl 2 (by decide) rfl (v := .int (μ1.1 16 2)) shx_16 rfl fl_X4_19 dX4_readVar_22 ?_
    refine lv_iconst (v := 1) hx hb dX4_readVar_25 (by decide) ?_
    refine lv_iadd hx hb dX4_readVar_26 ?_
    refine g_put cx hw inX4 (ci := 3) rfl tyX4_ok nmX4 2 (by decide) rfl rfl rfl rfl shx_16 h fl_X4_19 dX4_readVar_27 (fun μ4 H locs h hw => ?_)
    refine lv_aload_n hx hb dX4_readVar_30 rfl (lv_at hl 1 rfl) ?_
    refine g_get cx hw inX4 (ci := 3) rfl 4 (by decide) rfl (v := .ref (ad (sel 2 (μ4.2.2 16 4)))) shx_16 rfl fl_X4_25 dX4_readVar_31 ?_
    refine lv_iconst (v := 1) hx hb dX4_readVar_34 (by decide) ?_
    refine lv_iload_n hx hb dX4_readVar_35 rfl (lv_at hl 0 rfl) ?_
    refine lv_iconst (v := 0) hx hb dX4_readVar_36 (by decide) ?_
    obtain ⟨r6, μ5, gr6, h⟩ := bd_some h
    refine g_callVI (As := [.int 1, .int r2, .int 0]) (rest := []) cx hw hA (t_X3_add l G ad (sel 2 (μ4.2.2 16 4)) (sel_2 _) (1 : Int32) r2 (0 : Int32) μ4 gr6) (sel_2 _) rfl ml_X4_86 im_X3_add se_X3_add in_X3 co_X3_add rfl hd_X3_add rfl ⟨(Nat.le_of_ble_eq_true rfl), (Nat.le_of_ble_eq_true rfl)⟩ hl.1 rfl (Nat.le_of_ble_eq_true rfl) dX4_readVar_37 ⟨rfl, rfl⟩ (fun H locs hw => ?_)
    refine lv_pop hx hb dX4_readVar_40 rfl ?_
    exact g_vret cx hr hlk hw h dX4_readVar_41
  · rw [if_pos c3] at h
    refine lv_aload_n hx hb dX4_readVar_11 rfl (lv_at hl 1 rfl) ?_
    refine lv_aload_n hx hb dX4_readVar_12 rfl (lv_at hl 1 rfl) ?_
    refine g_get cx hw inX4 (ci := 3) rfl 2 (by decide) rfl (v := .int (μ1.1 16 2)) shx_16 rfl fl_X4_19 dX4_readVar_13 ?_
    obtain ⟨μ7, gμ7, h⟩ := bw_some h
    refine g_callVV (As := [.int (μ1.1 16 2)]) (rest := []) cx hw hA (t_X4_fail l G ad (μ1.1 16 2) μ1 gμ7) shx_16 rfl ml_X4_51 im_X4_fail se_X4_fail in_X4 co_X4_fail rfl hd_X4_fail rfl ⟨(Nat.le_of_ble_eq_true rfl), (Nat.le_of_ble_eq_true rfl)⟩ hl.1 rfl (Nat.le_of_ble_eq_true rfl) dX4_readVar_16 ⟨rfl, rfl⟩ (fun H locs hw => ?_)
    exact g_vret cx hr hlk hw h dX4_readVar_19

theorem p_X4_readCall_b97_ex : ∃ f : (Int32 → Mem → Option Mem) → Int32 → Int32 → Mem → Option Mem, ∀ (RE : Int32 → Mem → Option Mem) (a1 : Int32) (a3 : Int32) (μ : Mem), f RE a1 a3 μ = bd (p_X4_take (41 : Int32) μ) (fun r10 μ9 => bd (p_X3_add (sel 2 (μ9.2.2 16 4)) (13 : Int32) (((a1 - (97 : Int32)) * (6 : Int32)) + a3) a3 μ9) (fun r12 μ11 => some μ11)) := ⟨fun (RE : Int32 → Mem → Option Mem) (a1 : Int32) (a3 : Int32) (μ : Mem) => bd (p_X4_take (41 : Int32) μ) (fun r10 μ9 => bd (p_X3_add (sel 2 (μ9.2.2 16 4)) (13 : Int32) (((a1 - (97 : Int32)) * (6 : Int32)) + a3) a3 μ9) (fun r12 μ11 => some μ11)), fun _ _ _ _ => rfl⟩
noncomputable def p_X4_readCall_b97 : (Int32 → Mem → Option Mem) → Int32 → Int32 → Mem → Option Mem := Classical.choose p_X4_readCall_b97_ex
theorem p_X4_readCall_b97_eq (RE : Int32 → Mem → Option Mem) (a1 : Int32) (a3 : Int32) (μ : Mem) : p_X4_readCall_b97 RE a1 a3 μ = bd (p_X4_take (41 : Int32) μ) (fun r10 μ9 => bd (p_X3_add (sel 2 (μ9.2.2 16 4)) (13 : Int32) (((a1 - (97 : Int32)) * (6 : Int32)) + a3) a3 μ9) (fun r12 μ11 => some μ11)) := Classical.choose_spec p_X4_readCall_b97_ex RE a1 a3 μ
set_option maxHeartbeats 4000000 in
set_option maxRecDepth 100000 in
theorem t_X4_readCall_b97 (l : Launch) (G : Gt) (ad : Nat → Nat) (av : List Value) {μz : Mem} {fE lE : Nat} (RE : Int32 → Mem → Option Mem) (hRE : ∀ (z1 : Int32) (μ1 : Mem) (μ2 : Mem), RE z1 μ1 = some μ2 → Mt l yX4_readExpression cX4_readExpression 5 none ({ frames := fE, cells := 0, slots := 0, locals := lE } : Room) G [.ref (ad 16), .int z1] (wd 0 G ad μ1) (eV 0 G ad μ2)) (a1 : Int32) (a3 : Int32) (μ : Mem) (h : p_X4_readCall_b97 RE a1 a3 μ = some μz) : Bk l cX4_readCall 4 RX4 none ({ frames := fE + 2, cells := 0, slots := 0, locals := lE + 42 } : Room) G av (eV 0 G ad μz) (wd 0 G ad μ) 97 [(0, .ref (ad 16)), (1, .int a1), (3, .int a3)] [] := by
  intro p e s m below meth c A ls H locs cx hr hlk hA hl hw
  have hx := cx.1
  have hb := cx.2.1
  rw [p_X4_readCall_b97_eq] at h
  refine lv_aload_n hx hb dX4_readCall_97 rfl (lv_at hl 0 rfl) ?_
  refine lv_bipush (v := 41) hx hb dX4_readCall_98 (by decide) ?_
  obtain ⟨r10, μ9, gr10, h⟩ := bd_some h
  refine g_callVI (As := [.int 41]) (rest := []) cx hw hA (t_X4_take l G ad (41 : Int32) μ gr10) shx_16 rfl ml_X4_70 im_X4_take se_X4_take in_X4 co_X4_take rfl hd_X4_take rfl ⟨(by dsimp only; omega), (by dsimp only; omega)⟩ hl.1 rfl (Nat.le_of_ble_eq_true rfl) dX4_readCall_100 ⟨rfl, rfl⟩ (fun H locs hw => ?_)
  refine lv_pop hx hb dX4_readCall_103 rfl ?_
  refine lv_aload_n hx hb dX4_readCall_104 rfl (lv_at hl 0 rfl) ?_
  refine g_get cx hw inX4 (ci := 3) rfl 4 (by decide) rfl (v := .ref (ad (sel 2 (μ9.2.2 16 4)))) shx_16 rfl fl_X4_25 dX4_readCall_105 ?_
  refine lv_bipush (v := 13) hx hb dX4_readCall_108 (by decide) ?_
  refine lv_iload_n hx hb dX4_readCall_110 rfl (lv_at hl 1 rfl) ?_
  refine lv_bipush (v := 97) hx hb dX4_readCall_111 (by decide) ?_
  refine lv_isub hx hb dX4_readCall_113 ?_
  refine lv_bipush (v := 6) hx hb dX4_readCall_114 (by decide) ?_
  refine lv_imul hx hb dX4_readCall_116 ?_
  refine lv_iload_n hx hb dX4_readCall_117 rfl (lv_at hl 2 rfl) ?_
  refine lv_iadd hx hb dX4_readCall_118 ?_
  refine lv_iload_n hx hb dX4_readCall_119 rfl (lv_at hl 2 rfl) ?_
  obtain ⟨r12, μ11, gr12, h⟩ := bd_some h
  refine g_callVI (As := [.int 13, .int (((a1 - (97 : Int32)) * (6 : Int32)) + a3), .int a3]) (rest := []) cx hw hA (t_X3_add l G ad (sel 2 (μ9.2.2 16 4)) (sel_2 _) (13 : Int32) (((a1 - (97 : Int32)) * (6 : Int32)) + a3) a3 μ9 gr12) (sel_2 _) rfl ml_X4_86 im_X3_add se_X3_add in_X3 co_X3_add rfl hd_X3_add rfl ⟨(by dsimp only; omega), (by dsimp only; omega)⟩ hl.1 rfl (Nat.le_of_ble_eq_true rfl) dX4_readCall_120 ⟨rfl, rfl⟩ (fun H locs hw => ?_)
  refine lv_pop hx hb dX4_readCall_123 rfl ?_
  exact g_vret cx hr hlk hw h dX4_readCall_124
theorem p_X4_readCall_b53_ex : ∃ f : (Int32 → Mem → Option Mem) → Nat → Int32 → Int32 → Int32 → Mem → Option Mem, (∀ (RE : Int32 → Mem → Option Mem) (a1 : Int32) (a2 : Int32) (a3 : Int32) (μ : Mem), f RE 0 a1 a2 a3 μ = none) ∧ (∀ (RE : Int32 → Mem → Option Mem) (n : Nat) (a1 : Int32) (a2 : Int32) (a3 : Int32) (μ : Mem), f RE (n + 1) a1 a2 a3 μ = bd (p_X4_isWell μ) (fun r19 μ18 => (if r19 = (0 : Int32) then p_X4_readCall_b97 RE a1 a3 μ18 else bd (p_X4_here μ18) (fun r22 μ21 => (if r22 = (44 : Int32) then (if (5 : Int32) ≤ a3 then p_X4_readCall_b97 RE a1 a3 μ21 else bv (sF μ21 16 2 ((μ21.1 16 2) + (1 : Int32))) (fun μ25 => bw (RE (a2 + (1 : Int32)) μ25) (fun μ26 => bv (a3 + 1) (fun v28 => f RE n a1 a2 v28 μ26)))) else p_X4_readCall_b97 RE a1 a3 μ21))))) := ⟨fun (RE : Int32 → Mem → Option Mem) n => Nat.rec (fun (a1 : Int32) (a2 : Int32) (a3 : Int32) (μ : Mem) => none) (fun _ ih => fun (a1 : Int32) (a2 : Int32) (a3 : Int32) (μ : Mem) => bd (p_X4_isWell μ) (fun r19 μ18 => (if r19 = (0 : Int32) then p_X4_readCall_b97 RE a1 a3 μ18 else bd (p_X4_here μ18) (fun r22 μ21 => (if r22 = (44 : Int32) then (if (5 : Int32) ≤ a3 then p_X4_readCall_b97 RE a1 a3 μ21 else bv (sF μ21 16 2 ((μ21.1 16 2) + (1 : Int32))) (fun μ25 => bw (RE (a2 + (1 : Int32)) μ25) (fun μ26 => bv (a3 + 1) (fun v28 => ih a1 a2 v28 μ26)))) else p_X4_readCall_b97 RE a1 a3 μ21))))) n, fun _ _ _ _ _ => rfl, fun _ _ _ _ _ _ => rfl⟩
noncomputable def p_X4_readCall_b53 : (Int32 → Mem → Option Mem) → Nat → Int32 → Int32 → Int32 → Mem → Option Mem := Classical.choose p_X4_readCall_b53_ex
theorem p_X4_readCall_b53_z (RE : Int32 → Mem → Option Mem) (a1 : Int32) (a2 : Int32) (a3 : Int32) (μ : Mem) : p_X4_readCall_b53 RE 0 a1 a2 a3 μ = none := (Classical.choose_spec p_X4_readCall_b53_ex).1 RE a1 a2 a3 μ
theorem p_X4_readCall_b53_s (RE : Int32 → Mem → Option Mem) (n : Nat) (a1 : Int32) (a2 : Int32) (a3 : Int32) (μ : Mem) : p_X4_readCall_b53 RE (n + 1) a1 a2 a3 μ = bd (p_X4_isWell μ) (fun r19 μ18 => (if r19 = (0 : Int32) then p_X4_readCall_b97 RE a1 a3 μ18 else bd (p_X4_here μ18) (fun r22 μ21 => (if r22 = (44 : Int32) then (if (5 : Int32) ≤ a3 then p_X4_readCall_b97 RE a1 a3 μ21 else bv (sF μ21 16 2 ((μ21.1 16 2) + (1 : Int32))) (fun μ25 => bw (RE (a2 + (1 : Int32)) μ25) (fun μ26 => bv (a3 + 1) (fun v28 => p_X4_readCall_b53 RE n a1 a2 v28 μ26)))) else p_X4_readCall_b97 RE a1 a3 μ21)))) := (Classical.choose_spec p_X4_readCall_b53_ex).2 RE n a1 a2 a3 μ
set_option maxHeartbeats 4000000 in
set_option maxRecDepth 100000 in
theorem t_X4_readCall_b53 (l : Launch) (G : Gt) (ad : Nat → Nat) (av : List Value) {μz : Mem} {fE lE : Nat} (RE : Int32 → Mem → Option Mem) (hRE : ∀ (z1 : Int32) (μ1 : Mem) (μ2 : Mem), RE z1 μ1 = some μ2 → Mt l yX4_readExpression cX4_readExpression 5 none ({ frames := fE, cells := 0, slots := 0, locals := lE } : Room) G [.ref (ad 16), .int z1] (wd 0 G ad μ1) (eV 0 G ad μ2)) : ∀ (n : Nat) (a1 : Int32) (a2 : Int32) (a3 : Int32) (μ : Mem), p_X4_readCall_b53 RE n a1 a2 a3 μ = some μz → Bk l cX4_readCall 4 RX4 none ({ frames := fE + 2, cells := 0, slots := 0, locals := lE + 42 } : Room) G av (eV 0 G ad μz) (wd 0 G ad μ) 53 [(0, .ref (ad 16)), (1, .int a1), (2, .int a2), (3, .int a3)] [] := by
  intro n
  induction n with
  | zero => intro a1 a2 a3 μ h; rw [p_X4_readCall_b53_z] at h; cases h
  | succ n ih =>
    intro a1 a2 a3 μ h p e s m below meth c A ls H locs cx hr hlk hA hl hw
    have hx := cx.1
    have hb := cx.2.1
    rw [p_X4_readCall_b53_s] at h
    refine lv_aload_n hx hb dX4_readCall_53 rfl (lv_at hl 0 rfl) ?_
    obtain ⟨r19, μ18, gr19, h⟩ := bd_some h
    refine g_callVI (As := []) (rest := []) cx hw hA (t_X4_isWell l G ad μ gr19) shx_16 rfl ml_X4_43 im_X4_isWell se_X4_isWell in_X4 co_X4_isWell rfl hd_X4_isWell rfl ⟨(by dsimp only; omega), (by dsimp only; omega)⟩ hl.1 rfl (Nat.le_of_ble_eq_true rfl) dX4_readCall_54 ⟨rfl, rfl⟩ (fun H locs hw => ?_)
    refine lv_if_eq (tgt := 97) hx hb dX4_readCall_57 (by decide) (fun c20 => ?_) (fun c20 => ?_)
    · rw [if_pos c20] at h
      exact t_X4_readCall_b97 l G ad av RE hRE a1 a3 μ18 h p e s m below meth c A ls H locs cx hr hlk hA (lv_sub hl [0, 1, 3] rfl) hw
    · rw [if_neg c20] at h
      refine lv_aload_n hx hb dX4_readCall_60 rfl (lv_at hl 0 rfl) ?_
      obtain ⟨r22, μ21, gr22, h⟩ := bd_some h
      refine g_callVI (As := []) (rest := []) cx hw hA (t_X4_here l G ad μ18 gr22) shx_16 rfl ml_X4_47 im_X4_here se_X4_here in_X4 co_X4_here rfl hd_X4_here rfl ⟨(by dsimp only; omega), (by dsimp only; omega)⟩ hl.1 rfl (Nat.le_of_ble_eq_true rfl) dX4_readCall_61 ⟨rfl, rfl⟩ (fun H locs hw => ?_)
      refine lv_bipush (v := 44) hx hb dX4_readCall_64 (by decide) ?_
      refine lv_icmp_ne (tgt := 97) hx hb dX4_readCall_66 (by decide) (fun c23 => ?_) (fun c23 => ?_)
      · rw [if_neg c23] at h
        exact t_X4_readCall_b97 l G ad av RE hRE a1 a3 μ21 h p e s m below meth c A ls H locs cx hr hlk hA (lv_sub hl [0, 1, 3] rfl) hw
      · rw [if_pos c23] at h
        refine lv_iload_n hx hb dX4_readCall_69 rfl (lv_at hl 3 rfl) ?_
        refine lv_iconst (v := 5) hx hb dX4_readCall_70 (by decide) ?_
        refine lv_icmp_ge (tgt := 97) hx hb dX4_readCall_71 (by decide) (fun c24 => ?_) (fun c24 => ?_)
        · rw [if_pos c24] at h
          exact t_X4_readCall_b97 l G ad av RE hRE a1 a3 μ21 h p e s m below meth c A ls H locs cx hr hlk hA (lv_sub hl [0, 1, 3] rfl) hw
        · rw [if_neg c24] at h
          refine lv_aload_n hx hb dX4_readCall_74 rfl (lv_at hl 0 rfl) ?_
          refine lv_dup hx hb dX4_readCall_75 rfl ?_
          refine g_get cx hw inX4 (ci := 3) rfl 2 (by decide) rfl (v := .int (μ21.1 16 2)) shx_16 rfl fl_X4_19 dX4_readCall_76 ?_
          refine lv_iconst (v := 1) hx hb dX4_readCall_79 (by decide) ?_
          refine lv_iadd hx hb dX4_readCall_80 ?_
          refine g_put cx hw inX4 (ci := 3) rfl tyX4_ok nmX4 2 (by decide) rfl rfl rfl rfl shx_16 h fl_X4_19 dX4_readCall_81 (fun μ25 H locs h hw => ?_)
          refine lv_aload_n hx hb dX4_readCall_84 rfl (lv_at hl 0 rfl) ?_
          refine lv_iload_n hx hb dX4_readCall_85 rfl (lv_at hl 2 rfl) ?_
          refine lv_iconst (v := 1) hx hb dX4_readCall_86 (by decide) ?_
          refine lv_iadd hx hb dX4_readCall_87 ?_
          obtain ⟨μ26, gμ26, h⟩ := bw_some h
          refine g_callVV (As := [.int (a2 + (1 : Int32))]) (rest := []) cx hw hA (hRE (a2 + (1 : Int32)) μ25 _ gμ26) shx_16 rfl ml_X4_83 im_X4_readExpression se_X4_readExpression in_X4 co_X4_readExpression rfl hd_X4_readExpression rfl ⟨(by dsimp only; omega), (by dsimp only; omega)⟩ hl.1 rfl (Nat.le_of_ble_eq_true rfl) dX4_readCall_88 ⟨rfl, rfl⟩ (fun H locs hw => ?_)
          obtain ⟨v28, ev28, h⟩ := bv_ex h
          refine lv_iinc (v := v28) (lv' := [(3, .int v28), (0, .ref (ad 16)), (1, .int a1), (2, .int a2)]) hx hb dX4_readCall_91 hl (k := 3) rfl (by rw [ev28]; rfl) (by decide) rfl (fun ls hl => ?_)
          refine lv_goto (tgt := 53) hx hb dX4_readCall_94 (by decide) ?_
          exact ih a1 a2 v28 μ26 h p e s m below meth c A ls H locs cx hr hlk hA (lv_sub hl [1, 2, 3, 0] rfl) hw
theorem p_X4_readCall_ex : ∃ f : (Int32 → Mem → Option Mem) → Int32 → Int32 → Mem → Option Mem, ∀ (RE : Int32 → Mem → Option Mem) (a1 : Int32) (a2 : Int32) (μ : Mem), f  RE a1 a2 μ = bv (sF μ 16 2 ((μ.1 16 2) + (1 : Int32))) (fun μ1 => bd (p_X3_count (sel 2 (μ1.2.2 16 4)) (3 : Int32) μ1) (fun r3 μ2 => bd (p_X4_take (40 : Int32) μ2) (fun r5 μ4 => bd (p_X4_isWell μ4) (fun r7 μ6 => (if r7 = (0 : Int32) then p_X4_readCall_b97 RE a1 (0 : Int32) μ6 else bd (p_X4_here μ6) (fun r14 μ13 => (if r14 = (41 : Int32) then p_X4_readCall_b97 RE a1 (0 : Int32) μ13 else bw (RE (a2 + (1 : Int32)) μ13) (fun μ16 => p_X4_readCall_b53 RE FUEL a1 a2 (1 : Int32) μ16)))))))) := ⟨fun (RE : Int32 → Mem → Option Mem) (a1 : Int32) (a2 : Int32) (μ : Mem) => bv (sF μ 16 2 ((μ.1 16 2) + (1 : Int32))) (fun μ1 => bd (p_X3_count (sel 2 (μ1.2.2 16 4)) (3 : Int32) μ1) (fun r3 μ2 => bd (p_X4_take (40 : Int32) μ2) (fun r5 μ4 => bd (p_X4_isWell μ4) (fun r7 μ6 => (if r7 = (0 : Int32) then p_X4_readCall_b97 RE a1 (0 : Int32) μ6 else bd (p_X4_here μ6) (fun r14 μ13 => (if r14 = (41 : Int32) then p_X4_readCall_b97 RE a1 (0 : Int32) μ13 else bw (RE (a2 + (1 : Int32)) μ13) (fun μ16 => p_X4_readCall_b53 RE FUEL a1 a2 (1 : Int32) μ16)))))))), fun _ _ _ _ => rfl⟩
noncomputable def p_X4_readCall : (Int32 → Mem → Option Mem) → Int32 → Int32 → Mem → Option Mem := Classical.choose p_X4_readCall_ex
theorem p_X4_readCall_eq (RE : Int32 → Mem → Option Mem) (a1 : Int32) (a2 : Int32) (μ : Mem) : p_X4_readCall  RE a1 a2 μ = bv (sF μ 16 2 ((μ.1 16 2) + (1 : Int32))) (fun μ1 => bd (p_X3_count (sel 2 (μ1.2.2 16 4)) (3 : Int32) μ1) (fun r3 μ2 => bd (p_X4_take (40 : Int32) μ2) (fun r5 μ4 => bd (p_X4_isWell μ4) (fun r7 μ6 => (if r7 = (0 : Int32) then p_X4_readCall_b97 RE a1 (0 : Int32) μ6 else bd (p_X4_here μ6) (fun r14 μ13 => (if r14 = (41 : Int32) then p_X4_readCall_b97 RE a1 (0 : Int32) μ13 else bw (RE (a2 + (1 : Int32)) μ13) (fun μ16 => p_X4_readCall_b53 RE FUEL a1 a2 (1 : Int32) μ16)))))))) := Classical.choose_spec p_X4_readCall_ex  RE a1 a2 μ
set_option maxHeartbeats 4000000 in
set_option maxRecDepth 100000 in
theorem t_X4_readCall (l : Launch) (G : Gt) (ad : Nat → Nat) {fE lE : Nat} (RE : Int32 → Mem → Option Mem) (hRE : ∀ (z1 : Int32) (μ1 : Mem) (μ2 : Mem), RE z1 μ1 = some μ2 → Mt l yX4_readExpression cX4_readExpression 5 none ({ frames := fE, cells := 0, slots := 0, locals := lE } : Room) G [.ref (ad 16), .int z1] (wd 0 G ad μ1) (eV 0 G ad μ2)) (a1 : Int32) (a2 : Int32) (μ : Mem) {μz : Mem} (h : p_X4_readCall RE a1 a2 μ = some μz) : Mt l yX4_readCall cX4_readCall 4 none ({ frames := fE + 2, cells := 0, slots := 0, locals := lE + 42 } : Room) G [.ref (ad 16), .int a1, .int a2] (wd 0 G ad μ) (eV 0 G ad μz) := by
  refine Bk.mt (by decide) rfl (Nat.le_of_ble_eq_true rfl) ?_
  intro p e s m below meth c A ls H locs cx hr hlk hA hl hw
  have hx := cx.1
  have hb := cx.2.1
  have hl : lv_has ls 4 [(0, .ref (ad 16)), (1, .int a1), (2, .int a2)] := hl
  rw [p_X4_readCall_eq] at h
  refine lv_aload_n hx hb dX4_readCall_0 rfl (lv_at hl 0 rfl) ?_
  refine lv_dup hx hb dX4_readCall_1 rfl ?_
  refine g_get cx hw inX4 (ci := 3) rfl 2 (by decide) rfl (v := .int (μ.1 16 2)) shx_16 rfl fl_X4_19 dX4_readCall_2 ?_
  refine lv_iconst (v := 1) hx hb dX4_readCall_5 (by decide) ?_
  refine lv_iadd hx hb dX4_readCall_6 ?_
  refine g_put cx hw inX4 (ci := 3) rfl tyX4_ok nmX4 2 (by decide) rfl rfl rfl rfl shx_16 h fl_X4_19 dX4_readCall_7 (fun μ1 H locs h hw => ?_)
  refine lv_aload_n hx hb dX4_readCall_10 rfl (lv_at hl 0 rfl) ?_
  refine g_get cx hw inX4 (ci := 3) rfl 4 (by decide) rfl (v := .ref (ad (sel 2 (μ1.2.2 16 4)))) shx_16 rfl fl_X4_25 dX4_readCall_11 ?_
  refine lv_iconst (v := 3) hx hb dX4_readCall_14 (by decide) ?_
  obtain ⟨r3, μ2, gr3, h⟩ := bd_some h
  refine g_callVI (As := [.int 3]) (rest := []) cx hw hA (t_X3_count l G ad (sel 2 (μ1.2.2 16 4)) (sel_2 _) (3 : Int32) μ1 gr3) (sel_2 _) rfl ml_X4_104 im_X3_count se_X3_count in_X3 co_X3_count rfl hd_X3_count rfl ⟨(by dsimp only; omega), (by dsimp only; omega)⟩ hl.1 rfl (Nat.le_of_ble_eq_true rfl) dX4_readCall_15 ⟨rfl, rfl⟩ (fun H locs hw => ?_)
  refine lv_pop hx hb dX4_readCall_18 rfl ?_
  refine lv_aload_n hx hb dX4_readCall_19 rfl (lv_at hl 0 rfl) ?_
  refine lv_bipush (v := 40) hx hb dX4_readCall_20 (by decide) ?_
  obtain ⟨r5, μ4, gr5, h⟩ := bd_some h
  refine g_callVI (As := [.int 40]) (rest := []) cx hw hA (t_X4_take l G ad (40 : Int32) μ2 gr5) shx_16 rfl ml_X4_70 im_X4_take se_X4_take in_X4 co_X4_take rfl hd_X4_take rfl ⟨(by dsimp only; omega), (by dsimp only; omega)⟩ hl.1 rfl (Nat.le_of_ble_eq_true rfl) dX4_readCall_22 ⟨rfl, rfl⟩ (fun H locs hw => ?_)
  refine lv_pop hx hb dX4_readCall_25 rfl ?_
  refine lv_iconst (v := 0) hx hb dX4_readCall_26 (by decide) ?_
  refine lv_istore_n (lv' := [(3, .int 0), (0, .ref (ad 16)), (1, .int a1), (2, .int a2)]) hx hb dX4_readCall_27 rfl hl (by decide) rfl (fun ls hl => ?_)
  refine lv_aload_n hx hb dX4_readCall_28 rfl (lv_at hl 1 rfl) ?_
  obtain ⟨r7, μ6, gr7, h⟩ := bd_some h
  refine g_callVI (As := []) (rest := []) cx hw hA (t_X4_isWell l G ad μ4 gr7) shx_16 rfl ml_X4_43 im_X4_isWell se_X4_isWell in_X4 co_X4_isWell rfl hd_X4_isWell rfl ⟨(by dsimp only; omega), (by dsimp only; omega)⟩ hl.1 rfl (Nat.le_of_ble_eq_true rfl) dX4_readCall_29 ⟨rfl, rfl⟩ (fun H locs hw => ?_)
  refine lv_if_eq (tgt := 97) hx hb dX4_readCall_32 (by decide) (fun c8 => ?_) (fun c8 => ?_)
  · rw [if_pos c8] at h
    exact t_X4_readCall_b97 l G ad _ RE hRE a1 (0 : Int32) μ6 h p e s m below meth c A ls H locs cx hr hlk hA (lv_sub hl [1, 2, 0] rfl) hw
  · rw [if_neg c8] at h
    refine lv_aload_n hx hb dX4_readCall_35 rfl (lv_at hl 1 rfl) ?_
    obtain ⟨r14, μ13, gr14, h⟩ := bd_some h
    refine g_callVI (As := []) (rest := []) cx hw hA (t_X4_here l G ad μ6 gr14) shx_16 rfl ml_X4_47 im_X4_here se_X4_here in_X4 co_X4_here rfl hd_X4_here rfl ⟨(by dsimp only; omega), (by dsimp only; omega)⟩ hl.1 rfl (Nat.le_of_ble_eq_true rfl) dX4_readCall_36 ⟨rfl, rfl⟩ (fun H locs hw => ?_)
    refine lv_bipush (v := 41) hx hb dX4_readCall_39 (by decide) ?_
    refine lv_icmp_eq (tgt := 97) hx hb dX4_readCall_41 (by decide) (fun c15 => ?_) (fun c15 => ?_)
    · rw [if_pos c15] at h
      exact t_X4_readCall_b97 l G ad _ RE hRE a1 (0 : Int32) μ13 h p e s m below meth c A ls H locs cx hr hlk hA (lv_sub hl [1, 2, 0] rfl) hw
    · rw [if_neg c15] at h
      refine lv_aload_n hx hb dX4_readCall_44 rfl (lv_at hl 1 rfl) ?_
      refine lv_iload_n hx hb dX4_readCall_45 rfl (lv_at hl 3 rfl) ?_
      refine lv_iconst (v := 1) hx hb dX4_readCall_46 (by decide) ?_
      refine lv_iadd hx hb dX4_readCall_47 ?_
      obtain ⟨μ16, gμ16, h⟩ := bw_some h
      refine g_callVV (As := [.int (a2 + (1 : Int32))]) (rest := []) cx hw hA (hRE (a2 + (1 : Int32)) μ13 _ gμ16) shx_16 rfl ml_X4_83 im_X4_readExpression se_X4_readExpression in_X4 co_X4_readExpression rfl hd_X4_readExpression rfl ⟨(by dsimp only; omega), (by dsimp only; omega)⟩ hl.1 rfl (Nat.le_of_ble_eq_true rfl) dX4_readCall_48 ⟨rfl, rfl⟩ (fun H locs hw => ?_)
      refine lv_iconst (v := 1) hx hb dX4_readCall_51 (by decide) ?_
      refine lv_istore_n (lv' := [(3, .int 1), (0, .ref (ad 16)), (1, .int a1), (2, .int a2)]) hx hb dX4_readCall_52 rfl hl (by decide) rfl (fun ls hl => ?_)
      exact t_X4_readCall_b53 l G ad _ RE hRE FUEL a1 a2 (1 : Int32) μ16 h p e s m below meth c A ls H locs cx hr hlk hA (lv_sub hl [1, 2, 3, 0] rfl) hw

theorem s_X0_isSign_ex : ∃ f : Int32 → Int32, ∀ (a0 : Int32), f a0 = (if a0 = (43 : Int32) then (1 : Int32) else (if a0 = (45 : Int32) then (1 : Int32) else (if a0 = (42 : Int32) then (1 : Int32) else (if a0 = (47 : Int32) then (1 : Int32) else (if a0 = (37 : Int32) then (1 : Int32) else (if a0 = (60 : Int32) then (1 : Int32) else (if a0 = (61 : Int32) then (1 : Int32) else (0 : Int32)))))))) := ⟨fun (a0 : Int32) => (if a0 = (43 : Int32) then (1 : Int32) else (if a0 = (45 : Int32) then (1 : Int32) else (if a0 = (42 : Int32) then (1 : Int32) else (if a0 = (47 : Int32) then (1 : Int32) else (if a0 = (37 : Int32) then (1 : Int32) else (if a0 = (60 : Int32) then (1 : Int32) else (if a0 = (61 : Int32) then (1 : Int32) else (0 : Int32)))))))), fun _ => rfl⟩
noncomputable def s_X0_isSign : Int32 → Int32 := Classical.choose s_X0_isSign_ex
theorem s_X0_isSign_eq (a0 : Int32) : s_X0_isSign a0 = (if a0 = (43 : Int32) then (1 : Int32) else (if a0 = (45 : Int32) then (1 : Int32) else (if a0 = (42 : Int32) then (1 : Int32) else (if a0 = (47 : Int32) then (1 : Int32) else (if a0 = (37 : Int32) then (1 : Int32) else (if a0 = (60 : Int32) then (1 : Int32) else (if a0 = (61 : Int32) then (1 : Int32) else (0 : Int32)))))))) := Classical.choose_spec s_X0_isSign_ex a0
set_option maxHeartbeats 4000000 in
set_option maxRecDepth 100000 in
theorem t_X0_isSign (l : Launch) (G : Gt) (a0 : Int32) : Mt l yX0_isSign cX0_isSign 1 (some .boolean) ({ frames := 0, cells := 0, slots := 0, locals := 0 } : Room) G [.int a0] [] (sI G (s_X0_isSign a0)) := by
  obtain ⟨r, h⟩ : ∃ r, s_X0_isSign a0 = r := ⟨_, rfl⟩
  rw [h]
  refine Bk.mt (by decide) rfl (Nat.le_of_ble_eq_true rfl) ?_
  intro p e s m below meth c A ls H locs cx hr hlk hA hl hw
  have hx := cx.1
  have hb := cx.2.1
  have hl : lv_has ls 1 [(0, .int a0)] := hl
  rw [s_X0_isSign_eq] at h
  refine lv_iload_n hx hb dX0_isSign_0 rfl (lv_at hl 0 rfl) ?_
  refine lv_bipush (v := 43) hx hb dX0_isSign_1 (by decide) ?_
  refine lv_icmp_eq (tgt := 42) hx hb dX0_isSign_3 (by decide) (fun c1 => ?_) (fun c1 => ?_)
  · rw [if_pos c1] at h
    refine lv_iconst (v := 1) hx hb dX0_isSign_42 (by decide) ?_
    refine lv_goto (tgt := 47) hx hb dX0_isSign_43 (by decide) ?_
    exact s_zret cx hr hlk rfl hw h dX0_isSign_47
  · rw [if_neg c1] at h
    refine lv_iload_n hx hb dX0_isSign_6 rfl (lv_at hl 0 rfl) ?_
    refine lv_bipush (v := 45) hx hb dX0_isSign_7 (by decide) ?_
    refine lv_icmp_eq (tgt := 42) hx hb dX0_isSign_9 (by decide) (fun c2 => ?_) (fun c2 => ?_)
    · rw [if_pos c2] at h
      refine lv_iconst (v := 1) hx hb dX0_isSign_42 (by decide) ?_
      refine lv_goto (tgt := 47) hx hb dX0_isSign_43 (by decide) ?_
      exact s_zret cx hr hlk rfl hw h dX0_isSign_47
    · rw [if_neg c2] at h
      refine lv_iload_n hx hb dX0_isSign_12 rfl (lv_at hl 0 rfl) ?_
      refine lv_bipush (v := 42) hx hb dX0_isSign_13 (by decide) ?_
      refine lv_icmp_eq (tgt := 42) hx hb dX0_isSign_15 (by decide) (fun c3 => ?_) (fun c3 => ?_)
      · rw [if_pos c3] at h
        refine lv_iconst (v := 1) hx hb dX0_isSign_42 (by decide) ?_
        refine lv_goto (tgt := 47) hx hb dX0_isSign_43 (by decide) ?_
        exact s_zret cx hr hlk rfl hw h dX0_isSign_47
      · rw [if_neg c3] at h
        refine lv_iload_n hx hb dX0_isSign_18 rfl (lv_at hl 0 rfl) ?_
        refine lv_bipush (v := 47) hx hb dX0_isSign_19 (by decide) ?_
        refine lv_icmp_eq (tgt := 42) hx hb dX0_isSign_21 (by decide) (fun c4 => ?_) (fun c4 => ?_)
        · rw [if_pos c4] at h
          refine lv_iconst (v := 1) hx hb dX0_isSign_42 (by decide) ?_
          refine lv_goto (tgt := 47) hx hb dX0_isSign_43 (by decide) ?_
          exact s_zret cx hr hlk rfl hw h dX0_isSign_47
        · rw [if_neg c4] at h
          refine lv_iload_n hx hb dX0_isSign_24 rfl (lv_at hl 0 rfl) ?_
          refine lv_bipush (v := 37) hx hb dX0_isSign_25 (by decide) ?_
          refine lv_icmp_eq (tgt := 42) hx hb dX0_isSign_27 (by decide) (fun c5 => ?_) (fun c5 => ?_)
          · rw [if_pos c5] at h
            refine lv_iconst (v := 1) hx hb dX0_isSign_42 (by decide) ?_
            refine lv_goto (tgt := 47) hx hb dX0_isSign_43 (by decide) ?_
            exact s_zret cx hr hlk rfl hw h dX0_isSign_47
          · rw [if_neg c5] at h
            refine lv_iload_n hx hb dX0_isSign_30 rfl (lv_at hl 0 rfl) ?_
            refine lv_bipush (v := 60) hx hb dX0_isSign_31 (by decide) ?_
            refine lv_icmp_eq (tgt := 42) hx hb dX0_isSign_33 (by decide) (fun c6 => ?_) (fun c6 => ?_)
            · rw [if_pos c6] at h
              refine lv_iconst (v := 1) hx hb dX0_isSign_42 (by decide) ?_
              refine lv_goto (tgt := 47) hx hb dX0_isSign_43 (by decide) ?_
              exact s_zret cx hr hlk rfl hw h dX0_isSign_47
            · rw [if_neg c6] at h
              refine lv_iload_n hx hb dX0_isSign_36 rfl (lv_at hl 0 rfl) ?_
              refine lv_bipush (v := 61) hx hb dX0_isSign_37 (by decide) ?_
              refine lv_icmp_ne (tgt := 46) hx hb dX0_isSign_39 (by decide) (fun c7 => ?_) (fun c7 => ?_)
              · rw [if_neg c7] at h
                refine lv_iconst (v := 0) hx hb dX0_isSign_46 (by decide) ?_
                exact s_zret cx hr hlk rfl hw h dX0_isSign_47
              · rw [if_pos c7] at h
                refine lv_iconst (v := 1) hx hb dX0_isSign_42 (by decide) ?_
                refine lv_goto (tgt := 47) hx hb dX0_isSign_43 (by decide) ?_
                exact s_zret cx hr hlk rfl hw h dX0_isSign_47

theorem p_X4_readReckoned_ex : ∃ f : (Int32 → Mem → Option Mem) → Int32 → Mem → Option Mem, ∀ (RE : Int32 → Mem → Option Mem) (a1 : Int32) (μ : Mem), f  RE a1 μ = bw (RE (a1 + (1 : Int32)) μ) (fun μ1 => bd (p_X4_isWell μ1) (fun r4 μ3 => (if r4 = (0 : Int32) then some μ3 else bd (p_X4_here μ3) (fun r7 μ6 => (if (s_X0_isSign r7) = (0 : Int32) then bw (p_X4_fail (μ6.1 16 2) μ6) (fun μ16 => some μ16) else bv (sF μ6 16 2 ((μ6.1 16 2) + (1 : Int32))) (fun μ9 => bw (RE (a1 + (1 : Int32)) μ9) (fun μ10 => bd (p_X4_take (41 : Int32) μ10) (fun r13 μ12 => bd (p_X3_add (sel 2 (μ12.2.2 16 4)) (2 : Int32) r7 (0 : Int32) μ12) (fun r15 μ14 => some μ14))))))))) := ⟨fun (RE : Int32 → Mem → Option Mem) (a1 : Int32) (μ : Mem) => bw (RE (a1 + (1 : Int32)) μ) (fun μ1 => bd (p_X4_isWell μ1) (fun r4 μ3 => (if r4 = (0 : Int32) then some μ3 else bd (p_X4_here μ3) (fun r7 μ6 => (if (s_X0_isSign r7) = (0 : Int32) then bw (p_X4_fail (μ6.1 16 2) μ6) (fun μ16 => some μ16) else bv (sF μ6 16 2 ((μ6.1 16 2) + (1 : Int32))) (fun μ9 => bw (RE (a1 + (1 : Int32)) μ9) (fun μ10 => bd (p_X4_take (41 : Int32) μ10) (fun r13 μ12 => bd (p_X3_add (sel 2 (μ12.2.2 16 4)) (2 : Int32) r7 (0 : Int32) μ12) (fun r15 μ14 => some μ14))))))))), fun _ _ _ => rfl⟩
noncomputable def p_X4_readReckoned : (Int32 → Mem → Option Mem) → Int32 → Mem → Option Mem := Classical.choose p_X4_readReckoned_ex
theorem p_X4_readReckoned_eq (RE : Int32 → Mem → Option Mem) (a1 : Int32) (μ : Mem) : p_X4_readReckoned  RE a1 μ = bw (RE (a1 + (1 : Int32)) μ) (fun μ1 => bd (p_X4_isWell μ1) (fun r4 μ3 => (if r4 = (0 : Int32) then some μ3 else bd (p_X4_here μ3) (fun r7 μ6 => (if (s_X0_isSign r7) = (0 : Int32) then bw (p_X4_fail (μ6.1 16 2) μ6) (fun μ16 => some μ16) else bv (sF μ6 16 2 ((μ6.1 16 2) + (1 : Int32))) (fun μ9 => bw (RE (a1 + (1 : Int32)) μ9) (fun μ10 => bd (p_X4_take (41 : Int32) μ10) (fun r13 μ12 => bd (p_X3_add (sel 2 (μ12.2.2 16 4)) (2 : Int32) r7 (0 : Int32) μ12) (fun r15 μ14 => some μ14))))))))) := Classical.choose_spec p_X4_readReckoned_ex  RE a1 μ
set_option maxHeartbeats 4000000 in
set_option maxRecDepth 100000 in
theorem t_X4_readReckoned (l : Launch) (G : Gt) (ad : Nat → Nat) {fE lE : Nat} (RE : Int32 → Mem → Option Mem) (hRE : ∀ (z1 : Int32) (μ1 : Mem) (μ2 : Mem), RE z1 μ1 = some μ2 → Mt l yX4_readExpression cX4_readExpression 5 none ({ frames := fE, cells := 0, slots := 0, locals := lE } : Room) G [.ref (ad 16), .int z1] (wd 0 G ad μ1) (eV 0 G ad μ2)) (a1 : Int32) (μ : Mem) {μz : Mem} (h : p_X4_readReckoned RE a1 μ = some μz) : Mt l yX4_readReckoned cX4_readReckoned 3 none ({ frames := fE + 2, cells := 0, slots := 0, locals := lE + 42 } : Room) G [.ref (ad 16), .int a1] (wd 0 G ad μ) (eV 0 G ad μz) := by
  refine Bk.mt (by decide) rfl (Nat.le_of_ble_eq_true rfl) ?_
  intro p e s m below meth c A ls H locs cx hr hlk hA hl hw
  have hx := cx.1
  have hb := cx.2.1
  have hl : lv_has ls 3 [(0, .ref (ad 16)), (1, .int a1)] := hl
  rw [p_X4_readReckoned_eq] at h
  refine lv_aload_n hx hb dX4_readReckoned_0 rfl (lv_at hl 0 rfl) ?_
  refine lv_iload_n hx hb dX4_readReckoned_1 rfl (lv_at hl 1 rfl) ?_
  refine lv_iconst (v := 1) hx hb dX4_readReckoned_2 (by decide) ?_
  refine lv_iadd hx hb dX4_readReckoned_3 ?_
  obtain ⟨μ1, gμ1, h⟩ := bw_some h
  refine g_callVV (As := [.int (a1 + (1 : Int32))]) (rest := []) cx hw hA (hRE (a1 + (1 : Int32)) μ _ gμ1) shx_16 rfl ml_X4_83 im_X4_readExpression se_X4_readExpression in_X4 co_X4_readExpression rfl hd_X4_readExpression rfl ⟨(by dsimp only; omega), (by dsimp only; omega)⟩ hl.1 rfl (Nat.le_of_ble_eq_true rfl) dX4_readReckoned_4 ⟨rfl, rfl⟩ (fun H locs hw => ?_)
  refine lv_aload_n hx hb dX4_readReckoned_7 rfl (lv_at hl 0 rfl) ?_
  obtain ⟨r4, μ3, gr4, h⟩ := bd_some h
  refine g_callVI (As := []) (rest := []) cx hw hA (t_X4_isWell l G ad μ1 gr4) shx_16 rfl ml_X4_43 im_X4_isWell se_X4_isWell in_X4 co_X4_isWell rfl hd_X4_isWell rfl ⟨(by dsimp only; omega), (by dsimp only; omega)⟩ hl.1 rfl (Nat.le_of_ble_eq_true rfl) dX4_readReckoned_8 ⟨rfl, rfl⟩ (fun H locs hw => ?_)
  refine lv_if_ne (tgt := 15) hx hb dX4_readReckoned_11 (by decide) (fun c5 => ?_) (fun c5 => ?_)
  · rw [if_neg c5] at h
    refine lv_aload_n hx hb dX4_readReckoned_15 rfl (lv_at hl 0 rfl) ?_
    obtain ⟨r7, μ6, gr7, h⟩ := bd_some h
    refine g_callVI (As := []) (rest := []) cx hw hA (t_X4_here l G ad μ3 gr7) shx_16 rfl ml_X4_47 im_X4_here se_X4_here in_X4 co_X4_here rfl hd_X4_here rfl ⟨(by dsimp only; omega), (by dsimp only; omega)⟩ hl.1 rfl (Nat.le_of_ble_eq_true rfl) dX4_readReckoned_16 ⟨rfl, rfl⟩ (fun H locs hw => ?_)
    refine lv_istore_n (lv' := [(2, .int r7), (0, .ref (ad 16)), (1, .int a1)]) hx hb dX4_readReckoned_19 rfl hl (by decide) rfl (fun ls hl => ?_)
    refine lv_iload_n hx hb dX4_readReckoned_20 rfl (lv_at hl 0 rfl) ?_
    refine s_callI (As := [.int r7]) (rest := []) cx hw hA (t_X0_isSign l G r7) ml_X4_161 st_X0_isSign in_X0 co_X0_isSign hd_X0_isSign rfl ⟨(by dsimp only; omega), (by dsimp only; omega)⟩ hl.1 rfl (Nat.le_of_ble_eq_true rfl) dX4_readReckoned_21 rfl (fun H locs hw => ?_)
    refine lv_if_ne (tgt := 36) hx hb dX4_readReckoned_24 (by decide) (fun c8 => ?_) (fun c8 => ?_)
    · rw [if_neg c8] at h
      refine lv_aload_n hx hb dX4_readReckoned_36 rfl (lv_at hl 1 rfl) ?_
      refine lv_dup hx hb dX4_readReckoned_37 rfl ?_
      refine g_get cx hw inX4 (ci := 3) rfl 2 (by decide) rfl (v := .int (μ6.1 16 2)) shx_16 rfl fl_X4_19 dX4_readReckoned_38 ?_
      refine lv_iconst (v := 1) hx hb dX4_readReckoned_41 (by decide) ?_
      refine lv_iadd hx hb dX4_readReckoned_42 ?_
      refine g_put cx hw inX4 (ci := 3) rfl tyX4_ok nmX4 2 (by decide) rfl rfl rfl rfl shx_16 h fl_X4_19 dX4_readReckoned_43 (fun μ9 H locs h hw => ?_)
      refine lv_aload_n hx hb dX4_readReckoned_46 rfl (lv_at hl 1 rfl) ?_
      refine lv_iload_n hx hb dX4_readReckoned_47 rfl (lv_at hl 2 rfl) ?_
      refine lv_iconst (v := 1) hx hb dX4_readReckoned_48 (by decide) ?_
      refine lv_iadd hx hb dX4_readReckoned_49 ?_
      obtain ⟨μ10, gμ10, h⟩ := bw_some h
      refine g_callVV (As := [.int (a1 + (1 : Int32))]) (rest := []) cx hw hA (hRE (a1 + (1 : Int32)) μ9 _ gμ10) shx_16 rfl ml_X4_83 im_X4_readExpression se_X4_readExpression in_X4 co_X4_readExpression rfl hd_X4_readExpression rfl ⟨(by dsimp only; omega), (by dsimp only; omega)⟩ hl.1 rfl (Nat.le_of_ble_eq_true rfl) dX4_readReckoned_50 ⟨rfl, rfl⟩ (fun H locs hw => ?_)
      refine lv_aload_n hx hb dX4_readReckoned_53 rfl (lv_at hl 1 rfl) ?_
      refine lv_bipush (v := 41) hx hb dX4_readReckoned_54 (by decide) ?_
      obtain ⟨r13, μ12, gr13, h⟩ := bd_some h
      refine g_callVI (As := [.int 41]) (rest := []) cx hw hA (t_X4_take l G ad (41 : Int32) μ10 gr13) shx_16 rfl ml_X4_70 im_X4_take se_X4_take in_X4 co_X4_take rfl hd_X4_take rfl ⟨(by dsimp only; omega), (by dsimp only; omega)⟩ hl.1 rfl (Nat.le_of_ble_eq_true rfl) dX4_readReckoned_56 ⟨rfl, rfl⟩ (fun H locs hw => ?_)
      refine lv_pop hx hb dX4_readReckoned_59 rfl ?_
      refine lv_aload_n hx hb dX4_readReckoned_60 rfl (lv_at hl 1 rfl) ?_
      refine g_get cx hw inX4 (ci := 3) rfl 4 (by decide) rfl (v := .ref (ad (sel 2 (μ12.2.2 16 4)))) shx_16 rfl fl_X4_25 dX4_readReckoned_61 ?_
      refine lv_iconst (v := 2) hx hb dX4_readReckoned_64 (by decide) ?_
      refine lv_iload_n hx hb dX4_readReckoned_65 rfl (lv_at hl 0 rfl) ?_
      refine lv_iconst (v := 0) hx hb dX4_readReckoned_66 (by decide) ?_
      obtain ⟨r15, μ14, gr15, h⟩ := bd_some h
      refine g_callVI (As := [.int 2, .int r7, .int 0]) (rest := []) cx hw hA (t_X3_add l G ad (sel 2 (μ12.2.2 16 4)) (sel_2 _) (2 : Int32) r7 (0 : Int32) μ12 gr15) (sel_2 _) rfl ml_X4_86 im_X3_add se_X3_add in_X3 co_X3_add rfl hd_X3_add rfl ⟨(by dsimp only; omega), (by dsimp only; omega)⟩ hl.1 rfl (Nat.le_of_ble_eq_true rfl) dX4_readReckoned_67 ⟨rfl, rfl⟩ (fun H locs hw => ?_)
      refine lv_pop hx hb dX4_readReckoned_70 rfl ?_
      exact g_vret cx hr hlk hw h dX4_readReckoned_71
    · rw [if_pos c8] at h
      refine lv_aload_n hx hb dX4_readReckoned_27 rfl (lv_at hl 1 rfl) ?_
      refine lv_aload_n hx hb dX4_readReckoned_28 rfl (lv_at hl 1 rfl) ?_
      refine g_get cx hw inX4 (ci := 3) rfl 2 (by decide) rfl (v := .int (μ6.1 16 2)) shx_16 rfl fl_X4_19 dX4_readReckoned_29 ?_
      obtain ⟨μ16, gμ16, h⟩ := bw_some h
      refine g_callVV (As := [.int (μ6.1 16 2)]) (rest := []) cx hw hA (t_X4_fail l G ad (μ6.1 16 2) μ6 gμ16) shx_16 rfl ml_X4_51 im_X4_fail se_X4_fail in_X4 co_X4_fail rfl hd_X4_fail rfl ⟨(by dsimp only; omega), (by dsimp only; omega)⟩ hl.1 rfl (Nat.le_of_ble_eq_true rfl) dX4_readReckoned_32 ⟨rfl, rfl⟩ (fun H locs hw => ?_)
      exact g_vret cx hr hlk hw h dX4_readReckoned_35
  · rw [if_pos c5] at h
    exact g_vret cx hr hlk hw h dX4_readReckoned_14

theorem p_X4_readTwo_ex : ∃ f : (Int32 → Mem → Option Mem) → Int32 → Int32 → Mem → Option Mem, ∀ (RE : Int32 → Mem → Option Mem) (a1 : Int32) (a2 : Int32) (μ : Mem), f  RE a1 a2 μ = bw (RE (a1 + (1 : Int32)) μ) (fun μ1 => bd (p_X4_take (44 : Int32) μ1) (fun r4 μ3 => bw (RE (a1 + (1 : Int32)) μ3) (fun μ5 => bd (p_X4_take a2 μ5) (fun r8 μ7 => some μ7)))) := ⟨fun (RE : Int32 → Mem → Option Mem) (a1 : Int32) (a2 : Int32) (μ : Mem) => bw (RE (a1 + (1 : Int32)) μ) (fun μ1 => bd (p_X4_take (44 : Int32) μ1) (fun r4 μ3 => bw (RE (a1 + (1 : Int32)) μ3) (fun μ5 => bd (p_X4_take a2 μ5) (fun r8 μ7 => some μ7)))), fun _ _ _ _ => rfl⟩
noncomputable def p_X4_readTwo : (Int32 → Mem → Option Mem) → Int32 → Int32 → Mem → Option Mem := Classical.choose p_X4_readTwo_ex
theorem p_X4_readTwo_eq (RE : Int32 → Mem → Option Mem) (a1 : Int32) (a2 : Int32) (μ : Mem) : p_X4_readTwo  RE a1 a2 μ = bw (RE (a1 + (1 : Int32)) μ) (fun μ1 => bd (p_X4_take (44 : Int32) μ1) (fun r4 μ3 => bw (RE (a1 + (1 : Int32)) μ3) (fun μ5 => bd (p_X4_take a2 μ5) (fun r8 μ7 => some μ7)))) := Classical.choose_spec p_X4_readTwo_ex  RE a1 a2 μ
set_option maxHeartbeats 4000000 in
set_option maxRecDepth 100000 in
theorem t_X4_readTwo (l : Launch) (G : Gt) (ad : Nat → Nat) {fE lE : Nat} (RE : Int32 → Mem → Option Mem) (hRE : ∀ (z1 : Int32) (μ1 : Mem) (μ2 : Mem), RE z1 μ1 = some μ2 → Mt l yX4_readExpression cX4_readExpression 5 none ({ frames := fE, cells := 0, slots := 0, locals := lE } : Room) G [.ref (ad 16), .int z1] (wd 0 G ad μ1) (eV 0 G ad μ2)) (a1 : Int32) (a2 : Int32) (μ : Mem) {μz : Mem} (h : p_X4_readTwo RE a1 a2 μ = some μz) : Mt l yX4_readTwo cX4_readTwo 3 none ({ frames := fE + 2, cells := 0, slots := 0, locals := lE + 42 } : Room) G [.ref (ad 16), .int a1, .int a2] (wd 0 G ad μ) (eV 0 G ad μz) := by
  refine Bk.mt (by decide) rfl (Nat.le_of_ble_eq_true rfl) ?_
  intro p e s m below meth c A ls H locs cx hr hlk hA hl hw
  have hx := cx.1
  have hb := cx.2.1
  have hl : lv_has ls 3 [(0, .ref (ad 16)), (1, .int a1), (2, .int a2)] := hl
  rw [p_X4_readTwo_eq] at h
  refine lv_aload_n hx hb dX4_readTwo_0 rfl (lv_at hl 0 rfl) ?_
  refine lv_iload_n hx hb dX4_readTwo_1 rfl (lv_at hl 1 rfl) ?_
  refine lv_iconst (v := 1) hx hb dX4_readTwo_2 (by decide) ?_
  refine lv_iadd hx hb dX4_readTwo_3 ?_
  obtain ⟨μ1, gμ1, h⟩ := bw_some h
  refine g_callVV (As := [.int (a1 + (1 : Int32))]) (rest := []) cx hw hA (hRE (a1 + (1 : Int32)) μ _ gμ1) shx_16 rfl ml_X4_83 im_X4_readExpression se_X4_readExpression in_X4 co_X4_readExpression rfl hd_X4_readExpression rfl ⟨(by dsimp only; omega), (by dsimp only; omega)⟩ hl.1 rfl (Nat.le_of_ble_eq_true rfl) dX4_readTwo_4 ⟨rfl, rfl⟩ (fun H locs hw => ?_)
  refine lv_aload_n hx hb dX4_readTwo_7 rfl (lv_at hl 0 rfl) ?_
  refine lv_bipush (v := 44) hx hb dX4_readTwo_8 (by decide) ?_
  obtain ⟨r4, μ3, gr4, h⟩ := bd_some h
  refine g_callVI (As := [.int 44]) (rest := []) cx hw hA (t_X4_take l G ad (44 : Int32) μ1 gr4) shx_16 rfl ml_X4_70 im_X4_take se_X4_take in_X4 co_X4_take rfl hd_X4_take rfl ⟨(by dsimp only; omega), (by dsimp only; omega)⟩ hl.1 rfl (Nat.le_of_ble_eq_true rfl) dX4_readTwo_10 ⟨rfl, rfl⟩ (fun H locs hw => ?_)
  refine lv_pop hx hb dX4_readTwo_13 rfl ?_
  refine lv_aload_n hx hb dX4_readTwo_14 rfl (lv_at hl 0 rfl) ?_
  refine lv_iload_n hx hb dX4_readTwo_15 rfl (lv_at hl 1 rfl) ?_
  refine lv_iconst (v := 1) hx hb dX4_readTwo_16 (by decide) ?_
  refine lv_iadd hx hb dX4_readTwo_17 ?_
  obtain ⟨μ5, gμ5, h⟩ := bw_some h
  refine g_callVV (As := [.int (a1 + (1 : Int32))]) (rest := []) cx hw hA (hRE (a1 + (1 : Int32)) μ3 _ gμ5) shx_16 rfl ml_X4_83 im_X4_readExpression se_X4_readExpression in_X4 co_X4_readExpression rfl hd_X4_readExpression rfl ⟨(by dsimp only; omega), (by dsimp only; omega)⟩ hl.1 rfl (Nat.le_of_ble_eq_true rfl) dX4_readTwo_18 ⟨rfl, rfl⟩ (fun H locs hw => ?_)
  refine lv_aload_n hx hb dX4_readTwo_21 rfl (lv_at hl 0 rfl) ?_
  refine lv_iload_n hx hb dX4_readTwo_22 rfl (lv_at hl 2 rfl) ?_
  obtain ⟨r8, μ7, gr8, h⟩ := bd_some h
  refine g_callVI (As := [.int a2]) (rest := []) cx hw hA (t_X4_take l G ad a2 μ5 gr8) shx_16 rfl ml_X4_70 im_X4_take se_X4_take in_X4 co_X4_take rfl hd_X4_take rfl ⟨(by dsimp only; omega), (by dsimp only; omega)⟩ hl.1 rfl (Nat.le_of_ble_eq_true rfl) dX4_readTwo_23 ⟨rfl, rfl⟩ (fun H locs hw => ?_)
  refine lv_pop hx hb dX4_readTwo_26 rfl ?_
  exact g_vret cx hr hlk hw h dX4_readTwo_27

theorem p_X3_leadHere_ex : ∃ f : Nat → Int32 → Mem → Option Mem, ∀ (a0 : Nat) (a1 : Int32) (μ : Mem), f a0 a1 μ = (if a1 < (0 : Int32) then some μ else (if (2472 : Int32) ≤ a1 then some μ else gd (inb a1 2472) (bv (sF μ (a0 + 5) a1.toNatClampNeg (μ.1 a0 2)) (fun μ3 => some μ3)))) := ⟨fun (a0 : Nat) (a1 : Int32) (μ : Mem) => (if a1 < (0 : Int32) then some μ else (if (2472 : Int32) ≤ a1 then some μ else gd (inb a1 2472) (bv (sF μ (a0 + 5) a1.toNatClampNeg (μ.1 a0 2)) (fun μ3 => some μ3)))), fun _ _ _ => rfl⟩
noncomputable def p_X3_leadHere : Nat → Int32 → Mem → Option Mem := Classical.choose p_X3_leadHere_ex
theorem p_X3_leadHere_eq (a0 : Nat) (a1 : Int32) (μ : Mem) : p_X3_leadHere a0 a1 μ = (if a1 < (0 : Int32) then some μ else (if (2472 : Int32) ≤ a1 then some μ else gd (inb a1 2472) (bv (sF μ (a0 + 5) a1.toNatClampNeg (μ.1 a0 2)) (fun μ3 => some μ3)))) := Classical.choose_spec p_X3_leadHere_ex a0 a1 μ
set_option maxHeartbeats 4000000 in
set_option maxRecDepth 100000 in
theorem t_X3_leadHere (l : Launch) (G : Gt) (ad : Nat → Nat) (a0 : Nat) (q0 : sh 0 a0 = (0, 2)) (a1 : Int32) (μ : Mem) {μz : Mem} (h : p_X3_leadHere a0 a1 μ = some μz) : Mt l yX3_leadHere cX3_leadHere 2 none ({ frames := 0, cells := 0, slots := 0, locals := 0 } : Room) G [.ref (ad a0), .int a1] (wd 0 G ad μ) (eV 0 G ad μz) := by
  refine Bk.mt (by decide) rfl (Nat.le_of_ble_eq_true rfl) ?_
  intro p e s m below meth c A ls H locs cx hr hlk hA hl hw
  have hx := cx.1
  have hb := cx.2.1
  have hl : lv_has ls 2 [(0, .ref (ad a0)), (1, .int a1)] := hl
  rw [p_X3_leadHere_eq] at h
  refine lv_iload_n hx hb dX3_leadHere_0 rfl (lv_at hl 1 rfl) ?_
  refine lv_if_lt (tgt := 21) hx hb dX3_leadHere_1 (by decide) (fun c1 => ?_) (fun c1 => ?_)
  · rw [if_pos c1] at h
    exact g_vret cx hr hlk hw h dX3_leadHere_21
  · rw [if_neg c1] at h
    refine lv_iload_n hx hb dX3_leadHere_4 rfl (lv_at hl 1 rfl) ?_
    refine lv_sipush (v := 2472) hx hb dX3_leadHere_5 (by decide) ?_
    refine lv_icmp_ge (tgt := 21) hx hb dX3_leadHere_8 (by decide) (fun c2 => ?_) (fun c2 => ?_)
    · rw [if_pos c2] at h
      exact g_vret cx hr hlk hw h dX3_leadHere_21
    · rw [if_neg c2] at h
      refine lv_aload_n hx hb dX3_leadHere_11 rfl (lv_at hl 0 rfl) ?_
      refine g_get cx hw inX3 (ci := 2) rfl 7 (by decide) rfl (v := .ref (ad (a0 + 5))) q0 rfl fl_X3_24 dX3_leadHere_12 ?_
      refine lv_iload_n hx hb dX3_leadHere_15 rfl (lv_at hl 1 rfl) ?_
      refine lv_aload_n hx hb dX3_leadHere_16 rfl (lv_at hl 0 rfl) ?_
      refine g_get cx hw inX3 (ci := 2) rfl 2 (by decide) rfl (v := .int (μ.1 a0 2)) q0 rfl fl_X3_37 dX3_leadHere_17 ?_
      refine g_iast cx hw (rl_X3_7 q0) h dX3_leadHere_20 (fun μ3 H locs h hw => ?_)
      exact g_vret cx hr hlk hw h dX3_leadHere_21
