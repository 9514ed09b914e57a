section Join
variable {p : Program} {l : Launch} {e : Env} {R : Room} {s : State} {m : MethodId} {args : Array Value} {below : List Frame} {meth : Method} {c : Code} {H : Heap} {locs : List Loc} {cells slots : Nat} {Q : State → Prop} {pc pcJ nL : Nat} {ls : Array Slot} {rest : List Value}
theorem jn1 {α : Type} {E : α} {lv : α → List (Nat × Value)} {sk : α → List Value} (k : (∀ (j : α) (ls' : Array Slot), j = E → lv_has ls' nL (lv j) → W p l e R s m args below meth c H locs cells slots Q (F0 m pcJ ls' (sk j))) → W p l e R s m args below meth c H locs cells slots Q (F0 m pc ls rest)) (K : ∀ (j : α) (ls' : Array Slot), j = E → lv_has ls' nL (lv j) → W p l e R s m args below meth c H locs cells slots Q (F0 m pcJ ls' (sk j))) : W p l e R s m args below meth c H locs cells slots Q (F0 m pc ls rest) := k K
theorem jn2 {α β : Type} {E1 : α} {E2 : β} {lv : α → β → List (Nat × Value)} {sk : α → β → List Value} (k : (∀ (j : α) (j2 : β) (ls' : Array Slot), j = E1 → j2 = E2 → lv_has ls' nL (lv j j2) → W p l e R s m args below meth c H locs cells slots Q (F0 m pcJ ls' (sk j j2))) → W p l e R s m args below meth c H locs cells slots Q (F0 m pc ls rest)) (K : ∀ (j : α) (j2 : β) (ls' : Array Slot), j = E1 → j2 = E2 → lv_has ls' nL (lv j j2) → W p l e R s m args below meth c H locs cells slots Q (F0 m pcJ ls' (sk j j2))) : W p l e R s m args below meth c H locs cells slots Q (F0 m pc ls rest) := k K
end Join

def x_isNan (x : Int32) : Int32 := (if (x &&& (2147483647 : Int32)) ≤ (2139095040 : Int32) then (0) else (1))
set_option maxHeartbeats 4000000 in
set_option maxRecDepth 100000 in
theorem f_isNan (l : Launch) (G : Gt) (x : Int32) : Mt l yX0_isNan cX0_isNan 1 (some .boolean) ({ frames := 0, cells := 0, slots := 0, locals := 0 } : Room) G [.int x] [] (qI G (fun (r : Int32) (w : Unit) => r = x_isNan x) (fun w => [])) := by
  refine Mt.of (own := RX0) (cc := cX0_isNan) (by decide) rfl (Nat.le_of_ble_eq_true rfl) ?_
  intro p e s m below meth c A ls cx hr hlk hmn hA hl hw
  have hx := cx.1
  have hb := cx.2.1
  have hl : lv_has ls 1 [(0, .int x)] := hl
  refine lv_iload_n hx hb dX0_isNan_0 rfl (lv_at hl 0 rfl) ?_
  refine lv_ldc hx hb cx.2.2.2.1 (cx.2.2.2.2.1 _ cs_X0_58) dX0_isNan_1 ?_
  refine lv_iand hx hb dX0_isNan_3 ?_
  refine lv_topi (fun v1 ev1 => ?_)
  refine lv_ldc hx hb cx.2.2.2.1 (cx.2.2.2.2.1 _ cs_X0_71) dX0_isNan_4 ?_
  refine lv_icmp_le (tgt := 13) hx hb dX0_isNan_6 (by decide) (fun c2 => ?_) (fun c2 => ?_)
  · refine lv_iconst (v := 0) hx hb dX0_isNan_13 (by decide) ?_
    have hw : Wd G A [] s.heap _ _ := hw.sub [] rfl rfl
    exact r_zret cx hr rfl hlk () (by subst_vars; unfold x_isNan; rw [if_pos c2]) hw (Nat.le_of_ble_eq_true rfl) (Nat.le_of_ble_eq_true rfl) dX0_isNan_14
  · refine lv_iconst (v := 1) hx hb dX0_isNan_9 (by decide) ?_
    refine lv_goto (tgt := 14) hx hb dX0_isNan_10 (by decide) ?_
    have hw : Wd G A [] s.heap _ _ := hw.sub [] rfl rfl
    exact r_zret cx hr rfl hlk () (by subst_vars; unfold x_isNan; rw [if_neg c2]) hw (Nat.le_of_ble_eq_true rfl) (Nat.le_of_ble_eq_true rfl) dX0_isNan_14

def x_ordered (x : Int32) : Int32 := (if (0 : Int32) ≤ x then (x) else ((-(x &&& (2147483647 : Int32)))))
set_option maxHeartbeats 4000000 in
set_option maxRecDepth 100000 in
theorem f_ordered (l : Launch) (G : Gt) (x : Int32) : Mt l yX0_ordered cX0_ordered 1 (some .int) ({ frames := 0, cells := 0, slots := 0, locals := 0 } : Room) G [.int x] [] (qI G (fun (r : Int32) (w : Unit) => r = x_ordered x) (fun w => [])) := by
  refine Mt.of (own := RX0) (cc := cX0_ordered) (by decide) rfl (Nat.le_of_ble_eq_true rfl) ?_
  intro p e s m below meth c A ls cx hr hlk hmn hA hl hw
  have hx := cx.1
  have hb := cx.2.1
  have hl : lv_has ls 1 [(0, .int x)] := hl
  refine lv_iload_n hx hb dX0_ordered_0 rfl (lv_at hl 0 rfl) ?_
  refine lv_if_ge (tgt := 12) hx hb dX0_ordered_1 (by decide) (fun c1 => ?_) (fun c1 => ?_)
  · refine lv_iload_n hx hb dX0_ordered_12 rfl (lv_at hl 0 rfl) ?_
    have hw : Wd G A [] s.heap _ _ := hw.sub [] rfl rfl
    exact r_iret cx hr hlk () (by subst_vars; unfold x_ordered; rw [if_pos c1]) hw (Nat.le_of_ble_eq_true rfl) (Nat.le_of_ble_eq_true rfl) dX0_ordered_13
  · refine lv_iload_n hx hb dX0_ordered_4 rfl (lv_at hl 0 rfl) ?_
    refine lv_ldc hx hb cx.2.2.2.1 (cx.2.2.2.2.1 _ cs_X0_58) dX0_ordered_5 ?_
    refine lv_iand hx hb dX0_ordered_7 ?_
    refine lv_topi (fun v2 ev2 => ?_)
    refine lv_ineg hx hb dX0_ordered_8 ?_
    refine lv_topi (fun v3 ev3 => ?_)
    refine lv_goto (tgt := 13) hx hb dX0_ordered_9 (by decide) ?_
    have hw : Wd G A [] s.heap _ _ := hw.sub [] rfl rfl
    exact r_iret cx hr hlk () (by subst_vars; unfold x_ordered; rw [if_neg c1]) hw (Nat.le_of_ble_eq_true rfl) (Nat.le_of_ble_eq_true rfl) dX0_ordered_13

def x_wholeOf (x : Int32) : Int64 := (if (x &&& (2139095040 : Int32)) = (0 : Int32) then ((x &&& (8388607 : Int32)).toInt64) else (((x &&& (8388607 : Int32)) ||| (8388608 : Int32)).toInt64))
set_option maxHeartbeats 4000000 in
set_option maxRecDepth 100000 in
theorem f_wholeOf (l : Launch) (G : Gt) (x : Int32) : Mt l yX0_wholeOf cX0_wholeOf 2 (some .long) ({ frames := 0, cells := 0, slots := 0, locals := 0 } : Room) G [.int x] [] (qL G (fun (r : Int64) (w : Unit) => r = x_wholeOf x) (fun w => [])) := by
  refine Mt.of (own := RX0) (cc := cX0_wholeOf) (by decide) rfl (Nat.le_of_ble_eq_true rfl) ?_
  intro p e s m below meth c A ls cx hr hlk hmn hA hl hw
  have hx := cx.1
  have hb := cx.2.1
  have hl : lv_has ls 2 [(0, .int x)] := hl
  refine lv_iload_n hx hb dX0_wholeOf_0 rfl (lv_at hl 0 rfl) ?_
  refine lv_ldc hx hb cx.2.2.2.1 (cx.2.2.2.2.1 _ cs_X0_75) dX0_wholeOf_1 ?_
  refine lv_iand hx hb dX0_wholeOf_3 ?_
  refine lv_topi (fun v1 ev1 => ?_)
  refine lv_istore_n (lv' := [(1, .int v1), (0, .int x)]) hx hb dX0_wholeOf_4 rfl hl (by decide) rfl (fun ls hl => ?_)
  refine lv_iload_n hx hb dX0_wholeOf_5 rfl (lv_at hl 1 rfl) ?_
  refine lv_ldc hx hb cx.2.2.2.1 (cx.2.2.2.2.1 _ cs_X0_71) dX0_wholeOf_6 ?_
  refine lv_iand hx hb dX0_wholeOf_8 ?_
  refine lv_topi (fun v2 ev2 => ?_)
  refine lv_if_ne (tgt := 17) hx hb dX0_wholeOf_9 (by decide) (fun c3 => ?_) (fun c3 => ?_)
  · refine lv_iload_n hx hb dX0_wholeOf_17 rfl (lv_at hl 0 rfl) ?_
    refine lv_ldc hx hb cx.2.2.2.1 (cx.2.2.2.2.1 _ cs_X0_76) dX0_wholeOf_18 ?_
    refine lv_ior hx hb dX0_wholeOf_20 ?_
    refine lv_topi (fun v4 ev4 => ?_)
    refine lv_i2l hx hb dX0_wholeOf_21 rfl ?_
    refine lv_topl (fun v5 ev5 => ?_)
    have hw : Wd G A [] s.heap _ _ := hw.sub [] rfl rfl
    exact r_lret cx hr hlk () (by subst_vars; unfold x_wholeOf; rw [if_neg c3]) hw (Nat.le_of_ble_eq_true rfl) (Nat.le_of_ble_eq_true rfl) dX0_wholeOf_22
  · refine lv_iload_n hx hb dX0_wholeOf_12 rfl (lv_at hl 0 rfl) ?_
    refine lv_i2l hx hb dX0_wholeOf_13 rfl ?_
    refine lv_topl (fun v6 ev6 => ?_)
    refine lv_goto (tgt := 22) hx hb dX0_wholeOf_14 (by decide) ?_
    have hw : Wd G A [] s.heap _ _ := hw.sub [] rfl rfl
    exact r_lret cx hr hlk () (by subst_vars; unfold x_wholeOf; rw [if_pos c3]) hw (Nat.le_of_ble_eq_true rfl) (Nat.le_of_ble_eq_true rfl) dX0_wholeOf_22

def x_lastBitOf (x : Int32) : Int32 := (if ((x &&& (2139095040 : Int32)).toUInt32 >>> ((23 : Int32).toUInt32 &&& Int32.toUInt32 31)).toInt32 = (0 : Int32) then (-149) else ((((x &&& (2139095040 : Int32)).toUInt32 >>> ((23 : Int32).toUInt32 &&& Int32.toUInt32 31)).toInt32 - (150 : Int32))))
set_option maxHeartbeats 4000000 in
set_option maxRecDepth 100000 in
theorem f_lastBitOf (l : Launch) (G : Gt) (x : Int32) : Mt l yX0_lastBitOf cX0_lastBitOf 2 (some .int) ({ frames := 0, cells := 0, slots := 0, locals := 0 } : Room) G [.int x] [] (qI G (fun (r : Int32) (w : Unit) => r = x_lastBitOf x) (fun w => [])) := by
  refine Mt.of (own := RX0) (cc := cX0_lastBitOf) (by decide) rfl (Nat.le_of_ble_eq_true rfl) ?_
  intro p e s m below meth c A ls cx hr hlk hmn hA hl hw
  have hx := cx.1
  have hb := cx.2.1
  have hl : lv_has ls 2 [(0, .int x)] := hl
  refine lv_iload_n hx hb dX0_lastBitOf_0 rfl (lv_at hl 0 rfl) ?_
  refine lv_ldc hx hb cx.2.2.2.1 (cx.2.2.2.2.1 _ cs_X0_71) dX0_lastBitOf_1 ?_
  refine lv_iand hx hb dX0_lastBitOf_3 ?_
  refine lv_topi (fun v1 ev1 => ?_)
  refine lv_bipush (v := 23) hx hb dX0_lastBitOf_4 (by decide) ?_
  refine lv_iushr hx hb dX0_lastBitOf_6 rfl ?_
  refine lv_topi (fun v2 ev2 => ?_)
  refine lv_istore_n (lv' := [(1, .int v2), (0, .int x)]) hx hb dX0_lastBitOf_7 rfl hl (by decide) rfl (fun ls hl => ?_)
  refine lv_iload_n hx hb dX0_lastBitOf_8 rfl (lv_at hl 0 rfl) ?_
  refine lv_if_ne (tgt := 16) hx hb dX0_lastBitOf_9 (by decide) (fun c3 => ?_) (fun c3 => ?_)
  · refine lv_iload_n hx hb dX0_lastBitOf_16 rfl (lv_at hl 0 rfl) ?_
    refine lv_sipush (v := 150) hx hb dX0_lastBitOf_17 (by decide) ?_
    refine lv_isub hx hb dX0_lastBitOf_20 ?_
    refine lv_topi (fun v4 ev4 => ?_)
    have hw : Wd G A [] s.heap _ _ := hw.sub [] rfl rfl
    exact r_iret cx hr hlk () (by subst_vars; unfold x_lastBitOf; rw [if_neg c3]) hw (Nat.le_of_ble_eq_true rfl) (Nat.le_of_ble_eq_true rfl) dX0_lastBitOf_21
  · refine lv_iconst (v := 1) hx hb dX0_lastBitOf_12 (by decide) ?_
    refine lv_goto (tgt := 17) hx hb dX0_lastBitOf_13 (by decide) ?_
    refine lv_sipush (v := 150) hx hb dX0_lastBitOf_17 (by decide) ?_
    refine lv_isub hx hb dX0_lastBitOf_20 ?_
    refine r_topi (v := (-149)) (by decide +kernel) ?_
    have hw : Wd G A [] s.heap _ _ := hw.sub [] rfl rfl
    exact r_iret cx hr hlk () (by subst_vars; unfold x_lastBitOf; rw [if_pos c3]) hw (Nat.le_of_ble_eq_true rfl) (Nat.le_of_ble_eq_true rfl) dX0_lastBitOf_21

def x_isBelow (x : Int32) (y : Int32) : Int32 := (if (x_isNan x) = (0 : Int32) then (if (x_isNan y) = (0 : Int32) then (if (x_ordered y) ≤ (x_ordered x) then (0) else (1)) else (0)) else (0))
set_option maxHeartbeats 4000000 in
set_option maxRecDepth 100000 in
theorem f_isBelow (l : Launch) (G : Gt) (x : Int32) (y : Int32) : Mt l yX0_isBelow cX0_isBelow 2 (some .boolean) ({ frames := 1, cells := 0, slots := 0, locals := 20 } : Room) G [.int x, .int y] [] (qI G (fun (r : Int32) (w : Unit) => r = x_isBelow x y) (fun w => [])) := by
  refine Mt.of (own := RX0) (cc := cX0_isBelow) (by decide) rfl (Nat.le_of_ble_eq_true rfl) ?_
  intro p e s m below meth c A ls cx hr hlk hmn hA hl hw
  have hx := cx.1
  have hb := cx.2.1
  have hl : lv_has ls 2 [(0, .int x), (1, .int y)] := hl
  refine lv_iload_n hx hb dX0_isBelow_0 rfl (lv_at hl 0 rfl) ?_
  refine r_callS0I (As := [.int x]) (rest := []) cx hw hA (f_isNan l G x) ml_X0_36 st_X0_isNan in_X0 co_X0_isNan hd_X0_isNan rfl ⟨Nat.le_of_ble_eq_true rfl, Nat.le_of_ble_eq_true rfl⟩ hl.1 rfl (Nat.le_of_ble_eq_true rfl) dX0_isBelow_1 ⟨Nat.le_of_ble_eq_true rfl, Nat.le_of_ble_eq_true rfl⟩ (fun r2 H locs hr2 hw => ?_)
  refine lv_if_ne (tgt := 29) hx hb dX0_isBelow_4 (by decide) (fun c3 => ?_) (fun c3 => ?_)
  · refine lv_iconst (v := 0) hx hb dX0_isBelow_29 (by decide) ?_
    have hw : Wd G A [] s.heap _ _ := hw.sub [] rfl rfl
    exact r_zret cx hr rfl hlk () (by subst_vars; unfold x_isBelow; rw [if_neg c3]) hw (Nat.le_of_ble_eq_true rfl) (Nat.le_of_ble_eq_true rfl) dX0_isBelow_30
  · refine lv_iload_n hx hb dX0_isBelow_7 rfl (lv_at hl 1 rfl) ?_
    refine r_callS0I (As := [.int y]) (rest := []) cx hw hA (f_isNan l G y) ml_X0_36 st_X0_isNan in_X0 co_X0_isNan hd_X0_isNan rfl ⟨Nat.le_of_ble_eq_true rfl, Nat.le_of_ble_eq_true rfl⟩ hl.1 rfl (Nat.le_of_ble_eq_true rfl) dX0_isBelow_8 ⟨Nat.le_of_ble_eq_true rfl, Nat.le_of_ble_eq_true rfl⟩ (fun r5 H locs hr5 hw => ?_)
    refine lv_if_ne (tgt := 29) hx hb dX0_isBelow_11 (by decide) (fun c6 => ?_) (fun c6 => ?_)
    · refine lv_iconst (v := 0) hx hb dX0_isBelow_29 (by decide) ?_
      have hw : Wd G A [] s.heap _ _ := hw.sub [] rfl rfl
      exact r_zret cx hr rfl hlk () (by subst_vars; unfold x_isBelow; rw [if_pos c3, if_neg c6]) hw (Nat.le_of_ble_eq_true rfl) (Nat.le_of_ble_eq_true rfl) dX0_isBelow_30
    · refine lv_iload_n hx hb dX0_isBelow_14 rfl (lv_at hl 0 rfl) ?_
      refine r_callS0I (As := [.int x]) (rest := []) cx hw hA (f_ordered l G x) ml_X0_72 st_X0_ordered in_X0 co_X0_ordered hd_X0_ordered rfl ⟨Nat.le_of_ble_eq_true rfl, Nat.le_of_ble_eq_true rfl⟩ hl.1 rfl (Nat.le_of_ble_eq_true rfl) dX0_isBelow_15 ⟨Nat.le_of_ble_eq_true rfl, Nat.le_of_ble_eq_true rfl⟩ (fun r8 H locs hr8 hw => ?_)
      refine lv_iload_n hx hb dX0_isBelow_18 rfl (lv_at hl 1 rfl) ?_
      refine r_callS0I (As := [.int y]) (rest := [.int r8]) cx hw hA (f_ordered l G y) ml_X0_72 st_X0_ordered in_X0 co_X0_ordered hd_X0_ordered rfl ⟨Nat.le_of_ble_eq_true rfl, Nat.le_of_ble_eq_true rfl⟩ hl.1 rfl (Nat.le_of_ble_eq_true rfl) dX0_isBelow_19 ⟨Nat.le_of_ble_eq_true rfl, Nat.le_of_ble_eq_true rfl⟩ (fun r10 H locs hr10 hw => ?_)
      refine lv_icmp_ge (tgt := 29) hx hb dX0_isBelow_22 (by decide) (fun c11 => ?_) (fun c11 => ?_)
      · refine lv_iconst (v := 0) hx hb dX0_isBelow_29 (by decide) ?_
        have hw : Wd G A [] s.heap _ _ := hw.sub [] rfl rfl
        exact r_zret cx hr rfl hlk () (by subst_vars; unfold x_isBelow; rw [if_pos c3, if_pos c6, if_pos c11]) hw (Nat.le_of_ble_eq_true rfl) (Nat.le_of_ble_eq_true rfl) dX0_isBelow_30
      · refine lv_iconst (v := 1) hx hb dX0_isBelow_25 (by decide) ?_
        refine lv_goto (tgt := 30) hx hb dX0_isBelow_26 (by decide) ?_
        have hw : Wd G A [] s.heap _ _ := hw.sub [] rfl rfl
        exact r_zret cx hr rfl hlk () (by subst_vars; unfold x_isBelow; rw [if_pos c3, if_pos c6, if_neg c11]) hw (Nat.le_of_ble_eq_true rfl) (Nat.le_of_ble_eq_true rfl) dX0_isBelow_30

def x_isEqual (x : Int32) (y : Int32) : Int32 := (if (x_isNan x) = (0 : Int32) then (if (x_isNan y) = (0 : Int32) then (if (x_ordered x) = (x_ordered y) then (1) else (0)) else (0)) else (0))
set_option maxHeartbeats 4000000 in
set_option maxRecDepth 100000 in
theorem f_isEqual (l : Launch) (G : Gt) (x : Int32) (y : Int32) : Mt l yX0_isEqual cX0_isEqual 2 (some .boolean) ({ frames := 1, cells := 0, slots := 0, locals := 20 } : Room) G [.int x, .int y] [] (qI G (fun (r : Int32) (w : Unit) => r = x_isEqual x y) (fun w => [])) := by
  refine Mt.of (own := RX0) (cc := cX0_isEqual) (by decide) rfl (Nat.le_of_ble_eq_true rfl) ?_
  intro p e s m below meth c A ls cx hr hlk hmn hA hl hw
  have hx := cx.1
  have hb := cx.2.1
  have hl : lv_has ls 2 [(0, .int x), (1, .int y)] := hl
  refine lv_iload_n hx hb dX0_isEqual_0 rfl (lv_at hl 0 rfl) ?_
  refine r_callS0I (As := [.int x]) (rest := []) cx hw hA (f_isNan l G x) ml_X0_36 st_X0_isNan in_X0 co_X0_isNan hd_X0_isNan rfl ⟨Nat.le_of_ble_eq_true rfl, Nat.le_of_ble_eq_true rfl⟩ hl.1 rfl (Nat.le_of_ble_eq_true rfl) dX0_isEqual_1 ⟨Nat.le_of_ble_eq_true rfl, Nat.le_of_ble_eq_true rfl⟩ (fun r2 H locs hr2 hw => ?_)
  refine lv_if_ne (tgt := 29) hx hb dX0_isEqual_4 (by decide) (fun c3 => ?_) (fun c3 => ?_)
  · refine lv_iconst (v := 0) hx hb dX0_isEqual_29 (by decide) ?_
    have hw : Wd G A [] s.heap _ _ := hw.sub [] rfl rfl
    exact r_zret cx hr rfl hlk () (by subst_vars; unfold x_isEqual; rw [if_neg c3]) hw (Nat.le_of_ble_eq_true rfl) (Nat.le_of_ble_eq_true rfl) dX0_isEqual_30
  · refine lv_iload_n hx hb dX0_isEqual_7 rfl (lv_at hl 1 rfl) ?_
    refine r_callS0I (As := [.int y]) (rest := []) cx hw hA (f_isNan l G y) ml_X0_36 st_X0_isNan in_X0 co_X0_isNan hd_X0_isNan rfl ⟨Nat.le_of_ble_eq_true rfl, Nat.le_of_ble_eq_true rfl⟩ hl.1 rfl (Nat.le_of_ble_eq_true rfl) dX0_isEqual_8 ⟨Nat.le_of_ble_eq_true rfl, Nat.le_of_ble_eq_true rfl⟩ (fun r5 H locs hr5 hw => ?_)
    refine lv_if_ne (tgt := 29) hx hb dX0_isEqual_11 (by decide) (fun c6 => ?_) (fun c6 => ?_)
    · refine lv_iconst (v := 0) hx hb dX0_isEqual_29 (by decide) ?_
      have hw : Wd G A [] s.heap _ _ := hw.sub [] rfl rfl
      exact r_zret cx hr rfl hlk () (by subst_vars; unfold x_isEqual; rw [if_pos c3, if_neg c6]) hw (Nat.le_of_ble_eq_true rfl) (Nat.le_of_ble_eq_true rfl) dX0_isEqual_30
    · refine lv_iload_n hx hb dX0_isEqual_14 rfl (lv_at hl 0 rfl) ?_
      refine r_callS0I (As := [.int x]) (rest := []) cx hw hA (f_ordered l G x) ml_X0_72 st_X0_ordered in_X0 co_X0_ordered hd_X0_ordered rfl ⟨Nat.le_of_ble_eq_true rfl, Nat.le_of_ble_eq_true rfl⟩ hl.1 rfl (Nat.le_of_ble_eq_true rfl) dX0_isEqual_15 ⟨Nat.le_of_ble_eq_true rfl, Nat.le_of_ble_eq_true rfl⟩ (fun r8 H locs hr8 hw => ?_)
      refine lv_iload_n hx hb dX0_isEqual_18 rfl (lv_at hl 1 rfl) ?_
      refine r_callS0I (As := [.int y]) (rest := [.int r8]) cx hw hA (f_ordered l G y) ml_X0_72 st_X0_ordered in_X0 co_X0_ordered hd_X0_ordered rfl ⟨Nat.le_of_ble_eq_true rfl, Nat.le_of_ble_eq_true rfl⟩ hl.1 rfl (Nat.le_of_ble_eq_true rfl) dX0_isEqual_19 ⟨Nat.le_of_ble_eq_true rfl, Nat.le_of_ble_eq_true rfl⟩ (fun r10 H locs hr10 hw => ?_)
      refine lv_icmp_ne (tgt := 29) hx hb dX0_isEqual_22 (by decide) (fun c11 => ?_) (fun c11 => ?_)
      · refine lv_iconst (v := 0) hx hb dX0_isEqual_29 (by decide) ?_
        have hw : Wd G A [] s.heap _ _ := hw.sub [] rfl rfl
        exact r_zret cx hr rfl hlk () (by subst_vars; unfold x_isEqual; rw [if_pos c3, if_pos c6, if_neg c11]) hw (Nat.le_of_ble_eq_true rfl) (Nat.le_of_ble_eq_true rfl) dX0_isEqual_30
      · refine lv_iconst (v := 1) hx hb dX0_isEqual_25 (by decide) ?_
        refine lv_goto (tgt := 30) hx hb dX0_isEqual_26 (by decide) ?_
        have hw : Wd G A [] s.heap _ _ := hw.sub [] rfl rfl
        exact r_zret cx hr rfl hlk () (by subst_vars; unfold x_isEqual; rw [if_pos c3, if_pos c6, if_pos c11]) hw (Nat.le_of_ble_eq_true rfl) (Nat.le_of_ble_eq_true rfl) dX0_isEqual_30

def x_rest (a : Int32) (b : Int32) : Int32 := (if b = (0 : Int32) then (0) else (if b = (-1 : Int32) then (0) else ((a - a / b * b))))
set_option maxHeartbeats 4000000 in
set_option maxRecDepth 100000 in
theorem f_rest (l : Launch) (G : Gt) (a : Int32) (b : Int32) : Mt l yX0_rest cX0_rest 2 (some .int) ({ frames := 0, cells := 0, slots := 0, locals := 0 } : Room) G [.int a, .int b] [] (qI G (fun (r : Int32) (w : Unit) => r = x_rest a b) (fun w => [])) := by
  refine Mt.of (own := RX0) (cc := cX0_rest) (by decide) rfl (Nat.le_of_ble_eq_true rfl) ?_
  intro p e s m below meth c A ls cx hr hlk hmn hA hl hw
  have hx := cx.1
  have hb := cx.2.1
  have hl : lv_has ls 2 [(0, .int a), (1, .int b)] := hl
  refine lv_iload_n hx hb dX0_rest_0 rfl (lv_at hl 1 rfl) ?_
  refine lv_if_eq (tgt := 9) hx hb dX0_rest_1 (by decide) (fun c1 => ?_) (fun c1 => ?_)
  · refine lv_iconst (v := 0) hx hb dX0_rest_9 (by decide) ?_
    refine lv_goto (tgt := 16) hx hb dX0_rest_10 (by decide) ?_
    have hw : Wd G A [] s.heap _ _ := hw.sub [] rfl rfl
    exact r_iret cx hr hlk () (by subst_vars; unfold x_rest; rw [if_pos c1]) hw (Nat.le_of_ble_eq_true rfl) (Nat.le_of_ble_eq_true rfl) dX0_rest_16
  · refine lv_iload_n hx hb dX0_rest_4 rfl (lv_at hl 1 rfl) ?_
    refine lv_iconst (v := (-1)) hx hb dX0_rest_5 (by decide) ?_
    refine lv_icmp_ne (tgt := 13) hx hb dX0_rest_6 (by decide) (fun c2 => ?_) (fun c2 => ?_)
    · refine lv_iload_n hx hb dX0_rest_13 rfl (lv_at hl 0 rfl) ?_
      refine lv_iload_n hx hb dX0_rest_14 rfl (lv_at hl 1 rfl) ?_
      refine lv_irem hx hb dX0_rest_15 c1 ?_
      refine lv_topi (fun v3 ev3 => ?_)
      have hw : Wd G A [] s.heap _ _ := hw.sub [] rfl rfl
      exact r_iret cx hr hlk () (by subst_vars; unfold x_rest; rw [if_neg c1, if_neg c2]) hw (Nat.le_of_ble_eq_true rfl) (Nat.le_of_ble_eq_true rfl) dX0_rest_16
    · refine lv_iconst (v := 0) hx hb dX0_rest_9 (by decide) ?_
      refine lv_goto (tgt := 16) hx hb dX0_rest_10 (by decide) ?_
      have hw : Wd G A [] s.heap _ _ := hw.sub [] rfl rfl
      exact r_iret cx hr hlk () (by subst_vars; unfold x_rest; rw [if_neg c1, if_pos c2]) hw (Nat.le_of_ble_eq_true rfl) (Nat.le_of_ble_eq_true rfl) dX0_rest_16

theorem x_kind_make (k : Int32) : ((x_make 1 k).toUInt64 >>> ((32 : Int32).toInt64.toUInt64 &&& Int64.toUInt64 63)).toInt64.toInt32 = 1 := by
  sorry
theorem x_bits_make (k : Int32) : (x_make 1 k).toInt32 = k := by
  sorry
theorem x_bits_make0 (k : Int32) : (x_make 0 k).toInt32 = k := by
  sorry
theorem lg_nz {x y : Int64} (h : ¬ lg_cmp x y = 0) : ¬ x = y := by
  sorry

set_option maxHeartbeats 4000000 in
set_option maxRecDepth 100000 in
theorem f_kindF (l : Launch) (G : Gt) (k : Int32) : Mt l yX0_kind cX0_kind 2 (some .int) ({ frames := 0, cells := 0, slots := 0, locals := 0 } : Room) G [.long (x_make 1 k)] [] (qI G (fun (r : Int32) (w : Unit) => r = 1) (fun w => [])) := by
  refine Mt.of (own := RX0) (cc := cX0_kind) (by decide) rfl (Nat.le_of_ble_eq_true rfl) ?_
  intro p e s m below meth c A ls cx hr hlk hmn hA hl hw
  have hx := cx.1
  have hb := cx.2.1
  have hl : lv_has ls 2 [(0, .long (x_make 1 k))] := hl
  refine lv_lload_n hx hb dX0_kind_0 rfl (lv_at hl 0 rfl) ?_
  refine lv_bipush (v := 32) hx hb dX0_kind_1 (by decide) ?_
  refine lv_lushr hx hb dX0_kind_3 rfl ?_
  refine lv_topl (fun v1 ev1 => ?_)
  refine lv_l2i hx hb dX0_kind_4 rfl ?_
  refine lv_topi (fun v2 ev2 => ?_)
  have hw : Wd G A [] s.heap _ _ := hw.sub [] rfl rfl
  exact r_iret cx hr hlk () (by subst_vars; exact x_kind_make k) hw (Nat.le_of_ble_eq_true rfl) (Nat.le_of_ble_eq_true rfl) dX0_kind_5

set_option maxHeartbeats 4000000 in
set_option maxRecDepth 100000 in
theorem f_bitsF (l : Launch) (G : Gt) (k : Int32) : Mt l yX0_bits cX0_bits 2 (some .int) ({ frames := 0, cells := 0, slots := 0, locals := 0 } : Room) G [.long (x_make 1 k)] [] (qI G (fun (r : Int32) (w : Unit) => r = k) (fun w => [])) := by
  refine Mt.of (own := RX0) (cc := cX0_bits) (by decide) rfl (Nat.le_of_ble_eq_true rfl) ?_
  intro p e s m below meth c A ls cx hr hlk hmn hA hl hw
  have hx := cx.1
  have hb := cx.2.1
  have hl : lv_has ls 2 [(0, .long (x_make 1 k))] := hl
  refine lv_lload_n hx hb dX0_bits_0 rfl (lv_at hl 0 rfl) ?_
  refine lv_l2i hx hb dX0_bits_1 rfl ?_
  refine lv_topi (fun v1 ev1 => ?_)
  have hw : Wd G A [] s.heap _ _ := hw.sub [] rfl rfl
  exact r_iret cx hr hlk () (by subst_vars; exact x_bits_make k) hw (Nat.le_of_ble_eq_true rfl) (Nat.le_of_ble_eq_true rfl) dX0_bits_2

def x_floatBits (k : Int32) : Int32 := (if (x_isNan k) = (0 : Int32) then (k) else (2143289344))
set_option maxHeartbeats 4000000 in
set_option maxRecDepth 100000 in
theorem f_floatBits (l : Launch) (G : Gt) (k : Int32) : Mt l yX0_floatBits cX0_floatBits 5 (some .int) ({ frames := 1, cells := 0, slots := 0, locals := 21 } : Room) G [.long (x_make 1 k)] [] (qI G (fun (r : Int32) (w : Unit) => r = x_floatBits k) (fun w => [])) := by
  refine Mt.of (own := RX0) (cc := cX0_floatBits) (by decide) rfl (Nat.le_of_ble_eq_true rfl) ?_
  intro p e s m below meth c A ls cx hr hlk hmn hA hl hw
  have hx := cx.1
  have hb := cx.2.1
  have hl : lv_has ls 5 [(0, .long (x_make 1 k))] := hl
  refine lv_lload_n hx hb dX0_floatBits_0 rfl (lv_at hl 0 rfl) ?_
  refine r_callS0I (As := [.long (x_make 1 k)]) (rest := []) cx hw hA (f_bitsF l G k) ml_X0_26 st_X0_bits in_X0 co_X0_bits hd_X0_bits rfl ⟨Nat.le_of_ble_eq_true rfl, Nat.le_of_ble_eq_true rfl⟩ hl.1 rfl (Nat.le_of_ble_eq_true rfl) dX0_floatBits_1 ⟨Nat.le_of_ble_eq_true rfl, Nat.le_of_ble_eq_true rfl⟩ (fun r2 H locs hr2 hw => ?_)
  subst hr2
  refine lv_istore_n (lv' := [(2, .int k), (0, .long (x_make 1 k))]) hx hb dX0_floatBits_4 rfl hl (by decide) rfl (fun ls hl => ?_)
  refine lv_lload_n hx hb dX0_floatBits_5 rfl (lv_at hl 1 rfl) ?_
  refine r_callS0I (As := [.long (x_make 1 k)]) (rest := []) cx hw hA (f_kindF l G k) ml_X0_23 st_X0_kind in_X0 co_X0_kind hd_X0_kind rfl ⟨Nat.le_of_ble_eq_true rfl, Nat.le_of_ble_eq_true rfl⟩ hl.1 rfl (Nat.le_of_ble_eq_true rfl) dX0_floatBits_6 ⟨Nat.le_of_ble_eq_true rfl, Nat.le_of_ble_eq_true rfl⟩ (fun r4 H locs hr4 hw => ?_)
  subst hr4
  refine lv_iconst (v := 1) hx hb dX0_floatBits_9 (by decide) ?_
  refine lv_icmp_ne (tgt := 27) hx hb dX0_floatBits_10 (by decide) (fun c9 => absurd (by decide) c9) (fun _ => ?_)
  refine lv_iload_n hx hb dX0_floatBits_13 rfl (lv_at hl 0 rfl) ?_
  refine r_callS0I (As := [.int k]) (rest := []) cx hw hA (f_isNan l G k) ml_X0_36 st_X0_isNan in_X0 co_X0_isNan hd_X0_isNan rfl ⟨Nat.le_of_ble_eq_true rfl, Nat.le_of_ble_eq_true rfl⟩ hl.1 rfl (Nat.le_of_ble_eq_true rfl) dX0_floatBits_14 ⟨Nat.le_of_ble_eq_true rfl, Nat.le_of_ble_eq_true rfl⟩ (fun r6 H locs hr6 hw => ?_)
  refine lv_if_eq (tgt := 25) hx hb dX0_floatBits_17 (by decide) (fun c7 => ?_) (fun c7 => ?_)
  · refine lv_iload_n hx hb dX0_floatBits_25 rfl (lv_at hl 0 rfl) ?_
    have hw : Wd G A [] s.heap _ _ := hw.sub [] rfl rfl
    exact r_iret cx hr hlk () (by subst_vars; unfold x_floatBits; rw [if_pos c7]) hw (Nat.le_of_ble_eq_true rfl) (Nat.le_of_ble_eq_true rfl) dX0_floatBits_26
  · refine lv_ldc hx hb cx.2.2.2.1 (cx.2.2.2.2.1 _ cs_X0_47) dX0_floatBits_20 ?_
    refine lv_goto (tgt := 26) hx hb dX0_floatBits_22 (by decide) ?_
    have hw : Wd G A [] s.heap _ _ := hw.sub [] rfl rfl
    exact r_iret cx hr hlk () (by subst_vars; unfold x_floatBits; rw [if_neg c7]) hw (Nat.le_of_ble_eq_true rfl) (Nat.le_of_ble_eq_true rfl) dX0_floatBits_26

def x_nlz32_j1a (x : Int32) : Int32 := (if x < (65536 : Int32) then (x) else ((x.toUInt32 >>> ((16 : Int32).toUInt32 &&& Int32.toUInt32 31)).toInt32))
def x_nlz32_j1b (x : Int32) : Int32 := (if x < (65536 : Int32) then (31 : Int32) else (15 : Int32))
def x_nlz32_j2a (x : Int32) : Int32 := (if (x_nlz32_j1a x) < (256 : Int32) then ((x_nlz32_j1a x)) else (((x_nlz32_j1a x).toUInt32 >>> ((8 : Int32).toUInt32 &&& Int32.toUInt32 31)).toInt32))
def x_nlz32_j2b (x : Int32) : Int32 := (if (x_nlz32_j1a x) < (256 : Int32) then ((x_nlz32_j1b x)) else (((x_nlz32_j1b x) + (-8))))
def x_nlz32_j3a (x : Int32) : Int32 := (if (x_nlz32_j2a x) < (16 : Int32) then ((x_nlz32_j2a x)) else (((x_nlz32_j2a x).toUInt32 >>> ((4 : Int32).toUInt32 &&& Int32.toUInt32 31)).toInt32))
def x_nlz32_j3b (x : Int32) : Int32 := (if (x_nlz32_j2a x) < (16 : Int32) then ((x_nlz32_j2b x)) else (((x_nlz32_j2b x) + (-4))))
def x_nlz32_j4a (x : Int32) : Int32 := (if (x_nlz32_j3a x) < (4 : Int32) then ((x_nlz32_j3a x)) else (((x_nlz32_j3a x).toUInt32 >>> ((2 : Int32).toUInt32 &&& Int32.toUInt32 31)).toInt32))
def x_nlz32_j4b (x : Int32) : Int32 := (if (x_nlz32_j3a x) < (4 : Int32) then ((x_nlz32_j3b x)) else (((x_nlz32_j3b x) + (-2))))
def x_nlz32 (x : Int32) : Int32 := (if (0 : Int32) < x then (((x_nlz32_j4b x) - ((x_nlz32_j4a x).toUInt32 >>> ((1 : Int32).toUInt32 &&& Int32.toUInt32 31)).toInt32)) else (if x = (0 : Int32) then (32) else (0)))
set_option maxHeartbeats 4000000 in
set_option maxRecDepth 100000 in
theorem f_nlz32 (l : Launch) (G : Gt) (x : Int32) : Mt l yJ6_numberOfLeadingZeros_0f7a4 cJ6_numberOfLeadingZeros_0f7a4 2 (some .int) ({ frames := 0, cells := 0, slots := 0, locals := 0 } : Room) G [.int x] [] (qI G (fun (r : Int32) (w : Unit) => r = x_nlz32 x) (fun w => [])) := by
  refine Mt.of (own := RJ6) (cc := cJ6_numberOfLeadingZeros_0f7a4) (by decide) rfl (Nat.le_of_ble_eq_true rfl) ?_
  intro p e s m below meth c A ls cx hr hlk hmn hA hl hw
  have hx := cx.1
  have hb := cx.2.1
  have hl : lv_has ls 2 [(0, .int x)] := hl
  refine lv_iload_n hx hb dJ6_numberOfLeadingZeros_0f7a4_0 rfl (lv_at hl 0 rfl) ?_
  refine lv_if_gt (tgt := 15) hx hb dJ6_numberOfLeadingZeros_0f7a4_1 (by decide) (fun c1 => ?_) (fun c1 => ?_)
  · refine lv_bipush (v := 31) hx hb dJ6_numberOfLeadingZeros_0f7a4_15 (by decide) ?_
    refine lv_istore_n (lv' := [(1, .int 31), (0, .int x)]) hx hb dJ6_numberOfLeadingZeros_0f7a4_17 rfl hl (by decide) rfl (fun ls hl => ?_)
    refine jn2 (E1 := (x_nlz32_j1a x)) (E2 := (x_nlz32_j1b x)) (pcJ := 33) (nL := 2) (lv := fun j1a j1b => [(0, .int j1a), (1, .int j1b)]) (sk := fun j1a j1b => []) (fun K1 => ?_) ?_
    · refine lv_iload_n hx hb dJ6_numberOfLeadingZeros_0f7a4_18 rfl (lv_at hl 1 rfl) ?_
      refine lv_ldcw hx hb cx.2.2.2.1 (cx.2.2.2.2.1 _ cs_J6_264) dJ6_numberOfLeadingZeros_0f7a4_19 ?_
      refine lv_icmp_lt (tgt := 33) hx hb dJ6_numberOfLeadingZeros_0f7a4_22 (by decide) (fun c2 => ?_) (fun c2 => ?_)
      · exact K1 _ _ ls (by subst_vars; unfold x_nlz32_j1a; rw [if_pos c2]) (by subst_vars; unfold x_nlz32_j1b; rw [if_pos c2]) (lv_sub hl [1, 0] rfl)
      · refine lv_iinc (v := 15) (lv' := [(1, .int 15), (0, .int x)]) hx hb dJ6_numberOfLeadingZeros_0f7a4_25 hl (k := 0) rfl (by decide +kernel) (by decide) rfl (fun ls hl => ?_)
        refine lv_iload_n hx hb dJ6_numberOfLeadingZeros_0f7a4_28 rfl (lv_at hl 1 rfl) ?_
        refine lv_bipush (v := 16) hx hb dJ6_numberOfLeadingZeros_0f7a4_29 (by decide) ?_
        refine lv_iushr hx hb dJ6_numberOfLeadingZeros_0f7a4_31 rfl ?_
        refine lv_topi (fun v3 ev3 => ?_)
        refine lv_istore_n (lv' := [(0, .int v3), (1, .int 15)]) hx hb dJ6_numberOfLeadingZeros_0f7a4_32 rfl hl (by decide) rfl (fun ls hl => ?_)
        exact K1 _ _ ls (by subst_vars; unfold x_nlz32_j1a; rw [if_neg c2]) (by subst_vars; unfold x_nlz32_j1b; rw [if_neg c2]) (lv_sub hl [0, 1] rfl)
    · intro j1a j1b ls ej1a ej1b hl
      refine jn2 (E1 := (x_nlz32_j2a x)) (E2 := (x_nlz32_j2b x)) (pcJ := 48) (nL := 2) (lv := fun j2a j2b => [(0, .int j2a), (1, .int j2b)]) (sk := fun j2a j2b => []) (fun K2 => ?_) ?_
      · refine lv_iload_n hx hb dJ6_numberOfLeadingZeros_0f7a4_33 rfl (lv_at hl 0 rfl) ?_
        refine lv_sipush (v := 256) hx hb dJ6_numberOfLeadingZeros_0f7a4_34 (by decide) ?_
        refine lv_icmp_lt (tgt := 48) hx hb dJ6_numberOfLeadingZeros_0f7a4_37 (by decide) (fun c4 => ?_) (fun c4 => ?_)
        · exact K2 _ _ ls (by subst_vars; unfold x_nlz32_j2a; rw [if_pos c4]) (by subst_vars; unfold x_nlz32_j2b; rw [if_pos c4]) (lv_sub hl [0, 1] rfl)
        · obtain ⟨v5, ev5⟩ : ∃ y : Int32, y = j1b + (-8) := ⟨_, rfl⟩
          refine lv_iinc (v := v5) (lv' := [(1, .int v5), (0, .int j1a)]) hx hb dJ6_numberOfLeadingZeros_0f7a4_40 hl (k := 1) rfl (by rw [ev5]; rfl) (by decide) rfl (fun ls hl => ?_)
          refine lv_iload_n hx hb dJ6_numberOfLeadingZeros_0f7a4_43 rfl (lv_at hl 1 rfl) ?_
          refine lv_bipush (v := 8) hx hb dJ6_numberOfLeadingZeros_0f7a4_44 (by decide) ?_
          refine lv_iushr hx hb dJ6_numberOfLeadingZeros_0f7a4_46 rfl ?_
          refine lv_topi (fun v6 ev6 => ?_)
          refine lv_istore_n (lv' := [(0, .int v6), (1, .int v5)]) hx hb dJ6_numberOfLeadingZeros_0f7a4_47 rfl hl (by decide) rfl (fun ls hl => ?_)
          exact K2 _ _ ls (by subst_vars; unfold x_nlz32_j2a; rw [if_neg c4]) (by subst_vars; unfold x_nlz32_j2b; rw [if_neg c4]) (lv_sub hl [0, 1] rfl)
      · intro j2a j2b ls ej2a ej2b hl
        refine jn2 (E1 := (x_nlz32_j3a x)) (E2 := (x_nlz32_j3b x)) (pcJ := 61) (nL := 2) (lv := fun j3a j3b => [(0, .int j3a), (1, .int j3b)]) (sk := fun j3a j3b => []) (fun K3 => ?_) ?_
        · refine lv_iload_n hx hb dJ6_numberOfLeadingZeros_0f7a4_48 rfl (lv_at hl 0 rfl) ?_
          refine lv_bipush (v := 16) hx hb dJ6_numberOfLeadingZeros_0f7a4_49 (by decide) ?_
          refine lv_icmp_lt (tgt := 61) hx hb dJ6_numberOfLeadingZeros_0f7a4_51 (by decide) (fun c7 => ?_) (fun c7 => ?_)
          · exact K3 _ _ ls (by subst_vars; unfold x_nlz32_j3a; rw [if_pos c7]) (by subst_vars; unfold x_nlz32_j3b; rw [if_pos c7]) (lv_sub hl [0, 1] rfl)
          · obtain ⟨v8, ev8⟩ : ∃ y : Int32, y = j2b + (-4) := ⟨_, rfl⟩
            refine lv_iinc (v := v8) (lv' := [(1, .int v8), (0, .int j2a)]) hx hb dJ6_numberOfLeadingZeros_0f7a4_54 hl (k := 1) rfl (by rw [ev8]; rfl) (by decide) rfl (fun ls hl => ?_)
            refine lv_iload_n hx hb dJ6_numberOfLeadingZeros_0f7a4_57 rfl (lv_at hl 1 rfl) ?_
            refine lv_iconst (v := 4) hx hb dJ6_numberOfLeadingZeros_0f7a4_58 (by decide) ?_
            refine lv_iushr hx hb dJ6_numberOfLeadingZeros_0f7a4_59 rfl ?_
            refine lv_topi (fun v9 ev9 => ?_)
            refine lv_istore_n (lv' := [(0, .int v9), (1, .int v8)]) hx hb dJ6_numberOfLeadingZeros_0f7a4_60 rfl hl (by decide) rfl (fun ls hl => ?_)
            exact K3 _ _ ls (by subst_vars; unfold x_nlz32_j3a; rw [if_neg c7]) (by subst_vars; unfold x_nlz32_j3b; rw [if_neg c7]) (lv_sub hl [0, 1] rfl)
        · intro j3a j3b ls ej3a ej3b hl
          refine jn2 (E1 := (x_nlz32_j4a x)) (E2 := (x_nlz32_j4b x)) (pcJ := 73) (nL := 2) (lv := fun j4a j4b => [(0, .int j4a), (1, .int j4b)]) (sk := fun j4a j4b => []) (fun K4 => ?_) ?_
          · refine lv_iload_n hx hb dJ6_numberOfLeadingZeros_0f7a4_61 rfl (lv_at hl 0 rfl) ?_
            refine lv_iconst (v := 4) hx hb dJ6_numberOfLeadingZeros_0f7a4_62 (by decide) ?_
            refine lv_icmp_lt (tgt := 73) hx hb dJ6_numberOfLeadingZeros_0f7a4_63 (by decide) (fun c10 => ?_) (fun c10 => ?_)
            · exact K4 _ _ ls (by subst_vars; unfold x_nlz32_j4a; rw [if_pos c10]) (by subst_vars; unfold x_nlz32_j4b; rw [if_pos c10]) (lv_sub hl [0, 1] rfl)
            · obtain ⟨v11, ev11⟩ : ∃ y : Int32, y = j3b + (-2) := ⟨_, rfl⟩
              refine lv_iinc (v := v11) (lv' := [(1, .int v11), (0, .int j3a)]) hx hb dJ6_numberOfLeadingZeros_0f7a4_66 hl (k := 1) rfl (by rw [ev11]; rfl) (by decide) rfl (fun ls hl => ?_)
              refine lv_iload_n hx hb dJ6_numberOfLeadingZeros_0f7a4_69 rfl (lv_at hl 1 rfl) ?_
              refine lv_iconst (v := 2) hx hb dJ6_numberOfLeadingZeros_0f7a4_70 (by decide) ?_
              refine lv_iushr hx hb dJ6_numberOfLeadingZeros_0f7a4_71 rfl ?_
              refine lv_topi (fun v12 ev12 => ?_)
              refine lv_istore_n (lv' := [(0, .int v12), (1, .int v11)]) hx hb dJ6_numberOfLeadingZeros_0f7a4_72 rfl hl (by decide) rfl (fun ls hl => ?_)
              exact K4 _ _ ls (by subst_vars; unfold x_nlz32_j4a; rw [if_neg c10]) (by subst_vars; unfold x_nlz32_j4b; rw [if_neg c10]) (lv_sub hl [0, 1] rfl)
          · intro j4a j4b ls ej4a ej4b hl
            refine lv_iload_n hx hb dJ6_numberOfLeadingZeros_0f7a4_73 rfl (lv_at hl 1 rfl) ?_
            refine lv_iload_n hx hb dJ6_numberOfLeadingZeros_0f7a4_74 rfl (lv_at hl 0 rfl) ?_
            refine lv_iconst (v := 1) hx hb dJ6_numberOfLeadingZeros_0f7a4_75 (by decide) ?_
            refine lv_iushr hx hb dJ6_numberOfLeadingZeros_0f7a4_76 rfl ?_
            refine lv_topi (fun v13 ev13 => ?_)
            refine lv_isub hx hb dJ6_numberOfLeadingZeros_0f7a4_77 ?_
            refine lv_topi (fun v14 ev14 => ?_)
            have hw : Wd G A [] s.heap _ _ := hw.sub [] rfl rfl
            exact r_iret cx hr hlk () (by subst_vars; unfold x_nlz32; rw [if_pos c1]) hw (Nat.le_of_ble_eq_true rfl) (Nat.le_of_ble_eq_true rfl) dJ6_numberOfLeadingZeros_0f7a4_78
  · refine lv_iload_n hx hb dJ6_numberOfLeadingZeros_0f7a4_4 rfl (lv_at hl 0 rfl) ?_
    refine lv_if_ne (tgt := 13) hx hb dJ6_numberOfLeadingZeros_0f7a4_5 (by decide) (fun c15 => ?_) (fun c15 => ?_)
    · refine lv_iconst (v := 0) hx hb dJ6_numberOfLeadingZeros_0f7a4_13 (by decide) ?_
      have hw : Wd G A [] s.heap _ _ := hw.sub [] rfl rfl
      exact r_iret cx hr hlk () (by subst_vars; unfold x_nlz32; rw [if_neg c1, if_neg c15]) hw (Nat.le_of_ble_eq_true rfl) (Nat.le_of_ble_eq_true rfl) dJ6_numberOfLeadingZeros_0f7a4_14
    · refine lv_bipush (v := 32) hx hb dJ6_numberOfLeadingZeros_0f7a4_8 (by decide) ?_
      refine lv_goto (tgt := 14) hx hb dJ6_numberOfLeadingZeros_0f7a4_10 (by decide) ?_
      have hw : Wd G A [] s.heap _ _ := hw.sub [] rfl rfl
      exact r_iret cx hr hlk () (by subst_vars; unfold x_nlz32; rw [if_neg c1, if_pos c15]) hw (Nat.le_of_ble_eq_true rfl) (Nat.le_of_ble_eq_true rfl) dJ6_numberOfLeadingZeros_0f7a4_14

def x_nlz64 (x : Int64) : Int32 := (if (x.toUInt64 >>> ((32 : Int32).toInt64.toUInt64 &&& Int64.toUInt64 63)).toInt64.toInt32 = (0 : Int32) then (((32 : Int32) + (x_nlz32 x.toInt32))) else ((x_nlz32 (x.toUInt64 >>> ((32 : Int32).toInt64.toUInt64 &&& Int64.toUInt64 63)).toInt64.toInt32)))
set_option maxHeartbeats 4000000 in
set_option maxRecDepth 100000 in
theorem f_nlz64 (l : Launch) (G : Gt) (x : Int64) : Mt l yJ13_numberOfLeadingZeros_95d88 cJ13_numberOfLeadingZeros_95d88 3 (some .int) ({ frames := 1, cells := 0, slots := 0, locals := 21 } : Room) G [.long x] [] (qI G (fun (r : Int32) (w : Unit) => r = x_nlz64 x) (fun w => [])) := by
  refine Mt.of (own := RJ13) (cc := cJ13_numberOfLeadingZeros_95d88) (by decide) rfl (Nat.le_of_ble_eq_true rfl) ?_
  intro p e s m below meth c A ls cx hr hlk hmn hA hl hw
  have hx := cx.1
  have hb := cx.2.1
  have hl : lv_has ls 3 [(0, .long x)] := hl
  refine lv_lload_n hx hb dJ13_numberOfLeadingZeros_95d88_0 rfl (lv_at hl 0 rfl) ?_
  refine lv_bipush (v := 32) hx hb dJ13_numberOfLeadingZeros_95d88_1 (by decide) ?_
  refine lv_lushr hx hb dJ13_numberOfLeadingZeros_95d88_3 rfl ?_
  refine lv_topl (fun v1 ev1 => ?_)
  refine lv_l2i hx hb dJ13_numberOfLeadingZeros_95d88_4 rfl ?_
  refine lv_topi (fun v2 ev2 => ?_)
  refine lv_istore_n (lv' := [(2, .int v2), (0, .long x)]) hx hb dJ13_numberOfLeadingZeros_95d88_5 rfl hl (by decide) rfl (fun ls hl => ?_)
  refine lv_iload_n hx hb dJ13_numberOfLeadingZeros_95d88_6 rfl (lv_at hl 0 rfl) ?_
  refine lv_if_ne (tgt := 21) hx hb dJ13_numberOfLeadingZeros_95d88_7 (by decide) (fun c3 => ?_) (fun c3 => ?_)
  · refine lv_iload_n hx hb dJ13_numberOfLeadingZeros_95d88_21 rfl (lv_at hl 0 rfl) ?_
    refine r_callS0I (As := [.int v2]) (rest := []) cx hw hA (f_nlz32 l G v2) ml_J13_308 st_J6_numberOfLeadingZeros_0f7a4 in_J6 co_J6_numberOfLeadingZeros_0f7a4 hd_J6_numberOfLeadingZeros_0f7a4 rfl ⟨Nat.le_of_ble_eq_true rfl, Nat.le_of_ble_eq_true rfl⟩ hl.1 rfl (Nat.le_of_ble_eq_true rfl) dJ13_numberOfLeadingZeros_95d88_22 ⟨Nat.le_of_ble_eq_true rfl, Nat.le_of_ble_eq_true rfl⟩ (fun r5 H locs hr5 hw => ?_)
    have hw : Wd G A [] s.heap _ _ := hw.sub [] rfl rfl
    exact r_iret cx hr hlk () (by subst_vars; unfold x_nlz64; rw [if_neg c3]) hw (Nat.le_of_ble_eq_true rfl) (Nat.le_of_ble_eq_true rfl) dJ13_numberOfLeadingZeros_95d88_25
  · refine lv_bipush (v := 32) hx hb dJ13_numberOfLeadingZeros_95d88_10 (by decide) ?_
    refine lv_lload_n hx hb dJ13_numberOfLeadingZeros_95d88_12 rfl (lv_at hl 1 rfl) ?_
    refine lv_l2i hx hb dJ13_numberOfLeadingZeros_95d88_13 rfl ?_
    refine lv_topi (fun v6 ev6 => ?_)
    refine r_callS0I (As := [.int v6]) (rest := [.int 32]) cx hw hA (f_nlz32 l G v6) ml_J13_308 st_J6_numberOfLeadingZeros_0f7a4 in_J6 co_J6_numberOfLeadingZeros_0f7a4 hd_J6_numberOfLeadingZeros_0f7a4 rfl ⟨Nat.le_of_ble_eq_true rfl, Nat.le_of_ble_eq_true rfl⟩ hl.1 rfl (Nat.le_of_ble_eq_true rfl) dJ13_numberOfLeadingZeros_95d88_14 ⟨Nat.le_of_ble_eq_true rfl, Nat.le_of_ble_eq_true rfl⟩ (fun r8 H locs hr8 hw => ?_)
    refine lv_iadd hx hb dJ13_numberOfLeadingZeros_95d88_17 ?_
    refine lv_topi (fun v9 ev9 => ?_)
    refine lv_goto (tgt := 25) hx hb dJ13_numberOfLeadingZeros_95d88_18 (by decide) ?_
    have hw : Wd G A [] s.heap _ _ := hw.sub [] rfl rfl
    exact r_iret cx hr hlk () (by subst_vars; unfold x_nlz64; rw [if_pos c3]) hw (Nat.le_of_ble_eq_true rfl) (Nat.le_of_ble_eq_true rfl) dJ13_numberOfLeadingZeros_95d88_25

set_option maxHeartbeats 4000000 in
set_option maxRecDepth 100000 in
theorem f_bits0 (l : Launch) (G : Gt) (k : Int32) : Mt l yX0_bits cX0_bits 2 (some .int) ({ frames := 0, cells := 0, slots := 0, locals := 0 } : Room) G [.long (x_make 0 k)] [] (qI G (fun (r : Int32) (w : Unit) => r = k) (fun w => [])) := by
  refine Mt.of (own := RX0) (cc := cX0_bits) (by decide) rfl (Nat.le_of_ble_eq_true rfl) ?_
  intro p e s m below meth c A ls cx hr hlk hmn hA hl hw
  have hx := cx.1
  have hb := cx.2.1
  have hl : lv_has ls 2 [(0, .long (x_make 0 k))] := hl
  refine lv_lload_n hx hb dX0_bits_0 rfl (lv_at hl 0 rfl) ?_
  refine lv_l2i hx hb dX0_bits_1 rfl ?_
  refine lv_topi (fun v1 ev1 => ?_)
  have hw : Wd G A [] s.heap _ _ := hw.sub [] rfl rfl
  exact r_iret cx hr hlk () (by subst_vars; exact x_bits_make0 k) hw (Nat.le_of_ble_eq_true rfl) (Nat.le_of_ble_eq_true rfl) dX0_bits_2

def x_pack_j1 (w : Int64) (q : Int32) : Int32 := ((if ((q + ((64 : Int32) - (x_nlz64 w))) - (24 : Int32)) < (-149 : Int32) then (-149 : Int32) else ((q + ((64 : Int32) - (x_nlz64 w))) - (24 : Int32))))
def x_pack_j2 (w : Int64) (q : Int32) : Int32 := (((x_pack_j1 w q) - q))
def x_pack_j3 (w : Int64) (q : Int32) : Int64 := (if (0 : Int32) < (x_pack_j2 w q) then (if (62 : Int32) < (x_pack_j2 w q) then (0 : Int64) else (if (0 : Int32) < (lg_cmp (w - ((w >>> ((x_pack_j2 w q).toInt64 &&& 63)) <<< ((x_pack_j2 w q).toInt64 &&& 63))) ((1 : Int64) <<< (((x_pack_j2 w q) - (1 : Int32)).toInt64 &&& 63))) then (((w >>> ((x_pack_j2 w q).toInt64 &&& 63)) + (1 : Int64))) else (if (lg_cmp (w - ((w >>> ((x_pack_j2 w q).toInt64 &&& 63)) <<< ((x_pack_j2 w q).toInt64 &&& 63))) ((1 : Int64) <<< (((x_pack_j2 w q) - (1 : Int32)).toInt64 &&& 63))) = (0 : Int32) then (if (lg_cmp ((w >>> ((x_pack_j2 w q).toInt64 &&& 63)) &&& (1 : Int64)) (1 : Int64)) = (0 : Int32) then (((w >>> ((x_pack_j2 w q).toInt64 &&& 63)) + (1 : Int64))) else (((w >>> ((x_pack_j2 w q).toInt64 &&& 63)) + (0 : Int64)))) else (((w >>> ((x_pack_j2 w q).toInt64 &&& 63)) + (0 : Int64)))))) else ((w <<< ((-(x_pack_j2 w q)).toInt64 &&& 63))))
def x_pack_j4a (w : Int64) (q : Int32) : Int64 := (if (lg_cmp (x_pack_j3 w q) (16777216 : Int64)) < (0 : Int32) then ((x_pack_j3 w q)) else (((x_pack_j3 w q) >>> ((1 : Int32).toInt64 &&& 63))))
def x_pack_j4b (w : Int64) (q : Int32) : Int32 := (if (lg_cmp (x_pack_j3 w q) (16777216 : Int64)) < (0 : Int32) then ((x_pack_j1 w q)) else (((x_pack_j1 w q) + 1)))
def x_pack_j5 (w : Int64) (q : Int32) : Int32 := (if (0 : Int32) ≤ (lg_cmp (x_pack_j4a w q) (8388608 : Int64)) then (((x_pack_j4b w q) + (150 : Int32))) else (0 : Int32))
def x_pack (s : Int32) (w : Int64) (q : Int32) : Int32 := (if (lg_cmp w (0 : Int64)) = (0 : Int32) then ((s <<< ((31 : Int32) &&& 31))) else (if ((x_pack_j4b w q) + (150 : Int32)) < (255 : Int32) then ((((s <<< ((31 : Int32) &&& 31)) ||| ((x_pack_j5 w q) <<< ((23 : Int32) &&& 31))) ||| ((x_pack_j4a w q).toInt32 &&& (8388607 : Int32)))) else (((s <<< ((31 : Int32) &&& 31)) ||| (2139095040 : Int32)))))
set_option maxHeartbeats 4000000 in
set_option maxRecDepth 100000 in
theorem f_pack (l : Launch) (G : Gt) (s : Int32) (w : Int64) (q : Int32) : Mt l yX0_pack cX0_pack 13 (some .int) ({ frames := 2, cells := 0, slots := 0, locals := 43 } : Room) G [.int s, .long w, .int q] [] (qI G (fun (r : Int32) (w : Unit) => r = x_pack s w q) (fun w => [])) := by
  refine Mt.of (own := RX0) (cc := cX0_pack) (by decide) rfl (Nat.le_of_ble_eq_true rfl) ?_
  intro p e s m below meth c A ls cx hr hlk hmn hA hl hw
  have hx := cx.1
  have hb := cx.2.1
  have hl : lv_has ls 13 [(0, .int s), (1, .long w), (3, .int q)] := hl
  refine lv_lload_n hx hb dX0_pack_0 rfl (lv_at hl 1 rfl) ?_
  refine lv_lconst (v := 0) hx hb dX0_pack_1 (by decide) ?_
  refine W.lcmp hx hb dX0_pack_2 ?_
  refine lv_topi (fun v1 ev1 => ?_)
  refine lv_if_ne (tgt := 11) hx hb dX0_pack_3 (by decide) (fun c2 => ?_) (fun c2 => ?_)
  · refine lv_bipush (v := 64) hx hb dX0_pack_11 (by decide) ?_
    refine lv_lload_n hx hb dX0_pack_13 rfl (lv_at hl 1 rfl) ?_
    refine r_callS0I (As := [.long w]) (rest := [.int 64]) cx hw hA (f_nlz64 l G w) ml_X0_77 st_J13_numberOfLeadingZeros_95d88 in_J13 co_J13_numberOfLeadingZeros_95d88 hd_J13_numberOfLeadingZeros_95d88 rfl ⟨Nat.le_of_ble_eq_true rfl, Nat.le_of_ble_eq_true rfl⟩ hl.1 rfl (Nat.le_of_ble_eq_true rfl) dX0_pack_14 ⟨Nat.le_of_ble_eq_true rfl, Nat.le_of_ble_eq_true rfl⟩ (fun r4 H locs hr4 hw => ?_)
    refine lv_isub hx hb dX0_pack_17 ?_
    refine lv_topi (fun v5 ev5 => ?_)
    refine lv_istore (lv' := [(4, .int v5), (0, .int s), (1, .long w), (3, .int q)]) hx hb dX0_pack_18 hl (by decide) rfl (fun ls hl => ?_)
    refine lv_iload_n hx hb dX0_pack_20 rfl (lv_at hl 3 rfl) ?_
    refine lv_iload hx hb dX0_pack_21 (lv_at hl 0 rfl) ?_
    refine lv_iadd hx hb dX0_pack_23 ?_
    refine lv_topi (fun v6 ev6 => ?_)
    refine lv_bipush (v := 24) hx hb dX0_pack_24 (by decide) ?_
    refine lv_isub hx hb dX0_pack_26 ?_
    refine lv_topi (fun v7 ev7 => ?_)
    refine lv_sipush (v := (-149)) hx hb dX0_pack_27 (by decide) ?_
    refine r_mmax cx ml_X0_82 hl.1 (Nat.le_of_ble_eq_true rfl) (Nat.le_of_ble_eq_true rfl) (Nat.le_of_ble_eq_true rfl) (Nat.le_of_ble_eq_true rfl) rfl dX0_pack_30 ?_
    refine lv_topi (fun v8 ev8 => ?_)
    refine jn1 (E := (x_pack_j1 w q)) (pcJ := 35) (nL := 13) (lv := fun j1 => [(0, .int s), (1, .long w), (3, .int q), (5, .int j1)]) (sk := fun j1 => []) (fun K1 => ?_) ?_
    · refine lv_istore (lv' := [(5, .int v8), (4, .int v5), (0, .int s), (1, .long w), (3, .int q)]) hx hb dX0_pack_33 hl (by decide) rfl (fun ls hl => ?_)
      exact K1 _ ls (by subst_vars; unfold x_pack_j1; rfl) (lv_sub hl [2, 3, 4, 0] rfl)
    · intro j1 ls ej1 hl
      refine lv_iload hx hb dX0_pack_35 (lv_at hl 3 rfl) ?_
      refine lv_iload_n hx hb dX0_pack_37 rfl (lv_at hl 2 rfl) ?_
      refine jn1 (E := (x_pack_j2 w q)) (pcJ := 41) (nL := 13) (lv := fun j2 => [(0, .int s), (1, .long w), (3, .int q), (5, .int j1), (6, .int j2)]) (sk := fun j2 => []) (fun K2 => ?_) ?_
      · refine lv_isub hx hb dX0_pack_38 ?_
        refine lv_topi (fun v9 ev9 => ?_)
        refine lv_istore (lv' := [(6, .int v9), (0, .int s), (1, .long w), (3, .int q), (5, .int j1)]) hx hb dX0_pack_39 hl (by decide) rfl (fun ls hl => ?_)
        exact K2 _ ls (by subst_vars; unfold x_pack_j2; rfl) (lv_sub hl [1, 2, 3, 4, 0] rfl)
      · intro j2 ls ej2 hl
        refine lv_lconst (v := 0) hx hb dX0_pack_41 (by decide) ?_
        refine lv_lstore (lv' := [(7, .long 0), (0, .int s), (1, .long w), (3, .int q), (5, .int j1), (6, .int j2)]) hx hb dX0_pack_42 hl (by decide) rfl (fun ls hl => ?_)
        refine jn1 (E := (x_pack_j3 w q)) (pcJ := 124) (nL := 13) (lv := fun j3 => [(0, .int s), (1, .long w), (3, .int q), (5, .int j1), (7, .long j3)]) (sk := fun j3 => []) (fun K3 => ?_) ?_
        · refine lv_iload hx hb dX0_pack_44 (lv_at hl 5 rfl) ?_
          refine lv_if_gt (tgt := 59) hx hb dX0_pack_46 (by decide) (fun c10 => ?_) (fun c10 => ?_)
          · refine lv_iload hx hb dX0_pack_59 (lv_at hl 5 rfl) ?_
            refine lv_bipush (v := 62) hx hb dX0_pack_61 (by decide) ?_
            refine lv_icmp_gt (tgt := 124) hx hb dX0_pack_63 (by decide) (fun c11 => ?_) (fun c11 => ?_)
            · exact K3 _ ls (by subst_vars; unfold x_pack_j3; rw [if_pos c10, if_pos c11]) (lv_sub hl [1, 2, 3, 4, 0] rfl)
            · refine lv_lload_n hx hb dX0_pack_66 rfl (lv_at hl 2 rfl) ?_
              refine lv_iload hx hb dX0_pack_67 (lv_at hl 5 rfl) ?_
              refine lv_lshr hx hb dX0_pack_69 rfl ?_
              refine lv_topl (fun v12 ev12 => ?_)
              refine lv_lstore (lv' := [(7, .long v12), (0, .int s), (1, .long w), (3, .int q), (5, .int j1), (6, .int j2)]) hx hb dX0_pack_70 hl (by decide) rfl (fun ls hl => ?_)
              refine lv_lload_n hx hb dX0_pack_72 rfl (lv_at hl 2 rfl) ?_
              refine lv_lload hx hb dX0_pack_73 (lv_at hl 0 rfl) ?_
              refine lv_iload hx hb dX0_pack_75 (lv_at hl 5 rfl) ?_
              refine lv_lshl hx hb dX0_pack_77 rfl ?_
              refine lv_topl (fun v13 ev13 => ?_)
              refine lv_lsub hx hb dX0_pack_78 ?_
              refine lv_topl (fun v14 ev14 => ?_)
              refine lv_lstore (lv' := [(9, .long v14), (7, .long v12), (0, .int s), (1, .long w), (3, .int q), (5, .int j1), (6, .int j2)]) hx hb dX0_pack_79 hl (by decide) rfl (fun ls hl => ?_)
              refine lv_lconst (v := 1) hx hb dX0_pack_81 (by decide) ?_
              refine lv_iload hx hb dX0_pack_82 (lv_at hl 6 rfl) ?_
              refine lv_iconst (v := 1) hx hb dX0_pack_84 (by decide) ?_
              refine lv_isub hx hb dX0_pack_85 ?_
              refine lv_topi (fun v15 ev15 => ?_)
              refine lv_lshl hx hb dX0_pack_86 rfl ?_
              refine lv_topl (fun v16 ev16 => ?_)
              refine lv_lstore (lv' := [(11, .long v16), (9, .long v14), (7, .long v12), (0, .int s), (1, .long w), (3, .int q), (5, .int j1), (6, .int j2)]) hx hb dX0_pack_87 hl (by decide) rfl (fun ls hl => ?_)
              refine lv_lload hx hb dX0_pack_89 (lv_at hl 2 rfl) ?_
              refine lv_lload hx hb dX0_pack_91 (lv_at hl 1 rfl) ?_
              refine lv_lload hx hb dX0_pack_93 (lv_at hl 0 rfl) ?_
              refine W.lcmp hx hb dX0_pack_95 ?_
              refine lv_topi (fun v17 ev17 => ?_)
              refine lv_if_gt (tgt := 116) hx hb dX0_pack_96 (by decide) (fun c18 => ?_) (fun c18 => ?_)
              · refine lv_lconst (v := 1) hx hb dX0_pack_116 (by decide) ?_
                refine lv_goto (tgt := 121) hx hb dX0_pack_117 (by decide) ?_
                refine lv_ladd hx hb dX0_pack_121 ?_
                refine lv_topl (fun v19 ev19 => ?_)
                refine lv_lstore (lv' := [(7, .long v19), (11, .long v16), (9, .long v14), (0, .int s), (1, .long w), (3, .int q), (5, .int j1), (6, .int j2)]) hx hb dX0_pack_122 hl (by decide) rfl (fun ls hl => ?_)
                exact K3 _ ls (by subst_vars; unfold x_pack_j3; rw [if_pos c10, if_neg c11, if_pos c18]) (lv_sub hl [3, 4, 5, 6, 0] rfl)
              · refine lv_lload hx hb dX0_pack_99 (lv_at hl 1 rfl) ?_
                refine lv_lload hx hb dX0_pack_101 (lv_at hl 0 rfl) ?_
                refine W.lcmp hx hb dX0_pack_103 ?_
                refine lv_topi (fun v20 ev20 => ?_)
                refine lv_if_ne (tgt := 120) hx hb dX0_pack_104 (by decide) (fun c21 => ?_) (fun c21 => ?_)
                · refine lv_lconst (v := 0) hx hb dX0_pack_120 (by decide) ?_
                  refine lv_ladd hx hb dX0_pack_121 ?_
                  refine lv_topl (fun v22 ev22 => ?_)
                  refine lv_lstore (lv' := [(7, .long v22), (11, .long v16), (9, .long v14), (0, .int s), (1, .long w), (3, .int q), (5, .int j1), (6, .int j2)]) hx hb dX0_pack_122 hl (by decide) rfl (fun ls hl => ?_)
                  exact K3 _ ls (by subst_vars; unfold x_pack_j3; rw [if_pos c10, if_neg c11, if_neg c18, if_neg c21]) (lv_sub hl [3, 4, 5, 6, 0] rfl)
                · refine lv_lload hx hb dX0_pack_107 (lv_at hl 2 rfl) ?_
                  refine lv_lconst (v := 1) hx hb dX0_pack_109 (by decide) ?_
                  refine lv_land hx hb dX0_pack_110 ?_
                  refine lv_topl (fun v23 ev23 => ?_)
                  refine lv_lconst (v := 1) hx hb dX0_pack_111 (by decide) ?_
                  refine W.lcmp hx hb dX0_pack_112 ?_
                  refine lv_topi (fun v24 ev24 => ?_)
                  refine lv_if_ne (tgt := 120) hx hb dX0_pack_113 (by decide) (fun c25 => ?_) (fun c25 => ?_)
                  · refine lv_lconst (v := 0) hx hb dX0_pack_120 (by decide) ?_
                    refine lv_ladd hx hb dX0_pack_121 ?_
                    refine lv_topl (fun v26 ev26 => ?_)
                    refine lv_lstore (lv' := [(7, .long v26), (11, .long v16), (9, .long v14), (0, .int s), (1, .long w), (3, .int q), (5, .int j1), (6, .int j2)]) hx hb dX0_pack_122 hl (by decide) rfl (fun ls hl => ?_)
                    exact K3 _ ls (by subst_vars; unfold x_pack_j3; rw [if_pos c10, if_neg c11, if_neg c18, if_pos c21, if_neg c25]) (lv_sub hl [3, 4, 5, 6, 0] rfl)
                  · refine lv_lconst (v := 1) hx hb dX0_pack_116 (by decide) ?_
                    refine lv_goto (tgt := 121) hx hb dX0_pack_117 (by decide) ?_
                    refine lv_ladd hx hb dX0_pack_121 ?_
                    refine lv_topl (fun v27 ev27 => ?_)
                    refine lv_lstore (lv' := [(7, .long v27), (11, .long v16), (9, .long v14), (0, .int s), (1, .long w), (3, .int q), (5, .int j1), (6, .int j2)]) hx hb dX0_pack_122 hl (by decide) rfl (fun ls hl => ?_)
                    exact K3 _ ls (by subst_vars; unfold x_pack_j3; rw [if_pos c10, if_neg c11, if_neg c18, if_pos c21, if_pos c25]) (lv_sub hl [3, 4, 5, 6, 0] rfl)
          · refine lv_lload_n hx hb dX0_pack_49 rfl (lv_at hl 2 rfl) ?_
            refine lv_iload hx hb dX0_pack_50 (lv_at hl 5 rfl) ?_
            refine lv_ineg hx hb dX0_pack_52 ?_
            refine lv_topi (fun v28 ev28 => ?_)
            refine lv_lshl hx hb dX0_pack_53 rfl ?_
            refine lv_topl (fun v29 ev29 => ?_)
            refine lv_lstore (lv' := [(7, .long v29), (0, .int s), (1, .long w), (3, .int q), (5, .int j1), (6, .int j2)]) hx hb dX0_pack_54 hl (by decide) rfl (fun ls hl => ?_)
            refine lv_goto (tgt := 124) hx hb dX0_pack_56 (by decide) ?_
            exact K3 _ ls (by subst_vars; unfold x_pack_j3; rw [if_neg c10]) (lv_sub hl [1, 2, 3, 4, 0] rfl)
        · intro j3 ls ej3 hl
          refine jn2 (E1 := (x_pack_j4a w q)) (E2 := (x_pack_j4b w q)) (pcJ := 142) (nL := 13) (lv := fun j4a j4b => [(0, .int s), (1, .long w), (3, .int q), (7, .long j4a), (5, .int j4b)]) (sk := fun j4a j4b => []) (fun K4 => ?_) ?_
          · refine lv_lload hx hb dX0_pack_124 (lv_at hl 4 rfl) ?_
            refine lv_ldc2 hx hb cx.2.2.2.1 (cx.2.2.2.2.1 _ cs_X0_87) dX0_pack_126 ?_
            refine W.lcmp hx hb dX0_pack_129 ?_
            refine lv_topi (fun v30 ev30 => ?_)
            refine lv_if_lt (tgt := 142) hx hb dX0_pack_130 (by decide) (fun c31 => ?_) (fun c31 => ?_)
            · exact K4 _ _ ls (by subst_vars; unfold x_pack_j4a; rw [if_pos c31]) (by subst_vars; unfold x_pack_j4b; rw [if_pos c31]) (lv_sub hl [0, 1, 2, 4, 3] rfl)
            · refine lv_lload hx hb dX0_pack_133 (lv_at hl 4 rfl) ?_
              refine lv_iconst (v := 1) hx hb dX0_pack_135 (by decide) ?_
              refine lv_lshr hx hb dX0_pack_136 rfl ?_
              refine lv_topl (fun v32 ev32 => ?_)
              refine lv_lstore (lv' := [(7, .long v32), (0, .int s), (1, .long w), (3, .int q), (5, .int j1)]) hx hb dX0_pack_137 hl (by decide) rfl (fun ls hl => ?_)
              obtain ⟨v33, ev33⟩ : ∃ y : Int32, y = j1 + 1 := ⟨_, rfl⟩
              refine lv_iinc (v := v33) (lv' := [(5, .int v33), (7, .long v32), (0, .int s), (1, .long w), (3, .int q)]) hx hb dX0_pack_139 hl (k := 4) rfl (by rw [ev33]; rfl) (by decide) rfl (fun ls hl => ?_)
              exact K4 _ _ ls (by subst_vars; unfold x_pack_j4a; rw [if_neg c31]) (by subst_vars; unfold x_pack_j4b; rw [if_neg c31]) (lv_sub hl [2, 3, 4, 1, 0] rfl)
          · intro j4a j4b ls ej4a ej4b hl
            refine lv_iload hx hb dX0_pack_142 (lv_at hl 4 rfl) ?_
            refine lv_sipush (v := 150) hx hb dX0_pack_144 (by decide) ?_
            refine lv_iadd hx hb dX0_pack_147 ?_
            refine lv_topi (fun v34 ev34 => ?_)
            refine lv_sipush (v := 255) hx hb dX0_pack_148 (by decide) ?_
            refine lv_icmp_lt (tgt := 162) hx hb dX0_pack_151 (by decide) (fun c35 => ?_) (fun c35 => ?_)
            · refine jn1 (E := (x_pack_j5 w q)) (pcJ := 181) (nL := 13) (lv := fun j5 => [(0, .int s), (7, .long j4a)]) (sk := fun j5 => [.int j5]) (fun K5 => ?_) ?_
              · refine lv_lload hx hb dX0_pack_162 (lv_at hl 3 rfl) ?_
                refine lv_ldc2 hx hb cx.2.2.2.1 (cx.2.2.2.2.1 _ cs_X0_89) dX0_pack_164 ?_
                refine W.lcmp hx hb dX0_pack_167 ?_
                refine lv_topi (fun v36 ev36 => ?_)
                refine lv_if_ge (tgt := 175) hx hb dX0_pack_168 (by decide) (fun c37 => ?_) (fun c37 => ?_)
                · refine lv_iload hx hb dX0_pack_175 (lv_at hl 4 rfl) ?_
                  refine lv_sipush (v := 150) hx hb dX0_pack_177 (by decide) ?_
                  refine lv_iadd hx hb dX0_pack_180 ?_
                  refine lv_topi (fun v38 ev38 => ?_)
                  exact K5 _ ls (by subst_vars; unfold x_pack_j5; rw [if_pos c37]) (lv_sub hl [0, 3] rfl)
                · refine lv_iconst (v := 0) hx hb dX0_pack_171 (by decide) ?_
                  refine lv_goto (tgt := 181) hx hb dX0_pack_172 (by decide) ?_
                  exact K5 _ ls (by subst_vars; unfold x_pack_j5; rw [if_neg c37]) (lv_sub hl [0, 3] rfl)
              · intro j5 ls ej5 hl
                refine lv_istore (lv' := [(9, .int j5), (0, .int s), (7, .long j4a)]) hx hb dX0_pack_181 hl (by decide) rfl (fun ls hl => ?_)
                refine lv_iload_n hx hb dX0_pack_183 rfl (lv_at hl 1 rfl) ?_
                refine lv_bipush (v := 31) hx hb dX0_pack_184 (by decide) ?_
                refine lv_ishl hx hb dX0_pack_186 ?_
                refine lv_topi (fun v39 ev39 => ?_)
                refine lv_iload hx hb dX0_pack_187 (lv_at hl 0 rfl) ?_
                refine lv_bipush (v := 23) hx hb dX0_pack_189 (by decide) ?_
                refine lv_ishl hx hb dX0_pack_191 ?_
                refine lv_topi (fun v40 ev40 => ?_)
                refine lv_ior hx hb dX0_pack_192 ?_
                refine lv_topi (fun v41 ev41 => ?_)
                refine lv_lload hx hb dX0_pack_193 (lv_at hl 2 rfl) ?_
                refine lv_l2i hx hb dX0_pack_195 rfl ?_
                refine lv_topi (fun v42 ev42 => ?_)
                refine lv_ldc hx hb cx.2.2.2.1 (cx.2.2.2.2.1 _ cs_X0_75) dX0_pack_196 ?_
                refine lv_iand hx hb dX0_pack_198 ?_
                refine lv_topi (fun v43 ev43 => ?_)
                refine lv_ior hx hb dX0_pack_199 ?_
                refine lv_topi (fun v44 ev44 => ?_)
                have hw : Wd G A [] s.heap _ _ := hw.sub [] rfl rfl
                exact r_iret cx hr hlk () (by subst_vars; unfold x_pack; rw [if_neg c2, if_pos c35]) hw (Nat.le_of_ble_eq_true rfl) (Nat.le_of_ble_eq_true rfl) dX0_pack_200
            · refine lv_iload_n hx hb dX0_pack_154 rfl (lv_at hl 0 rfl) ?_
              refine lv_bipush (v := 31) hx hb dX0_pack_155 (by decide) ?_
              refine lv_ishl hx hb dX0_pack_157 ?_
              refine lv_topi (fun v45 ev45 => ?_)
              refine lv_ldc hx hb cx.2.2.2.1 (cx.2.2.2.2.1 _ cs_X0_71) dX0_pack_158 ?_
              refine lv_ior hx hb dX0_pack_160 ?_
              refine lv_topi (fun v46 ev46 => ?_)
              have hw : Wd G A [] s.heap _ _ := hw.sub [] rfl rfl
              exact r_iret cx hr hlk () (by subst_vars; unfold x_pack; rw [if_neg c2, if_neg c35]) hw (Nat.le_of_ble_eq_true rfl) (Nat.le_of_ble_eq_true rfl) dX0_pack_161
  · refine lv_iload_n hx hb dX0_pack_6 rfl (lv_at hl 0 rfl) ?_
    refine lv_bipush (v := 31) hx hb dX0_pack_7 (by decide) ?_
    refine lv_ishl hx hb dX0_pack_9 ?_
    refine lv_topi (fun v47 ev47 => ?_)
    have hw : Wd G A [] s.heap _ _ := hw.sub [] rfl rfl
    exact r_iret cx hr hlk () (by subst_vars; unfold x_pack; rw [if_pos c2]) hw (Nat.le_of_ble_eq_true rfl) (Nat.le_of_ble_eq_true rfl) dX0_pack_10

def x_add_j1 (x : Int32) (y : Int32) : Int32 := (if (x &&& (2147483647 : Int32)) < (y &&& (2147483647 : Int32)) then (y) else (x))
def x_add_j2 (x : Int32) (y : Int32) : Int32 := (if (x_add_j1 x y) = x then (y) else (x))
def x_add_j3 (x : Int32) (y : Int32) : Int32 := (((x_lastBitOf (x_add_j1 x y)) - (x_lastBitOf (x_add_j2 x y))))
def x_add (x : Int32) (y : Int32) : Int32 := (if (x &&& (2147483647 : Int32)) = (2139095040 : Int32) then (if (x ^^^ y) = (-2147483648 : Int32) then (2143289344) else (x)) else (if (y &&& (2147483647 : Int32)) = (2139095040 : Int32) then (if (x ^^^ y) = (-2147483648 : Int32) then (2143289344) else (y)) else (if (x_add_j3 x y) ≤ (36 : Int32) then (if (0 : Int32) ≤ (x ^^^ y) then (if (lg_cmp (((x_wholeOf (x_add_j1 x y)) <<< ((x_add_j3 x y).toInt64 &&& 63)) + (x_wholeOf (x_add_j2 x y))) (0 : Int64)) = (0 : Int32) then (((x &&& y) &&& (-2147483648 : Int32))) else ((x_pack ((x_add_j1 x y).toUInt32 >>> ((31 : Int32).toUInt32 &&& Int32.toUInt32 31)).toInt32 (((x_wholeOf (x_add_j1 x y)) <<< ((x_add_j3 x y).toInt64 &&& 63)) + (x_wholeOf (x_add_j2 x y))) (x_lastBitOf (x_add_j2 x y))))) else (if (lg_cmp (((x_wholeOf (x_add_j1 x y)) <<< ((x_add_j3 x y).toInt64 &&& 63)) - (x_wholeOf (x_add_j2 x y))) (0 : Int64)) = (0 : Int32) then (((x &&& y) &&& (-2147483648 : Int32))) else ((x_pack ((x_add_j1 x y).toUInt32 >>> ((31 : Int32).toUInt32 &&& Int32.toUInt32 31)).toInt32 (((x_wholeOf (x_add_j1 x y)) <<< ((x_add_j3 x y).toInt64 &&& 63)) - (x_wholeOf (x_add_j2 x y))) (x_lastBitOf (x_add_j2 x y)))))) else ((x_add_j1 x y)))))
set_option maxHeartbeats 4000000 in
set_option maxRecDepth 100000 in
theorem f_add (l : Launch) (G : Gt) (x : Int32) (y : Int32) : Mt l yX0_add cX0_add 8 (some .int) ({ frames := 3, cells := 0, slots := 0, locals := 75 } : Room) G [.int x, .int y] [] (qI G (fun (r : Int32) (w : Unit) => r = x_add x y) (fun w => [])) := by
  refine Mt.of (own := RX0) (cc := cX0_add) (by decide) rfl (Nat.le_of_ble_eq_true rfl) ?_
  intro p e s m below meth c A ls cx hr hlk hmn hA hl hw
  have hx := cx.1
  have hb := cx.2.1
  have hl : lv_has ls 8 [(0, .int x), (1, .int y)] := hl
  refine lv_iload_n hx hb dX0_add_0 rfl (lv_at hl 0 rfl) ?_
  refine lv_ldc hx hb cx.2.2.2.1 (cx.2.2.2.2.1 _ cs_X0_58) dX0_add_1 ?_
  refine lv_iand hx hb dX0_add_3 ?_
  refine lv_topi (fun v1 ev1 => ?_)
  refine lv_ldc hx hb cx.2.2.2.1 (cx.2.2.2.2.1 _ cs_X0_71) dX0_add_4 ?_
  refine lv_icmp_ne (tgt := 13) hx hb dX0_add_6 (by decide) (fun c2 => ?_) (fun c2 => ?_)
  · refine lv_iconst (v := 0) hx hb dX0_add_13 (by decide) ?_
    refine lv_istore_n (lv' := [(2, .int 0), (0, .int x), (1, .int y)]) hx hb dX0_add_14 rfl hl (by decide) rfl (fun ls hl => ?_)
    refine lv_iload_n hx hb dX0_add_15 rfl (lv_at hl 0 rfl) ?_
    refine lv_if_ne (tgt := 28) hx hb dX0_add_16 (by decide) (fun c9 => absurd (by decide) c9) (fun _ => ?_)
    refine lv_iload_n hx hb dX0_add_19 rfl (lv_at hl 2 rfl) ?_
    refine lv_ldc hx hb cx.2.2.2.1 (cx.2.2.2.2.1 _ cs_X0_58) dX0_add_20 ?_
    refine lv_iand hx hb dX0_add_22 ?_
    refine lv_topi (fun v3 ev3 => ?_)
    refine lv_ldc hx hb cx.2.2.2.1 (cx.2.2.2.2.1 _ cs_X0_71) dX0_add_23 ?_
    refine lv_icmp_ne (tgt := 61) hx hb dX0_add_25 (by decide) (fun c4 => ?_) (fun c4 => ?_)
    · refine jn1 (E := (x_add_j1 x y)) (pcJ := 78) (nL := 8) (lv := fun j1 => [(0, .int x), (1, .int y), (3, .int j1)]) (sk := fun j1 => []) (fun K1 => ?_) ?_
      · refine lv_iload_n hx hb dX0_add_61 rfl (lv_at hl 1 rfl) ?_
        refine lv_ldc hx hb cx.2.2.2.1 (cx.2.2.2.2.1 _ cs_X0_58) dX0_add_62 ?_
        refine lv_iand hx hb dX0_add_64 ?_
        refine lv_topi (fun v5 ev5 => ?_)
        refine lv_iload_n hx hb dX0_add_65 rfl (lv_at hl 2 rfl) ?_
        refine lv_ldc hx hb cx.2.2.2.1 (cx.2.2.2.2.1 _ cs_X0_58) dX0_add_66 ?_
        refine lv_iand hx hb dX0_add_68 ?_
        refine lv_topi (fun v6 ev6 => ?_)
        refine lv_icmp_lt (tgt := 76) hx hb dX0_add_69 (by decide) (fun c7 => ?_) (fun c7 => ?_)
        · refine lv_iload_n hx hb dX0_add_76 rfl (lv_at hl 2 rfl) ?_
          refine lv_istore_n (lv' := [(3, .int y), (2, .int 0), (0, .int x), (1, .int y)]) hx hb dX0_add_77 rfl hl (by decide) rfl (fun ls hl => ?_)
          exact K1 _ ls (by subst_vars; unfold x_add_j1; rw [if_pos c7]) (lv_sub hl [2, 3, 0] rfl)
        · refine lv_iload_n hx hb dX0_add_72 rfl (lv_at hl 1 rfl) ?_
          refine lv_goto (tgt := 77) hx hb dX0_add_73 (by decide) ?_
          refine lv_istore_n (lv' := [(3, .int x), (2, .int 0), (0, .int x), (1, .int y)]) hx hb dX0_add_77 rfl hl (by decide) rfl (fun ls hl => ?_)
          exact K1 _ ls (by subst_vars; unfold x_add_j1; rw [if_neg c7]) (lv_sub hl [2, 3, 0] rfl)
      · intro j1 ls ej1 hl
        refine jn1 (E := (x_add_j2 x y)) (pcJ := 90) (nL := 8) (lv := fun j2 => [(0, .int x), (1, .int y), (3, .int j1), (4, .int j2)]) (sk := fun j2 => []) (fun K2 => ?_) ?_
        · refine lv_iload_n hx hb dX0_add_78 rfl (lv_at hl 2 rfl) ?_
          refine lv_iload_n hx hb dX0_add_79 rfl (lv_at hl 0 rfl) ?_
          refine lv_icmp_ne (tgt := 87) hx hb dX0_add_80 (by decide) (fun c8 => ?_) (fun c8 => ?_)
          · refine lv_iload_n hx hb dX0_add_87 rfl (lv_at hl 0 rfl) ?_
            refine lv_istore (lv' := [(4, .int x), (0, .int x), (1, .int y), (3, .int j1)]) hx hb dX0_add_88 hl (by decide) rfl (fun ls hl => ?_)
            exact K2 _ ls (by subst_vars; unfold x_add_j2; rw [if_neg c8]) (lv_sub hl [1, 2, 3, 0] rfl)
          · refine lv_iload_n hx hb dX0_add_83 rfl (lv_at hl 1 rfl) ?_
            refine lv_goto (tgt := 88) hx hb dX0_add_84 (by decide) ?_
            refine lv_istore (lv' := [(4, .int y), (0, .int x), (1, .int y), (3, .int j1)]) hx hb dX0_add_88 hl (by decide) rfl (fun ls hl => ?_)
            exact K2 _ ls (by subst_vars; unfold x_add_j2; rw [if_pos c8]) (lv_sub hl [1, 2, 3, 0] rfl)
        · intro j2 ls ej2 hl
          refine lv_iload_n hx hb dX0_add_90 rfl (lv_at hl 2 rfl) ?_
          refine r_callS0I (As := [.int j1]) (rest := []) cx hw hA (f_lastBitOf l G j1) ml_X0_63 st_X0_lastBitOf in_X0 co_X0_lastBitOf hd_X0_lastBitOf rfl ⟨Nat.le_of_ble_eq_true rfl, Nat.le_of_ble_eq_true rfl⟩ hl.1 rfl (Nat.le_of_ble_eq_true rfl) dX0_add_91 ⟨Nat.le_of_ble_eq_true rfl, Nat.le_of_ble_eq_true rfl⟩ (fun r10 H locs hr10 hw => ?_)
          refine lv_iload hx hb dX0_add_94 (lv_at hl 3 rfl) ?_
          refine r_callS0I (As := [.int j2]) (rest := [.int r10]) cx hw hA (f_lastBitOf l G j2) ml_X0_63 st_X0_lastBitOf in_X0 co_X0_lastBitOf hd_X0_lastBitOf rfl ⟨Nat.le_of_ble_eq_true rfl, Nat.le_of_ble_eq_true rfl⟩ hl.1 rfl (Nat.le_of_ble_eq_true rfl) dX0_add_96 ⟨Nat.le_of_ble_eq_true rfl, Nat.le_of_ble_eq_true rfl⟩ (fun r12 H locs hr12 hw => ?_)
          refine jn1 (E := (x_add_j3 x y)) (pcJ := 102) (nL := 8) (lv := fun j3 => [(0, .int x), (1, .int y), (3, .int j1), (4, .int j2), (5, .int j3)]) (sk := fun j3 => []) (fun K3 => ?_) ?_
          · refine lv_isub hx hb dX0_add_99 ?_
            refine lv_topi (fun v13 ev13 => ?_)
            refine lv_istore (lv' := [(5, .int v13), (0, .int x), (1, .int y), (3, .int j1), (4, .int j2)]) hx hb dX0_add_100 hl (by decide) rfl (fun ls hl => ?_)
            exact K3 _ ls (by subst_vars; unfold x_add_j3; rfl) (lv_sub hl [1, 2, 3, 4, 0] rfl)
          · intro j3 ls ej3 hl
            refine lv_iload hx hb dX0_add_102 (lv_at hl 4 rfl) ?_
            refine lv_bipush (v := 36) hx hb dX0_add_104 (by decide) ?_
            refine lv_icmp_le (tgt := 111) hx hb dX0_add_106 (by decide) (fun c14 => ?_) (fun c14 => ?_)
            · refine lv_iload_n hx hb dX0_add_111 rfl (lv_at hl 2 rfl) ?_
              refine r_callS0L (As := [.int j1]) (rest := []) cx hw hA (f_wholeOf l G j1) ml_X0_67 st_X0_wholeOf in_X0 co_X0_wholeOf hd_X0_wholeOf rfl ⟨Nat.le_of_ble_eq_true rfl, Nat.le_of_ble_eq_true rfl⟩ hl.1 rfl (Nat.le_of_ble_eq_true rfl) dX0_add_112 ⟨Nat.le_of_ble_eq_true rfl, Nat.le_of_ble_eq_true rfl⟩ (fun r16 H locs hr16 hw => ?_)
              refine lv_iload hx hb dX0_add_115 (lv_at hl 4 rfl) ?_
              refine lv_lshl hx hb dX0_add_117 rfl ?_
              refine lv_topl (fun v17 ev17 => ?_)
              refine lv_lstore (lv' := [(6, .long v17), (0, .int x), (1, .int y), (3, .int j1), (4, .int j2), (5, .int j3)]) hx hb dX0_add_118 hl (by decide) rfl (fun ls hl => ?_)
              refine lv_iload_n hx hb dX0_add_120 rfl (lv_at hl 1 rfl) ?_
              refine lv_iload_n hx hb dX0_add_121 rfl (lv_at hl 2 rfl) ?_
              refine lv_ixor hx hb dX0_add_122 ?_
              refine lv_topi (fun v18 ev18 => ?_)
              refine lv_if_ge (tgt := 137) hx hb dX0_add_123 (by decide) (fun c19 => ?_) (fun c19 => ?_)
              · refine lv_lload hx hb dX0_add_137 (lv_at hl 0 rfl) ?_
                refine lv_iload hx hb dX0_add_139 (lv_at hl 4 rfl) ?_
                refine r_callS0L (As := [.int j2]) (rest := [.long v17]) cx hw hA (f_wholeOf l G j2) ml_X0_67 st_X0_wholeOf in_X0 co_X0_wholeOf hd_X0_wholeOf rfl ⟨Nat.le_of_ble_eq_true rfl, Nat.le_of_ble_eq_true rfl⟩ hl.1 rfl (Nat.le_of_ble_eq_true rfl) dX0_add_141 ⟨Nat.le_of_ble_eq_true rfl, Nat.le_of_ble_eq_true rfl⟩ (fun r21 H locs hr21 hw => ?_)
                refine lv_ladd hx hb dX0_add_144 ?_
                refine lv_topl (fun v22 ev22 => ?_)
                refine lv_lstore (lv' := [(6, .long v22), (0, .int x), (1, .int y), (3, .int j1), (4, .int j2), (5, .int j3)]) hx hb dX0_add_145 hl (by decide) rfl (fun ls hl => ?_)
                refine lv_lload hx hb dX0_add_147 (lv_at hl 0 rfl) ?_
                refine lv_lconst (v := 0) hx hb dX0_add_149 (by decide) ?_
                refine W.lcmp hx hb dX0_add_150 ?_
                refine lv_topi (fun v23 ev23 => ?_)
                refine lv_if_ne (tgt := 161) hx hb dX0_add_151 (by decide) (fun c24 => ?_) (fun c24 => ?_)
                · refine lv_iload_n hx hb dX0_add_161 rfl (lv_at hl 3 rfl) ?_
                  refine lv_bipush (v := 31) hx hb dX0_add_162 (by decide) ?_
                  refine lv_iushr hx hb dX0_add_164 rfl ?_
                  refine lv_topi (fun v25 ev25 => ?_)
                  refine lv_lload hx hb dX0_add_165 (lv_at hl 0 rfl) ?_
                  refine lv_iload hx hb dX0_add_167 (lv_at hl 4 rfl) ?_
                  refine r_callS0I (As := [.int j2]) (rest := [.long v22, .int v25]) cx hw hA (f_lastBitOf l G j2) ml_X0_63 st_X0_lastBitOf in_X0 co_X0_lastBitOf hd_X0_lastBitOf rfl ⟨Nat.le_of_ble_eq_true rfl, Nat.le_of_ble_eq_true rfl⟩ hl.1 rfl (Nat.le_of_ble_eq_true rfl) dX0_add_169 ⟨Nat.le_of_ble_eq_true rfl, Nat.le_of_ble_eq_true rfl⟩ (fun r27 H locs hr27 hw => ?_)
                  refine r_callS0I (As := [.int v25, .long v22, .int r27]) (rest := []) cx hw hA (f_pack l G v25 v22 r27) ml_X0_59 st_X0_pack in_X0 co_X0_pack hd_X0_pack rfl ⟨Nat.le_of_ble_eq_true rfl, Nat.le_of_ble_eq_true rfl⟩ hl.1 rfl (Nat.le_of_ble_eq_true rfl) dX0_add_172 ⟨Nat.le_of_ble_eq_true rfl, Nat.le_of_ble_eq_true rfl⟩ (fun r29 H locs hr29 hw => ?_)
                  have hw : Wd G A [] s.heap _ _ := hw.sub [] rfl rfl
                  exact r_iret cx hr hlk () (by subst_vars; unfold x_add; rw [if_neg c2, if_neg c4, if_pos c14, if_pos c19, if_neg c24]) hw (Nat.le_of_ble_eq_true rfl) (Nat.le_of_ble_eq_true rfl) dX0_add_175
                · refine lv_iload_n hx hb dX0_add_154 rfl (lv_at hl 1 rfl) ?_
                  refine lv_iload_n hx hb dX0_add_155 rfl (lv_at hl 2 rfl) ?_
                  refine lv_iand hx hb dX0_add_156 ?_
                  refine lv_topi (fun v30 ev30 => ?_)
                  refine lv_ldc hx hb cx.2.2.2.1 (cx.2.2.2.2.1 _ cs_X0_51) dX0_add_157 ?_
                  refine lv_iand hx hb dX0_add_159 ?_
                  refine lv_topi (fun v31 ev31 => ?_)
                  have hw : Wd G A [] s.heap _ _ := hw.sub [] rfl rfl
                  exact r_iret cx hr hlk () (by subst_vars; unfold x_add; rw [if_neg c2, if_neg c4, if_pos c14, if_pos c19, if_pos c24]) hw (Nat.le_of_ble_eq_true rfl) (Nat.le_of_ble_eq_true rfl) dX0_add_160
              · refine lv_lload hx hb dX0_add_126 (lv_at hl 0 rfl) ?_
                refine lv_iload hx hb dX0_add_128 (lv_at hl 4 rfl) ?_
                refine r_callS0L (As := [.int j2]) (rest := [.long v17]) cx hw hA (f_wholeOf l G j2) ml_X0_67 st_X0_wholeOf in_X0 co_X0_wholeOf hd_X0_wholeOf rfl ⟨Nat.le_of_ble_eq_true rfl, Nat.le_of_ble_eq_true rfl⟩ hl.1 rfl (Nat.le_of_ble_eq_true rfl) dX0_add_130 ⟨Nat.le_of_ble_eq_true rfl, Nat.le_of_ble_eq_true rfl⟩ (fun r33 H locs hr33 hw => ?_)
                refine lv_lsub hx hb dX0_add_133 ?_
                refine lv_topl (fun v34 ev34 => ?_)
                refine lv_goto (tgt := 145) hx hb dX0_add_134 (by decide) ?_
                refine lv_lstore (lv' := [(6, .long v34), (0, .int x), (1, .int y), (3, .int j1), (4, .int j2), (5, .int j3)]) hx hb dX0_add_145 hl (by decide) rfl (fun ls hl => ?_)
                refine lv_lload hx hb dX0_add_147 (lv_at hl 0 rfl) ?_
                refine lv_lconst (v := 0) hx hb dX0_add_149 (by decide) ?_
                refine W.lcmp hx hb dX0_add_150 ?_
                refine lv_topi (fun v35 ev35 => ?_)
                refine lv_if_ne (tgt := 161) hx hb dX0_add_151 (by decide) (fun c36 => ?_) (fun c36 => ?_)
                · refine lv_iload_n hx hb dX0_add_161 rfl (lv_at hl 3 rfl) ?_
                  refine lv_bipush (v := 31) hx hb dX0_add_162 (by decide) ?_
                  refine lv_iushr hx hb dX0_add_164 rfl ?_
                  refine lv_topi (fun v37 ev37 => ?_)
                  refine lv_lload hx hb dX0_add_165 (lv_at hl 0 rfl) ?_
                  refine lv_iload hx hb dX0_add_167 (lv_at hl 4 rfl) ?_
                  refine r_callS0I (As := [.int j2]) (rest := [.long v34, .int v37]) cx hw hA (f_lastBitOf l G j2) ml_X0_63 st_X0_lastBitOf in_X0 co_X0_lastBitOf hd_X0_lastBitOf rfl ⟨Nat.le_of_ble_eq_true rfl, Nat.le_of_ble_eq_true rfl⟩ hl.1 rfl (Nat.le_of_ble_eq_true rfl) dX0_add_169 ⟨Nat.le_of_ble_eq_true rfl, Nat.le_of_ble_eq_true rfl⟩ (fun r39 H locs hr39 hw => ?_)
                  refine r_callS0I (As := [.int v37, .long v34, .int r39]) (rest := []) cx hw hA (f_pack l G v37 v34 r39) ml_X0_59 st_X0_pack in_X0 co_X0_pack hd_X0_pack rfl ⟨Nat.le_of_ble_eq_true rfl, Nat.le_of_ble_eq_true rfl⟩ hl.1 rfl (Nat.le_of_ble_eq_true rfl) dX0_add_172 ⟨Nat.le_of_ble_eq_true rfl, Nat.le_of_ble_eq_true rfl⟩ (fun r41 H locs hr41 hw => ?_)
                  have hw : Wd G A [] s.heap _ _ := hw.sub [] rfl rfl
                  exact r_iret cx hr hlk () (by subst_vars; unfold x_add; rw [if_neg c2, if_neg c4, if_pos c14, if_neg c19, if_neg c36]) hw (Nat.le_of_ble_eq_true rfl) (Nat.le_of_ble_eq_true rfl) dX0_add_175
                · refine lv_iload_n hx hb dX0_add_154 rfl (lv_at hl 1 rfl) ?_
                  refine lv_iload_n hx hb dX0_add_155 rfl (lv_at hl 2 rfl) ?_
                  refine lv_iand hx hb dX0_add_156 ?_
                  refine lv_topi (fun v42 ev42 => ?_)
                  refine lv_ldc hx hb cx.2.2.2.1 (cx.2.2.2.2.1 _ cs_X0_51) dX0_add_157 ?_
                  refine lv_iand hx hb dX0_add_159 ?_
                  refine lv_topi (fun v43 ev43 => ?_)
                  have hw : Wd G A [] s.heap _ _ := hw.sub [] rfl rfl
                  exact r_iret cx hr hlk () (by subst_vars; unfold x_add; rw [if_neg c2, if_neg c4, if_pos c14, if_neg c19, if_pos c36]) hw (Nat.le_of_ble_eq_true rfl) (Nat.le_of_ble_eq_true rfl) dX0_add_160
            · refine lv_iload_n hx hb dX0_add_109 rfl (lv_at hl 2 rfl) ?_
              have hw : Wd G A [] s.heap _ _ := hw.sub [] rfl rfl
              exact r_iret cx hr hlk () (by subst_vars; unfold x_add; rw [if_neg c2, if_neg c4, if_neg c14]) hw (Nat.le_of_ble_eq_true rfl) (Nat.le_of_ble_eq_true rfl) dX0_add_110
    · refine lv_iload_n hx hb dX0_add_28 rfl (lv_at hl 1 rfl) ?_
      refine lv_iload_n hx hb dX0_add_29 rfl (lv_at hl 2 rfl) ?_
      refine lv_ixor hx hb dX0_add_30 ?_
      refine lv_topi (fun v44 ev44 => ?_)
      refine lv_ldc hx hb cx.2.2.2.1 (cx.2.2.2.2.1 _ cs_X0_51) dX0_add_31 ?_
      refine lv_icmp_ne (tgt := 40) hx hb dX0_add_33 (by decide) (fun c45 => ?_) (fun c45 => ?_)
      · refine lv_iconst (v := 0) hx hb dX0_add_40 (by decide) ?_
        refine lv_istore_n (lv' := [(3, .int 0), (2, .int 0), (0, .int x), (1, .int y)]) hx hb dX0_add_41 rfl hl (by decide) rfl (fun ls hl => ?_)
        refine lv_iload_n hx hb dX0_add_42 rfl (lv_at hl 0 rfl) ?_
        refine lv_if_eq (tgt := 51) hx hb dX0_add_43 (by decide) (fun _ => ?_) (fun c9 => absurd (by decide) c9)
        refine lv_iload_n hx hb dX0_add_51 rfl (lv_at hl 1 rfl) ?_
        refine lv_if_eq (tgt := 59) hx hb dX0_add_52 (by decide) (fun _ => ?_) (fun c9 => absurd (by decide) c9)
        refine lv_iload_n hx hb dX0_add_59 rfl (lv_at hl 3 rfl) ?_
        have hw : Wd G A [] s.heap _ _ := hw.sub [] rfl rfl
        exact r_iret cx hr hlk () (by subst_vars; unfold x_add; rw [if_neg c2, if_pos c4, if_neg c45]) hw (Nat.le_of_ble_eq_true rfl) (Nat.le_of_ble_eq_true rfl) dX0_add_60
      · refine lv_iconst (v := 1) hx hb dX0_add_36 (by decide) ?_
        refine lv_goto (tgt := 41) hx hb dX0_add_37 (by decide) ?_
        refine lv_istore_n (lv' := [(3, .int 1), (2, .int 0), (0, .int x), (1, .int y)]) hx hb dX0_add_41 rfl hl (by decide) rfl (fun ls hl => ?_)
        refine lv_iload_n hx hb dX0_add_42 rfl (lv_at hl 0 rfl) ?_
        refine lv_if_eq (tgt := 51) hx hb dX0_add_43 (by decide) (fun c9 => absurd c9 (by decide)) (fun _ => ?_)
        refine lv_ldc hx hb cx.2.2.2.1 (cx.2.2.2.2.1 _ cs_X0_47) dX0_add_46 ?_
        refine lv_goto (tgt := 60) hx hb dX0_add_48 (by decide) ?_
        have hw : Wd G A [] s.heap _ _ := hw.sub [] rfl rfl
        exact r_iret cx hr hlk () (by subst_vars; unfold x_add; rw [if_neg c2, if_pos c4, if_pos c45]) hw (Nat.le_of_ble_eq_true rfl) (Nat.le_of_ble_eq_true rfl) dX0_add_60
  · refine lv_iconst (v := 1) hx hb dX0_add_9 (by decide) ?_
    refine lv_goto (tgt := 14) hx hb dX0_add_10 (by decide) ?_
    refine lv_istore_n (lv' := [(2, .int 1), (0, .int x), (1, .int y)]) hx hb dX0_add_14 rfl hl (by decide) rfl (fun ls hl => ?_)
    refine lv_iload_n hx hb dX0_add_15 rfl (lv_at hl 0 rfl) ?_
    refine lv_if_ne (tgt := 28) hx hb dX0_add_16 (by decide) (fun _ => ?_) (fun c9 => absurd c9 (by decide))
    refine lv_iload_n hx hb dX0_add_28 rfl (lv_at hl 1 rfl) ?_
    refine lv_iload_n hx hb dX0_add_29 rfl (lv_at hl 2 rfl) ?_
    refine lv_ixor hx hb dX0_add_30 ?_
    refine lv_topi (fun v46 ev46 => ?_)
    refine lv_ldc hx hb cx.2.2.2.1 (cx.2.2.2.2.1 _ cs_X0_51) dX0_add_31 ?_
    refine lv_icmp_ne (tgt := 40) hx hb dX0_add_33 (by decide) (fun c47 => ?_) (fun c47 => ?_)
    · refine lv_iconst (v := 0) hx hb dX0_add_40 (by decide) ?_
      refine lv_istore_n (lv' := [(3, .int 0), (2, .int 1), (0, .int x), (1, .int y)]) hx hb dX0_add_41 rfl hl (by decide) rfl (fun ls hl => ?_)
      refine lv_iload_n hx hb dX0_add_42 rfl (lv_at hl 0 rfl) ?_
      refine lv_if_eq (tgt := 51) hx hb dX0_add_43 (by decide) (fun _ => ?_) (fun c9 => absurd (by decide) c9)
      refine lv_iload_n hx hb dX0_add_51 rfl (lv_at hl 1 rfl) ?_
      refine lv_if_eq (tgt := 59) hx hb dX0_add_52 (by decide) (fun c9 => absurd c9 (by decide)) (fun _ => ?_)
      refine lv_iload_n hx hb dX0_add_55 rfl (lv_at hl 2 rfl) ?_
      refine lv_goto (tgt := 60) hx hb dX0_add_56 (by decide) ?_
      have hw : Wd G A [] s.heap _ _ := hw.sub [] rfl rfl
      exact r_iret cx hr hlk () (by subst_vars; unfold x_add; rw [if_pos c2, if_neg c47]) hw (Nat.le_of_ble_eq_true rfl) (Nat.le_of_ble_eq_true rfl) dX0_add_60
    · refine lv_iconst (v := 1) hx hb dX0_add_36 (by decide) ?_
      refine lv_goto (tgt := 41) hx hb dX0_add_37 (by decide) ?_
      refine lv_istore_n (lv' := [(3, .int 1), (2, .int 1), (0, .int x), (1, .int y)]) hx hb dX0_add_41 rfl hl (by decide) rfl (fun ls hl => ?_)
      refine lv_iload_n hx hb dX0_add_42 rfl (lv_at hl 0 rfl) ?_
      refine lv_if_eq (tgt := 51) hx hb dX0_add_43 (by decide) (fun c9 => absurd c9 (by decide)) (fun _ => ?_)
      refine lv_ldc hx hb cx.2.2.2.1 (cx.2.2.2.2.1 _ cs_X0_47) dX0_add_46 ?_
      refine lv_goto (tgt := 60) hx hb dX0_add_48 (by decide) ?_
      have hw : Wd G A [] s.heap _ _ := hw.sub [] rfl rfl
      exact r_iret cx hr hlk () (by subst_vars; unfold x_add; rw [if_pos c2, if_pos c47]) hw (Nat.le_of_ble_eq_true rfl) (Nat.le_of_ble_eq_true rfl) dX0_add_60

def x_mul (x : Int32) (y : Int32) : Int32 := (if (x &&& (2147483647 : Int32)) = (2139095040 : Int32) then (if (x &&& (2147483647 : Int32)) = (0 : Int32) then (2143289344) else (if (y &&& (2147483647 : Int32)) = (0 : Int32) then (2143289344) else (((((x ^^^ y).toUInt32 >>> ((31 : Int32).toUInt32 &&& Int32.toUInt32 31)).toInt32 <<< ((31 : Int32) &&& 31)) ||| (2139095040 : Int32))))) else (if (y &&& (2147483647 : Int32)) = (2139095040 : Int32) then (if (x &&& (2147483647 : Int32)) = (0 : Int32) then (2143289344) else (if (y &&& (2147483647 : Int32)) = (0 : Int32) then (2143289344) else (((((x ^^^ y).toUInt32 >>> ((31 : Int32).toUInt32 &&& Int32.toUInt32 31)).toInt32 <<< ((31 : Int32) &&& 31)) ||| (2139095040 : Int32))))) else (if (x &&& (2147483647 : Int32)) = (0 : Int32) then ((x_pack ((x ^^^ y).toUInt32 >>> ((31 : Int32).toUInt32 &&& Int32.toUInt32 31)).toInt32 ((x_wholeOf x) * (x_wholeOf y)) ((x_lastBitOf x) + (x_lastBitOf y)))) else (if (y &&& (2147483647 : Int32)) = (0 : Int32) then ((x_pack ((x ^^^ y).toUInt32 >>> ((31 : Int32).toUInt32 &&& Int32.toUInt32 31)).toInt32 ((x_wholeOf x) * (x_wholeOf y)) ((x_lastBitOf x) + (x_lastBitOf y)))) else ((x_pack ((x ^^^ y).toUInt32 >>> ((31 : Int32).toUInt32 &&& Int32.toUInt32 31)).toInt32 ((x_wholeOf x) * (x_wholeOf y)) ((x_lastBitOf x) + (x_lastBitOf y))))))))
set_option maxHeartbeats 4000000 in
set_option maxRecDepth 100000 in
theorem f_mul (l : Launch) (G : Gt) (x : Int32) (y : Int32) : Mt l yX0_multiply cX0_multiply 5 (some .int) ({ frames := 3, cells := 0, slots := 0, locals := 75 } : Room) G [.int x, .int y] [] (qI G (fun (r : Int32) (w : Unit) => r = x_mul x y) (fun w => [])) := by
  refine Mt.of (own := RX0) (cc := cX0_multiply) (by decide) rfl (Nat.le_of_ble_eq_true rfl) ?_
  intro p e s m below meth c A ls cx hr hlk hmn hA hl hw
  have hx := cx.1
  have hb := cx.2.1
  have hl : lv_has ls 5 [(0, .int x), (1, .int y)] := hl
  refine lv_iload_n hx hb dX0_multiply_0 rfl (lv_at hl 0 rfl) ?_
  refine lv_iload_n hx hb dX0_multiply_1 rfl (lv_at hl 1 rfl) ?_
  refine lv_ixor hx hb dX0_multiply_2 ?_
  refine lv_topi (fun v1 ev1 => ?_)
  refine lv_bipush (v := 31) hx hb dX0_multiply_3 (by decide) ?_
  refine lv_iushr hx hb dX0_multiply_5 rfl ?_
  refine lv_topi (fun v2 ev2 => ?_)
  refine lv_istore_n (lv' := [(2, .int v2), (0, .int x), (1, .int y)]) hx hb dX0_multiply_6 rfl hl (by decide) rfl (fun ls hl => ?_)
  refine lv_iload_n hx hb dX0_multiply_7 rfl (lv_at hl 1 rfl) ?_
  refine lv_ldc hx hb cx.2.2.2.1 (cx.2.2.2.2.1 _ cs_X0_58) dX0_multiply_8 ?_
  refine lv_iand hx hb dX0_multiply_10 ?_
  refine lv_topi (fun v3 ev3 => ?_)
  refine lv_ldc hx hb cx.2.2.2.1 (cx.2.2.2.2.1 _ cs_X0_71) dX0_multiply_11 ?_
  refine lv_icmp_eq (tgt := 25) hx hb dX0_multiply_13 (by decide) (fun c4 => ?_) (fun c4 => ?_)
  · refine lv_iconst (v := 1) hx hb dX0_multiply_25 (by decide) ?_
    refine lv_goto (tgt := 30) hx hb dX0_multiply_26 (by decide) ?_
    refine lv_istore_n (lv' := [(3, .int 1), (2, .int v2), (0, .int x), (1, .int y)]) hx hb dX0_multiply_30 rfl hl (by decide) rfl (fun ls hl => ?_)
    refine lv_iload_n hx hb dX0_multiply_31 rfl (lv_at hl 2 rfl) ?_
    refine lv_ldc hx hb cx.2.2.2.1 (cx.2.2.2.2.1 _ cs_X0_58) dX0_multiply_32 ?_
    refine lv_iand hx hb dX0_multiply_34 ?_
    refine lv_topi (fun v5 ev5 => ?_)
    refine lv_if_eq (tgt := 45) hx hb dX0_multiply_35 (by decide) (fun c6 => ?_) (fun c6 => ?_)
    · refine lv_iconst (v := 1) hx hb dX0_multiply_45 (by decide) ?_
      refine lv_goto (tgt := 50) hx hb dX0_multiply_46 (by decide) ?_
      refine lv_istore (lv' := [(4, .int 1), (3, .int 1), (2, .int v2), (0, .int x), (1, .int y)]) hx hb dX0_multiply_50 hl (by decide) rfl (fun ls hl => ?_)
      refine lv_iload_n hx hb dX0_multiply_52 rfl (lv_at hl 1 rfl) ?_
      refine lv_if_eq (tgt := 74) hx hb dX0_multiply_53 (by decide) (fun c9 => absurd c9 (by decide)) (fun _ => ?_)
      refine lv_iload hx hb dX0_multiply_56 (lv_at hl 0 rfl) ?_
      refine lv_if_eq (tgt := 66) hx hb dX0_multiply_58 (by decide) (fun c9 => absurd c9 (by decide)) (fun _ => ?_)
      refine lv_ldc hx hb cx.2.2.2.1 (cx.2.2.2.2.1 _ cs_X0_47) dX0_multiply_61 ?_
      refine lv_goto (tgt := 73) hx hb dX0_multiply_63 (by decide) ?_
      have hw : Wd G A [] s.heap _ _ := hw.sub [] rfl rfl
      exact r_iret cx hr hlk () (by subst_vars; unfold x_mul; rw [if_pos c4, if_pos c6]) hw (Nat.le_of_ble_eq_true rfl) (Nat.le_of_ble_eq_true rfl) dX0_multiply_73
    · refine lv_iload_n hx hb dX0_multiply_38 rfl (lv_at hl 3 rfl) ?_
      refine lv_ldc hx hb cx.2.2.2.1 (cx.2.2.2.2.1 _ cs_X0_58) dX0_multiply_39 ?_
      refine lv_iand hx hb dX0_multiply_41 ?_
      refine lv_topi (fun v7 ev7 => ?_)
      refine lv_if_ne (tgt := 49) hx hb dX0_multiply_42 (by decide) (fun c8 => ?_) (fun c8 => ?_)
      · refine lv_iconst (v := 0) hx hb dX0_multiply_49 (by decide) ?_
        refine lv_istore (lv' := [(4, .int 0), (3, .int 1), (2, .int v2), (0, .int x), (1, .int y)]) hx hb dX0_multiply_50 hl (by decide) rfl (fun ls hl => ?_)
        refine lv_iload_n hx hb dX0_multiply_52 rfl (lv_at hl 1 rfl) ?_
        refine lv_if_eq (tgt := 74) hx hb dX0_multiply_53 (by decide) (fun c9 => absurd c9 (by decide)) (fun _ => ?_)
        refine lv_iload hx hb dX0_multiply_56 (lv_at hl 0 rfl) ?_
        refine lv_if_eq (tgt := 66) hx hb dX0_multiply_58 (by decide) (fun _ => ?_) (fun c9 => absurd (by decide) c9)
        refine lv_iload_n hx hb dX0_multiply_66 rfl (lv_at hl 2 rfl) ?_
        refine lv_bipush (v := 31) hx hb dX0_multiply_67 (by decide) ?_
        refine lv_ishl hx hb dX0_multiply_69 ?_
        refine lv_topi (fun v9 ev9 => ?_)
        refine lv_ldc hx hb cx.2.2.2.1 (cx.2.2.2.2.1 _ cs_X0_71) dX0_multiply_70 ?_
        refine lv_ior hx hb dX0_multiply_72 ?_
        refine lv_topi (fun v10 ev10 => ?_)
        have hw : Wd G A [] s.heap _ _ := hw.sub [] rfl rfl
        exact r_iret cx hr hlk () (by subst_vars; unfold x_mul; rw [if_pos c4, if_neg c6, if_neg c8]) hw (Nat.le_of_ble_eq_true rfl) (Nat.le_of_ble_eq_true rfl) dX0_multiply_73
      · refine lv_iconst (v := 1) hx hb dX0_multiply_45 (by decide) ?_
        refine lv_goto (tgt := 50) hx hb dX0_multiply_46 (by decide) ?_
        refine lv_istore (lv' := [(4, .int 1), (3, .int 1), (2, .int v2), (0, .int x), (1, .int y)]) hx hb dX0_multiply_50 hl (by decide) rfl (fun ls hl => ?_)
        refine lv_iload_n hx hb dX0_multiply_52 rfl (lv_at hl 1 rfl) ?_
        refine lv_if_eq (tgt := 74) hx hb dX0_multiply_53 (by decide) (fun c9 => absurd c9 (by decide)) (fun _ => ?_)
        refine lv_iload hx hb dX0_multiply_56 (lv_at hl 0 rfl) ?_
        refine lv_if_eq (tgt := 66) hx hb dX0_multiply_58 (by decide) (fun c9 => absurd c9 (by decide)) (fun _ => ?_)
        refine lv_ldc hx hb cx.2.2.2.1 (cx.2.2.2.2.1 _ cs_X0_47) dX0_multiply_61 ?_
        refine lv_goto (tgt := 73) hx hb dX0_multiply_63 (by decide) ?_
        have hw : Wd G A [] s.heap _ _ := hw.sub [] rfl rfl
        exact r_iret cx hr hlk () (by subst_vars; unfold x_mul; rw [if_pos c4, if_neg c6, if_pos c8]) hw (Nat.le_of_ble_eq_true rfl) (Nat.le_of_ble_eq_true rfl) dX0_multiply_73
  · refine lv_iload_n hx hb dX0_multiply_16 rfl (lv_at hl 2 rfl) ?_
    refine lv_ldc hx hb cx.2.2.2.1 (cx.2.2.2.2.1 _ cs_X0_58) dX0_multiply_17 ?_
    refine lv_iand hx hb dX0_multiply_19 ?_
    refine lv_topi (fun v11 ev11 => ?_)
    refine lv_ldc hx hb cx.2.2.2.1 (cx.2.2.2.2.1 _ cs_X0_71) dX0_multiply_20 ?_
    refine lv_icmp_ne (tgt := 29) hx hb dX0_multiply_22 (by decide) (fun c12 => ?_) (fun c12 => ?_)
    · refine lv_iconst (v := 0) hx hb dX0_multiply_29 (by decide) ?_
      refine lv_istore_n (lv' := [(3, .int 0), (2, .int v2), (0, .int x), (1, .int y)]) hx hb dX0_multiply_30 rfl hl (by decide) rfl (fun ls hl => ?_)
      refine lv_iload_n hx hb dX0_multiply_31 rfl (lv_at hl 2 rfl) ?_
      refine lv_ldc hx hb cx.2.2.2.1 (cx.2.2.2.2.1 _ cs_X0_58) dX0_multiply_32 ?_
      refine lv_iand hx hb dX0_multiply_34 ?_
      refine lv_topi (fun v13 ev13 => ?_)
      refine lv_if_eq (tgt := 45) hx hb dX0_multiply_35 (by decide) (fun c14 => ?_) (fun c14 => ?_)
      · refine lv_iconst (v := 1) hx hb dX0_multiply_45 (by decide) ?_
        refine lv_goto (tgt := 50) hx hb dX0_multiply_46 (by decide) ?_
        refine lv_istore (lv' := [(4, .int 1), (3, .int 0), (2, .int v2), (0, .int x), (1, .int y)]) hx hb dX0_multiply_50 hl (by decide) rfl (fun ls hl => ?_)
        refine lv_iload_n hx hb dX0_multiply_52 rfl (lv_at hl 1 rfl) ?_
        refine lv_if_eq (tgt := 74) hx hb dX0_multiply_53 (by decide) (fun _ => ?_) (fun c9 => absurd (by decide) c9)
        refine lv_iload_n hx hb dX0_multiply_74 rfl (lv_at hl 2 rfl) ?_
        refine lv_iload_n hx hb dX0_multiply_75 rfl (lv_at hl 3 rfl) ?_
        refine r_callS0L (As := [.int x]) (rest := [.int v2]) cx hw hA (f_wholeOf l G x) ml_X0_67 st_X0_wholeOf in_X0 co_X0_wholeOf hd_X0_wholeOf rfl ⟨Nat.le_of_ble_eq_true rfl, Nat.le_of_ble_eq_true rfl⟩ hl.1 rfl (Nat.le_of_ble_eq_true rfl) dX0_multiply_76 ⟨Nat.le_of_ble_eq_true rfl, Nat.le_of_ble_eq_true rfl⟩ (fun r16 H locs hr16 hw => ?_)
        refine lv_iload_n hx hb dX0_multiply_79 rfl (lv_at hl 4 rfl) ?_
        refine r_callS0L (As := [.int y]) (rest := [.long r16, .int v2]) cx hw hA (f_wholeOf l G y) ml_X0_67 st_X0_wholeOf in_X0 co_X0_wholeOf hd_X0_wholeOf rfl ⟨Nat.le_of_ble_eq_true rfl, Nat.le_of_ble_eq_true rfl⟩ hl.1 rfl (Nat.le_of_ble_eq_true rfl) dX0_multiply_80 ⟨Nat.le_of_ble_eq_true rfl, Nat.le_of_ble_eq_true rfl⟩ (fun r18 H locs hr18 hw => ?_)
        refine lv_lmul hx hb dX0_multiply_83 ?_
        refine lv_topl (fun v19 ev19 => ?_)
        refine lv_iload_n hx hb dX0_multiply_84 rfl (lv_at hl 3 rfl) ?_
        refine r_callS0I (As := [.int x]) (rest := [.long v19, .int v2]) cx hw hA (f_lastBitOf l G x) ml_X0_63 st_X0_lastBitOf in_X0 co_X0_lastBitOf hd_X0_lastBitOf rfl ⟨Nat.le_of_ble_eq_true rfl, Nat.le_of_ble_eq_true rfl⟩ hl.1 rfl (Nat.le_of_ble_eq_true rfl) dX0_multiply_85 ⟨Nat.le_of_ble_eq_true rfl, Nat.le_of_ble_eq_true rfl⟩ (fun r21 H locs hr21 hw => ?_)
        refine lv_iload_n hx hb dX0_multiply_88 rfl (lv_at hl 4 rfl) ?_
        refine r_callS0I (As := [.int y]) (rest := [.int r21, .long v19, .int v2]) cx hw hA (f_lastBitOf l G y) ml_X0_63 st_X0_lastBitOf in_X0 co_X0_lastBitOf hd_X0_lastBitOf rfl ⟨Nat.le_of_ble_eq_true rfl, Nat.le_of_ble_eq_true rfl⟩ hl.1 rfl (Nat.le_of_ble_eq_true rfl) dX0_multiply_89 ⟨Nat.le_of_ble_eq_true rfl, Nat.le_of_ble_eq_true rfl⟩ (fun r23 H locs hr23 hw => ?_)
        refine lv_iadd hx hb dX0_multiply_92 ?_
        refine lv_topi (fun v24 ev24 => ?_)
        refine r_callS0I (As := [.int v2, .long v19, .int v24]) (rest := []) cx hw hA (f_pack l G v2 v19 v24) ml_X0_59 st_X0_pack in_X0 co_X0_pack hd_X0_pack rfl ⟨Nat.le_of_ble_eq_true rfl, Nat.le_of_ble_eq_true rfl⟩ hl.1 rfl (Nat.le_of_ble_eq_true rfl) dX0_multiply_93 ⟨Nat.le_of_ble_eq_true rfl, Nat.le_of_ble_eq_true rfl⟩ (fun r26 H locs hr26 hw => ?_)
        have hw : Wd G A [] s.heap _ _ := hw.sub [] rfl rfl
        exact r_iret cx hr hlk () (by subst_vars; unfold x_mul; rw [if_neg c4, if_neg c12, if_pos c14]) hw (Nat.le_of_ble_eq_true rfl) (Nat.le_of_ble_eq_true rfl) dX0_multiply_96
      · refine lv_iload_n hx hb dX0_multiply_38 rfl (lv_at hl 3 rfl) ?_
        refine lv_ldc hx hb cx.2.2.2.1 (cx.2.2.2.2.1 _ cs_X0_58) dX0_multiply_39 ?_
        refine lv_iand hx hb dX0_multiply_41 ?_
        refine lv_topi (fun v27 ev27 => ?_)
        refine lv_if_ne (tgt := 49) hx hb dX0_multiply_42 (by decide) (fun c28 => ?_) (fun c28 => ?_)
        · refine lv_iconst (v := 0) hx hb dX0_multiply_49 (by decide) ?_
          refine lv_istore (lv' := [(4, .int 0), (3, .int 0), (2, .int v2), (0, .int x), (1, .int y)]) hx hb dX0_multiply_50 hl (by decide) rfl (fun ls hl => ?_)
          refine lv_iload_n hx hb dX0_multiply_52 rfl (lv_at hl 1 rfl) ?_
          refine lv_if_eq (tgt := 74) hx hb dX0_multiply_53 (by decide) (fun _ => ?_) (fun c9 => absurd (by decide) c9)
          refine lv_iload_n hx hb dX0_multiply_74 rfl (lv_at hl 2 rfl) ?_
          refine lv_iload_n hx hb dX0_multiply_75 rfl (lv_at hl 3 rfl) ?_
          refine r_callS0L (As := [.int x]) (rest := [.int v2]) cx hw hA (f_wholeOf l G x) ml_X0_67 st_X0_wholeOf in_X0 co_X0_wholeOf hd_X0_wholeOf rfl ⟨Nat.le_of_ble_eq_true rfl, Nat.le_of_ble_eq_true rfl⟩ hl.1 rfl (Nat.le_of_ble_eq_true rfl) dX0_multiply_76 ⟨Nat.le_of_ble_eq_true rfl, Nat.le_of_ble_eq_true rfl⟩ (fun r30 H locs hr30 hw => ?_)
          refine lv_iload_n hx hb dX0_multiply_79 rfl (lv_at hl 4 rfl) ?_
          refine r_callS0L (As := [.int y]) (rest := [.long r30, .int v2]) cx hw hA (f_wholeOf l G y) ml_X0_67 st_X0_wholeOf in_X0 co_X0_wholeOf hd_X0_wholeOf rfl ⟨Nat.le_of_ble_eq_true rfl, Nat.le_of_ble_eq_true rfl⟩ hl.1 rfl (Nat.le_of_ble_eq_true rfl) dX0_multiply_80 ⟨Nat.le_of_ble_eq_true rfl, Nat.le_of_ble_eq_true rfl⟩ (fun r32 H locs hr32 hw => ?_)
          refine lv_lmul hx hb dX0_multiply_83 ?_
          refine lv_topl (fun v33 ev33 => ?_)
          refine lv_iload_n hx hb dX0_multiply_84 rfl (lv_at hl 3 rfl) ?_
          refine r_callS0I (As := [.int x]) (rest := [.long v33, .int v2]) cx hw hA (f_lastBitOf l G x) ml_X0_63 st_X0_lastBitOf in_X0 co_X0_lastBitOf hd_X0_lastBitOf rfl ⟨Nat.le_of_ble_eq_true rfl, Nat.le_of_ble_eq_true rfl⟩ hl.1 rfl (Nat.le_of_ble_eq_true rfl) dX0_multiply_85 ⟨Nat.le_of_ble_eq_true rfl, Nat.le_of_ble_eq_true rfl⟩ (fun r35 H locs hr35 hw => ?_)
          refine lv_iload_n hx hb dX0_multiply_88 rfl (lv_at hl 4 rfl) ?_
          refine r_callS0I (As := [.int y]) (rest := [.int r35, .long v33, .int v2]) cx hw hA (f_lastBitOf l G y) ml_X0_63 st_X0_lastBitOf in_X0 co_X0_lastBitOf hd_X0_lastBitOf rfl ⟨Nat.le_of_ble_eq_true rfl, Nat.le_of_ble_eq_true rfl⟩ hl.1 rfl (Nat.le_of_ble_eq_true rfl) dX0_multiply_89 ⟨Nat.le_of_ble_eq_true rfl, Nat.le_of_ble_eq_true rfl⟩ (fun r37 H locs hr37 hw => ?_)
          refine lv_iadd hx hb dX0_multiply_92 ?_
          refine lv_topi (fun v38 ev38 => ?_)
          refine r_callS0I (As := [.int v2, .long v33, .int v38]) (rest := []) cx hw hA (f_pack l G v2 v33 v38) ml_X0_59 st_X0_pack in_X0 co_X0_pack hd_X0_pack rfl ⟨Nat.le_of_ble_eq_true rfl, Nat.le_of_ble_eq_true rfl⟩ hl.1 rfl (Nat.le_of_ble_eq_true rfl) dX0_multiply_93 ⟨Nat.le_of_ble_eq_true rfl, Nat.le_of_ble_eq_true rfl⟩ (fun r40 H locs hr40 hw => ?_)
          have hw : Wd G A [] s.heap _ _ := hw.sub [] rfl rfl
          exact r_iret cx hr hlk () (by subst_vars; unfold x_mul; rw [if_neg c4, if_neg c12, if_neg c14, if_neg c28]) hw (Nat.le_of_ble_eq_true rfl) (Nat.le_of_ble_eq_true rfl) dX0_multiply_96
        · refine lv_iconst (v := 1) hx hb dX0_multiply_45 (by decide) ?_
          refine lv_goto (tgt := 50) hx hb dX0_multiply_46 (by decide) ?_
          refine lv_istore (lv' := [(4, .int 1), (3, .int 0), (2, .int v2), (0, .int x), (1, .int y)]) hx hb dX0_multiply_50 hl (by decide) rfl (fun ls hl => ?_)
          refine lv_iload_n hx hb dX0_multiply_52 rfl (lv_at hl 1 rfl) ?_
          refine lv_if_eq (tgt := 74) hx hb dX0_multiply_53 (by decide) (fun _ => ?_) (fun c9 => absurd (by decide) c9)
          refine lv_iload_n hx hb dX0_multiply_74 rfl (lv_at hl 2 rfl) ?_
          refine lv_iload_n hx hb dX0_multiply_75 rfl (lv_at hl 3 rfl) ?_
          refine r_callS0L (As := [.int x]) (rest := [.int v2]) cx hw hA (f_wholeOf l G x) ml_X0_67 st_X0_wholeOf in_X0 co_X0_wholeOf hd_X0_wholeOf rfl ⟨Nat.le_of_ble_eq_true rfl, Nat.le_of_ble_eq_true rfl⟩ hl.1 rfl (Nat.le_of_ble_eq_true rfl) dX0_multiply_76 ⟨Nat.le_of_ble_eq_true rfl, Nat.le_of_ble_eq_true rfl⟩ (fun r42 H locs hr42 hw => ?_)
          refine lv_iload_n hx hb dX0_multiply_79 rfl (lv_at hl 4 rfl) ?_
          refine r_callS0L (As := [.int y]) (rest := [.long r42, .int v2]) cx hw hA (f_wholeOf l G y) ml_X0_67 st_X0_wholeOf in_X0 co_X0_wholeOf hd_X0_wholeOf rfl ⟨Nat.le_of_ble_eq_true rfl, Nat.le_of_ble_eq_true rfl⟩ hl.1 rfl (Nat.le_of_ble_eq_true rfl) dX0_multiply_80 ⟨Nat.le_of_ble_eq_true rfl, Nat.le_of_ble_eq_true rfl⟩ (fun r44 H locs hr44 hw => ?_)
          refine lv_lmul hx hb dX0_multiply_83 ?_
          refine lv_topl (fun v45 ev45 => ?_)
          refine lv_iload_n hx hb dX0_multiply_84 rfl (lv_at hl 3 rfl) ?_
          refine r_callS0I (As := [.int x]) (rest := [.long v45, .int v2]) cx hw hA (f_lastBitOf l G x) ml_X0_63 st_X0_lastBitOf in_X0 co_X0_lastBitOf hd_X0_lastBitOf rfl ⟨Nat.le_of_ble_eq_true rfl, Nat.le_of_ble_eq_true rfl⟩ hl.1 rfl (Nat.le_of_ble_eq_true rfl) dX0_multiply_85 ⟨Nat.le_of_ble_eq_true rfl, Nat.le_of_ble_eq_true rfl⟩ (fun r47 H locs hr47 hw => ?_)
          refine lv_iload_n hx hb dX0_multiply_88 rfl (lv_at hl 4 rfl) ?_
          refine r_callS0I (As := [.int y]) (rest := [.int r47, .long v45, .int v2]) cx hw hA (f_lastBitOf l G y) ml_X0_63 st_X0_lastBitOf in_X0 co_X0_lastBitOf hd_X0_lastBitOf rfl ⟨Nat.le_of_ble_eq_true rfl, Nat.le_of_ble_eq_true rfl⟩ hl.1 rfl (Nat.le_of_ble_eq_true rfl) dX0_multiply_89 ⟨Nat.le_of_ble_eq_true rfl, Nat.le_of_ble_eq_true rfl⟩ (fun r49 H locs hr49 hw => ?_)
          refine lv_iadd hx hb dX0_multiply_92 ?_
          refine lv_topi (fun v50 ev50 => ?_)
          refine r_callS0I (As := [.int v2, .long v45, .int v50]) (rest := []) cx hw hA (f_pack l G v2 v45 v50) ml_X0_59 st_X0_pack in_X0 co_X0_pack hd_X0_pack rfl ⟨Nat.le_of_ble_eq_true rfl, Nat.le_of_ble_eq_true rfl⟩ hl.1 rfl (Nat.le_of_ble_eq_true rfl) dX0_multiply_93 ⟨Nat.le_of_ble_eq_true rfl, Nat.le_of_ble_eq_true rfl⟩ (fun r52 H locs hr52 hw => ?_)
          have hw : Wd G A [] s.heap _ _ := hw.sub [] rfl rfl
          exact r_iret cx hr hlk () (by subst_vars; unfold x_mul; rw [if_neg c4, if_neg c12, if_neg c14, if_pos c28]) hw (Nat.le_of_ble_eq_true rfl) (Nat.le_of_ble_eq_true rfl) dX0_multiply_96
    · refine lv_iconst (v := 1) hx hb dX0_multiply_25 (by decide) ?_
      refine lv_goto (tgt := 30) hx hb dX0_multiply_26 (by decide) ?_
      refine lv_istore_n (lv' := [(3, .int 1), (2, .int v2), (0, .int x), (1, .int y)]) hx hb dX0_multiply_30 rfl hl (by decide) rfl (fun ls hl => ?_)
      refine lv_iload_n hx hb dX0_multiply_31 rfl (lv_at hl 2 rfl) ?_
      refine lv_ldc hx hb cx.2.2.2.1 (cx.2.2.2.2.1 _ cs_X0_58) dX0_multiply_32 ?_
      refine lv_iand hx hb dX0_multiply_34 ?_
      refine lv_topi (fun v53 ev53 => ?_)
      refine lv_if_eq (tgt := 45) hx hb dX0_multiply_35 (by decide) (fun c54 => ?_) (fun c54 => ?_)
      · refine lv_iconst (v := 1) hx hb dX0_multiply_45 (by decide) ?_
        refine lv_goto (tgt := 50) hx hb dX0_multiply_46 (by decide) ?_
        refine lv_istore (lv' := [(4, .int 1), (3, .int 1), (2, .int v2), (0, .int x), (1, .int y)]) hx hb dX0_multiply_50 hl (by decide) rfl (fun ls hl => ?_)
        refine lv_iload_n hx hb dX0_multiply_52 rfl (lv_at hl 1 rfl) ?_
        refine lv_if_eq (tgt := 74) hx hb dX0_multiply_53 (by decide) (fun c9 => absurd c9 (by decide)) (fun _ => ?_)
        refine lv_iload hx hb dX0_multiply_56 (lv_at hl 0 rfl) ?_
        refine lv_if_eq (tgt := 66) hx hb dX0_multiply_58 (by decide) (fun c9 => absurd c9 (by decide)) (fun _ => ?_)
        refine lv_ldc hx hb cx.2.2.2.1 (cx.2.2.2.2.1 _ cs_X0_47) dX0_multiply_61 ?_
        refine lv_goto (tgt := 73) hx hb dX0_multiply_63 (by decide) ?_
        have hw : Wd G A [] s.heap _ _ := hw.sub [] rfl rfl
        exact r_iret cx hr hlk () (by subst_vars; unfold x_mul; rw [if_neg c4, if_pos c12, if_pos c54]) hw (Nat.le_of_ble_eq_true rfl) (Nat.le_of_ble_eq_true rfl) dX0_multiply_73
      · refine lv_iload_n hx hb dX0_multiply_38 rfl (lv_at hl 3 rfl) ?_
        refine lv_ldc hx hb cx.2.2.2.1 (cx.2.2.2.2.1 _ cs_X0_58) dX0_multiply_39 ?_
        refine lv_iand hx hb dX0_multiply_41 ?_
        refine lv_topi (fun v55 ev55 => ?_)
        refine lv_if_ne (tgt := 49) hx hb dX0_multiply_42 (by decide) (fun c56 => ?_) (fun c56 => ?_)
        · refine lv_iconst (v := 0) hx hb dX0_multiply_49 (by decide) ?_
          refine lv_istore (lv' := [(4, .int 0), (3, .int 1), (2, .int v2), (0, .int x), (1, .int y)]) hx hb dX0_multiply_50 hl (by decide) rfl (fun ls hl => ?_)
          refine lv_iload_n hx hb dX0_multiply_52 rfl (lv_at hl 1 rfl) ?_
          refine lv_if_eq (tgt := 74) hx hb dX0_multiply_53 (by decide) (fun c9 => absurd c9 (by decide)) (fun _ => ?_)
          refine lv_iload hx hb dX0_multiply_56 (lv_at hl 0 rfl) ?_
          refine lv_if_eq (tgt := 66) hx hb dX0_multiply_58 (by decide) (fun _ => ?_) (fun c9 => absurd (by decide) c9)
          refine lv_iload_n hx hb dX0_multiply_66 rfl (lv_at hl 2 rfl) ?_
          refine lv_bipush (v := 31) hx hb dX0_multiply_67 (by decide) ?_
          refine lv_ishl hx hb dX0_multiply_69 ?_
          refine lv_topi (fun v57 ev57 => ?_)
          refine lv_ldc hx hb cx.2.2.2.1 (cx.2.2.2.2.1 _ cs_X0_71) dX0_multiply_70 ?_
          refine lv_ior hx hb dX0_multiply_72 ?_
          refine lv_topi (fun v58 ev58 => ?_)
          have hw : Wd G A [] s.heap _ _ := hw.sub [] rfl rfl
          exact r_iret cx hr hlk () (by subst_vars; unfold x_mul; rw [if_neg c4, if_pos c12, if_neg c54, if_neg c56]) hw (Nat.le_of_ble_eq_true rfl) (Nat.le_of_ble_eq_true rfl) dX0_multiply_73
        · refine lv_iconst (v := 1) hx hb dX0_multiply_45 (by decide) ?_
          refine lv_goto (tgt := 50) hx hb dX0_multiply_46 (by decide) ?_
          refine lv_istore (lv' := [(4, .int 1), (3, .int 1), (2, .int v2), (0, .int x), (1, .int y)]) hx hb dX0_multiply_50 hl (by decide) rfl (fun ls hl => ?_)
          refine lv_iload_n hx hb dX0_multiply_52 rfl (lv_at hl 1 rfl) ?_
          refine lv_if_eq (tgt := 74) hx hb dX0_multiply_53 (by decide) (fun c9 => absurd c9 (by decide)) (fun _ => ?_)
          refine lv_iload hx hb dX0_multiply_56 (lv_at hl 0 rfl) ?_
          refine lv_if_eq (tgt := 66) hx hb dX0_multiply_58 (by decide) (fun c9 => absurd c9 (by decide)) (fun _ => ?_)
          refine lv_ldc hx hb cx.2.2.2.1 (cx.2.2.2.2.1 _ cs_X0_47) dX0_multiply_61 ?_
          refine lv_goto (tgt := 73) hx hb dX0_multiply_63 (by decide) ?_
          have hw : Wd G A [] s.heap _ _ := hw.sub [] rfl rfl
          exact r_iret cx hr hlk () (by subst_vars; unfold x_mul; rw [if_neg c4, if_pos c12, if_neg c54, if_pos c56]) hw (Nat.le_of_ble_eq_true rfl) (Nat.le_of_ble_eq_true rfl) dX0_multiply_73

def x_div_j1 (x : Int32) : Int32 := (((x_nlz64 (x_wholeOf x)) - (3 : Int32)))
def x_div_j2 (x : Int32) : Int64 := (((x_wholeOf x) <<< ((x_div_j1 x).toInt64 &&& 63)))
def x_div_j3 (x : Int32) (y : Int32) : Int64 := (if (lg_cmp ((x_div_j2 x) - (x_div_j2 x) / (x_wholeOf y) * (x_wholeOf y)) (0 : Int64)) = (0 : Int32) then (0 : Int64) else (1 : Int64))
def x_div (x : Int32) (y : Int32) : Int32 := (if (x &&& (2147483647 : Int32)) = (2139095040 : Int32) then (if (y &&& (2147483647 : Int32)) = (2139095040 : Int32) then (2143289344) else (((((x ^^^ y).toUInt32 >>> ((31 : Int32).toUInt32 &&& Int32.toUInt32 31)).toInt32 <<< ((31 : Int32) &&& 31)) ||| (2139095040 : Int32)))) else (if (y &&& (2147483647 : Int32)) = (2139095040 : Int32) then ((((x ^^^ y).toUInt32 >>> ((31 : Int32).toUInt32 &&& Int32.toUInt32 31)).toInt32 <<< ((31 : Int32) &&& 31))) else (if (lg_cmp (x_wholeOf y) (0 : Int64)) = (0 : Int32) then (if (lg_cmp (x_wholeOf x) (0 : Int64)) = (0 : Int32) then (2143289344) else (((((x ^^^ y).toUInt32 >>> ((31 : Int32).toUInt32 &&& Int32.toUInt32 31)).toInt32 <<< ((31 : Int32) &&& 31)) ||| (2139095040 : Int32)))) else (if (lg_cmp (x_wholeOf x) (0 : Int64)) = (0 : Int32) then ((((x ^^^ y).toUInt32 >>> ((31 : Int32).toUInt32 &&& Int32.toUInt32 31)).toInt32 <<< ((31 : Int32) &&& 31))) else ((x_pack ((x ^^^ y).toUInt32 >>> ((31 : Int32).toUInt32 &&& Int32.toUInt32 31)).toInt32 (((x_div_j2 x) / (x_wholeOf y)) ||| (x_div_j3 x y)) (((x_lastBitOf x) - (x_lastBitOf y)) - (x_div_j1 x))))))))
set_option maxHeartbeats 4000000 in
set_option maxRecDepth 100000 in
theorem f_div (l : Launch) (G : Gt) (x : Int32) (y : Int32) : Mt l yX0_divide cX0_divide 14 (some .int) ({ frames := 3, cells := 0, slots := 0, locals := 75 } : Room) G [.int x, .int y] [] (qI G (fun (r : Int32) (w : Unit) => r = x_div x y) (fun w => [])) := by
  refine Mt.of (own := RX0) (cc := cX0_divide) (by decide) rfl (Nat.le_of_ble_eq_true rfl) ?_
  intro p e s m below meth c A ls cx hr hlk hmn hA hl hw
  have hx := cx.1
  have hb := cx.2.1
  have hl : lv_has ls 14 [(0, .int x), (1, .int y)] := hl
  refine lv_iload_n hx hb dX0_divide_0 rfl (lv_at hl 0 rfl) ?_
  refine lv_iload_n hx hb dX0_divide_1 rfl (lv_at hl 1 rfl) ?_
  refine lv_ixor hx hb dX0_divide_2 ?_
  refine lv_topi (fun v1 ev1 => ?_)
  refine lv_bipush (v := 31) hx hb dX0_divide_3 (by decide) ?_
  refine lv_iushr hx hb dX0_divide_5 rfl ?_
  refine lv_topi (fun v2 ev2 => ?_)
  refine lv_istore_n (lv' := [(2, .int v2), (0, .int x), (1, .int y)]) hx hb dX0_divide_6 rfl hl (by decide) rfl (fun ls hl => ?_)
  refine lv_iload_n hx hb dX0_divide_7 rfl (lv_at hl 1 rfl) ?_
  refine lv_ldc hx hb cx.2.2.2.1 (cx.2.2.2.2.1 _ cs_X0_58) dX0_divide_8 ?_
  refine lv_iand hx hb dX0_divide_10 ?_
  refine lv_topi (fun v3 ev3 => ?_)
  refine lv_ldc hx hb cx.2.2.2.1 (cx.2.2.2.2.1 _ cs_X0_71) dX0_divide_11 ?_
  refine lv_icmp_ne (tgt := 20) hx hb dX0_divide_13 (by decide) (fun c4 => ?_) (fun c4 => ?_)
  · refine lv_iconst (v := 0) hx hb dX0_divide_20 (by decide) ?_
    refine lv_istore_n (lv' := [(3, .int 0), (2, .int v2), (0, .int x), (1, .int y)]) hx hb dX0_divide_21 rfl hl (by decide) rfl (fun ls hl => ?_)
    refine lv_iload_n hx hb dX0_divide_22 rfl (lv_at hl 3 rfl) ?_
    refine lv_ldc hx hb cx.2.2.2.1 (cx.2.2.2.2.1 _ cs_X0_58) dX0_divide_23 ?_
    refine lv_iand hx hb dX0_divide_25 ?_
    refine lv_topi (fun v5 ev5 => ?_)
    refine lv_ldc hx hb cx.2.2.2.1 (cx.2.2.2.2.1 _ cs_X0_71) dX0_divide_26 ?_
    refine lv_icmp_ne (tgt := 35) hx hb dX0_divide_28 (by decide) (fun c6 => ?_) (fun c6 => ?_)
    · refine lv_iconst (v := 0) hx hb dX0_divide_35 (by decide) ?_
      refine lv_istore (lv' := [(4, .int 0), (3, .int 0), (2, .int v2), (0, .int x), (1, .int y)]) hx hb dX0_divide_36 hl (by decide) rfl (fun ls hl => ?_)
      refine lv_iload_n hx hb dX0_divide_38 rfl (lv_at hl 3 rfl) ?_
      refine r_callS0L (As := [.int x]) (rest := []) cx hw hA (f_wholeOf l G x) ml_X0_67 st_X0_wholeOf in_X0 co_X0_wholeOf hd_X0_wholeOf rfl ⟨Nat.le_of_ble_eq_true rfl, Nat.le_of_ble_eq_true rfl⟩ hl.1 rfl (Nat.le_of_ble_eq_true rfl) dX0_divide_39 ⟨Nat.le_of_ble_eq_true rfl, Nat.le_of_ble_eq_true rfl⟩ (fun r8 H locs hr8 hw => ?_)
      refine lv_lstore (lv' := [(5, .long r8), (4, .int 0), (3, .int 0), (2, .int v2), (0, .int x), (1, .int y)]) hx hb dX0_divide_42 hl (by decide) rfl (fun ls hl => ?_)
      refine lv_iload_n hx hb dX0_divide_44 rfl (lv_at hl 5 rfl) ?_
      refine r_callS0L (As := [.int y]) (rest := []) cx hw hA (f_wholeOf l G y) ml_X0_67 st_X0_wholeOf in_X0 co_X0_wholeOf hd_X0_wholeOf rfl ⟨Nat.le_of_ble_eq_true rfl, Nat.le_of_ble_eq_true rfl⟩ hl.1 rfl (Nat.le_of_ble_eq_true rfl) dX0_divide_45 ⟨Nat.le_of_ble_eq_true rfl, Nat.le_of_ble_eq_true rfl⟩ (fun r10 H locs hr10 hw => ?_)
      refine lv_lstore (lv' := [(7, .long r10), (5, .long r8), (4, .int 0), (3, .int 0), (2, .int v2), (0, .int x), (1, .int y)]) hx hb dX0_divide_48 hl (by decide) rfl (fun ls hl => ?_)
      refine lv_iload_n hx hb dX0_divide_50 rfl (lv_at hl 3 rfl) ?_
      refine lv_if_eq (tgt := 72) hx hb dX0_divide_51 (by decide) (fun _ => ?_) (fun c9 => absurd (by decide) c9)
      refine lv_iload hx hb dX0_divide_72 (lv_at hl 2 rfl) ?_
      refine lv_if_eq (tgt := 82) hx hb dX0_divide_74 (by decide) (fun _ => ?_) (fun c9 => absurd (by decide) c9)
      refine lv_lload hx hb dX0_divide_82 (lv_at hl 0 rfl) ?_
      refine lv_lconst (v := 0) hx hb dX0_divide_84 (by decide) ?_
      refine W.lcmp hx hb dX0_divide_85 ?_
      refine lv_topi (fun v11 ev11 => ?_)
      refine lv_if_ne (tgt := 109) hx hb dX0_divide_86 (by decide) (fun c12 => ?_) (fun c12 => ?_)
      · refine lv_lload hx hb dX0_divide_109 (lv_at hl 1 rfl) ?_
        refine lv_lconst (v := 0) hx hb dX0_divide_111 (by decide) ?_
        refine W.lcmp hx hb dX0_divide_112 ?_
        refine lv_topi (fun v13 ev13 => ?_)
        refine lv_if_ne (tgt := 121) hx hb dX0_divide_113 (by decide) (fun c14 => ?_) (fun c14 => ?_)
        · refine lv_lload hx hb dX0_divide_121 (lv_at hl 1 rfl) ?_
          refine r_callS0I (As := [.long r8]) (rest := []) cx hw hA (f_nlz64 l G r8) ml_X0_77 st_J13_numberOfLeadingZeros_95d88 in_J13 co_J13_numberOfLeadingZeros_95d88 hd_J13_numberOfLeadingZeros_95d88 rfl ⟨Nat.le_of_ble_eq_true rfl, Nat.le_of_ble_eq_true rfl⟩ hl.1 rfl (Nat.le_of_ble_eq_true rfl) dX0_divide_123 ⟨Nat.le_of_ble_eq_true rfl, Nat.le_of_ble_eq_true rfl⟩ (fun r16 H locs hr16 hw => ?_)
          refine lv_iconst (v := 3) hx hb dX0_divide_126 (by decide) ?_
          refine jn1 (E := (x_div_j1 x)) (pcJ := 130) (nL := 14) (lv := fun j1 => [(7, .long r10), (5, .long r8), (2, .int v2), (0, .int x), (1, .int y), (9, .int j1)]) (sk := fun j1 => []) (fun K1 => ?_) ?_
          · refine lv_isub hx hb dX0_divide_127 ?_
            refine lv_topi (fun v17 ev17 => ?_)
            refine lv_istore (lv' := [(9, .int v17), (7, .long r10), (5, .long r8), (4, .int 0), (3, .int 0), (2, .int v2), (0, .int x), (1, .int y)]) hx hb dX0_divide_128 hl (by decide) rfl (fun ls hl => ?_)
            exact K1 _ ls (by subst_vars; unfold x_div_j1; rfl) (lv_sub hl [1, 2, 5, 6, 7, 0] rfl)
          · intro j1 ls ej1 hl
            refine lv_lload hx hb dX0_divide_130 (lv_at hl 1 rfl) ?_
            refine lv_iload hx hb dX0_divide_132 (lv_at hl 5 rfl) ?_
            refine jn1 (E := (x_div_j2 x)) (pcJ := 137) (nL := 14) (lv := fun j2 => [(7, .long r10), (2, .int v2), (0, .int x), (1, .int y), (9, .int j1), (5, .long j2)]) (sk := fun j2 => []) (fun K2 => ?_) ?_
            · refine lv_lshl hx hb dX0_divide_134 rfl ?_
              refine lv_topl (fun v18 ev18 => ?_)
              refine lv_lstore (lv' := [(5, .long v18), (7, .long r10), (2, .int v2), (0, .int x), (1, .int y), (9, .int j1)]) hx hb dX0_divide_135 hl (by decide) rfl (fun ls hl => ?_)
              exact K2 _ ls (by subst_vars; unfold x_div_j2; rfl) (lv_sub hl [1, 2, 3, 4, 5, 0] rfl)
            · intro j2 ls ej2 hl
              refine lv_lload hx hb dX0_divide_137 (lv_at hl 5 rfl) ?_
              refine lv_lload hx hb dX0_divide_139 (lv_at hl 0 rfl) ?_
              refine lv_ldiv hx hb dX0_divide_141 (lg_nz c4) ?_
              refine lv_topl (fun v19 ev19 => ?_)
              refine lv_lstore (lv' := [(10, .long v19), (7, .long r10), (2, .int v2), (0, .int x), (1, .int y), (9, .int j1), (5, .long j2)]) hx hb dX0_divide_142 hl (by decide) rfl (fun ls hl => ?_)
              refine lv_lload hx hb dX0_divide_144 (lv_at hl 6 rfl) ?_
              refine lv_lload hx hb dX0_divide_146 (lv_at hl 1 rfl) ?_
              refine lv_lrem hx hb dX0_divide_148 (lg_nz c4) ?_
              refine lv_topl (fun v20 ev20 => ?_)
              refine jn1 (E := (x_div_j3 x y)) (pcJ := 161) (nL := 14) (lv := fun j3 => [(10, .long v19), (7, .long r10), (2, .int v2), (0, .int x), (1, .int y), (9, .int j1), (5, .long j2), (12, .long j3)]) (sk := fun j3 => []) (fun K3 => ?_) ?_
              · refine lv_lconst (v := 0) hx hb dX0_divide_149 (by decide) ?_
                refine W.lcmp hx hb dX0_divide_150 ?_
                refine lv_topi (fun v21 ev21 => ?_)
                refine lv_if_ne (tgt := 158) hx hb dX0_divide_151 (by decide) (fun c22 => ?_) (fun c22 => ?_)
                · refine lv_lconst (v := 1) hx hb dX0_divide_158 (by decide) ?_
                  refine lv_lstore (lv' := [(12, .long 1), (10, .long v19), (7, .long r10), (2, .int v2), (0, .int x), (1, .int y), (9, .int j1), (5, .long j2)]) hx hb dX0_divide_159 hl (by decide) rfl (fun ls hl => ?_)
                  exact K3 _ ls (by subst_vars; unfold x_div_j3; rw [if_neg c22]) (lv_sub hl [1, 2, 3, 4, 5, 6, 7, 0] rfl)
                · refine lv_lconst (v := 0) hx hb dX0_divide_154 (by decide) ?_
                  refine lv_goto (tgt := 159) hx hb dX0_divide_155 (by decide) ?_
                  refine lv_lstore (lv' := [(12, .long 0), (10, .long v19), (7, .long r10), (2, .int v2), (0, .int x), (1, .int y), (9, .int j1), (5, .long j2)]) hx hb dX0_divide_159 hl (by decide) rfl (fun ls hl => ?_)
                  exact K3 _ ls (by subst_vars; unfold x_div_j3; rw [if_pos c22]) (lv_sub hl [1, 2, 3, 4, 5, 6, 7, 0] rfl)
              · intro j3 ls ej3 hl
                refine lv_iload_n hx hb dX0_divide_161 rfl (lv_at hl 2 rfl) ?_
                refine lv_lload hx hb dX0_divide_162 (lv_at hl 0 rfl) ?_
                refine lv_lload hx hb dX0_divide_164 (lv_at hl 7 rfl) ?_
                refine lv_lor hx hb dX0_divide_166 ?_
                refine lv_topl (fun v23 ev23 => ?_)
                refine lv_iload_n hx hb dX0_divide_167 rfl (lv_at hl 3 rfl) ?_
                refine r_callS0I (As := [.int x]) (rest := [.long v23, .int v2]) cx hw hA (f_lastBitOf l G x) ml_X0_63 st_X0_lastBitOf in_X0 co_X0_lastBitOf hd_X0_lastBitOf rfl ⟨Nat.le_of_ble_eq_true rfl, Nat.le_of_ble_eq_true rfl⟩ hl.1 rfl (Nat.le_of_ble_eq_true rfl) dX0_divide_168 ⟨Nat.le_of_ble_eq_true rfl, Nat.le_of_ble_eq_true rfl⟩ (fun r25 H locs hr25 hw => ?_)
                refine lv_iload_n hx hb dX0_divide_171 rfl (lv_at hl 4 rfl) ?_
                refine r_callS0I (As := [.int y]) (rest := [.int r25, .long v23, .int v2]) cx hw hA (f_lastBitOf l G y) ml_X0_63 st_X0_lastBitOf in_X0 co_X0_lastBitOf hd_X0_lastBitOf rfl ⟨Nat.le_of_ble_eq_true rfl, Nat.le_of_ble_eq_true rfl⟩ hl.1 rfl (Nat.le_of_ble_eq_true rfl) dX0_divide_172 ⟨Nat.le_of_ble_eq_true rfl, Nat.le_of_ble_eq_true rfl⟩ (fun r27 H locs hr27 hw => ?_)
                refine lv_isub hx hb dX0_divide_175 ?_
                refine lv_topi (fun v28 ev28 => ?_)
                refine lv_iload hx hb dX0_divide_176 (lv_at hl 5 rfl) ?_
                refine lv_isub hx hb dX0_divide_178 ?_
                refine lv_topi (fun v29 ev29 => ?_)
                refine r_callS0I (As := [.int v2, .long v23, .int v29]) (rest := []) cx hw hA (f_pack l G v2 v23 v29) ml_X0_59 st_X0_pack in_X0 co_X0_pack hd_X0_pack rfl ⟨Nat.le_of_ble_eq_true rfl, Nat.le_of_ble_eq_true rfl⟩ hl.1 rfl (Nat.le_of_ble_eq_true rfl) dX0_divide_179 ⟨Nat.le_of_ble_eq_true rfl, Nat.le_of_ble_eq_true rfl⟩ (fun r31 H locs hr31 hw => ?_)
                have hw : Wd G A [] s.heap _ _ := hw.sub [] rfl rfl
                exact r_iret cx hr hlk () (by subst_vars; unfold x_div; rw [if_neg c4, if_neg c6, if_neg c12, if_neg c14]) hw (Nat.le_of_ble_eq_true rfl) (Nat.le_of_ble_eq_true rfl) dX0_divide_182
        · refine lv_iload_n hx hb dX0_divide_116 rfl (lv_at hl 4 rfl) ?_
          refine lv_bipush (v := 31) hx hb dX0_divide_117 (by decide) ?_
          refine lv_ishl hx hb dX0_divide_119 ?_
          refine lv_topi (fun v32 ev32 => ?_)
          have hw : Wd G A [] s.heap _ _ := hw.sub [] rfl rfl
          exact r_iret cx hr hlk () (by subst_vars; unfold x_div; rw [if_neg c4, if_neg c6, if_neg c12, if_pos c14]) hw (Nat.le_of_ble_eq_true rfl) (Nat.le_of_ble_eq_true rfl) dX0_divide_120
      · refine lv_lload hx hb dX0_divide_89 (lv_at hl 1 rfl) ?_
        refine lv_lconst (v := 0) hx hb dX0_divide_91 (by decide) ?_
        refine W.lcmp hx hb dX0_divide_92 ?_
        refine lv_topi (fun v33 ev33 => ?_)
        refine lv_if_ne (tgt := 101) hx hb dX0_divide_93 (by decide) (fun c34 => ?_) (fun c34 => ?_)
        · refine lv_iload_n hx hb dX0_divide_101 rfl (lv_at hl 4 rfl) ?_
          refine lv_bipush (v := 31) hx hb dX0_divide_102 (by decide) ?_
          refine lv_ishl hx hb dX0_divide_104 ?_
          refine lv_topi (fun v35 ev35 => ?_)
          refine lv_ldc hx hb cx.2.2.2.1 (cx.2.2.2.2.1 _ cs_X0_71) dX0_divide_105 ?_
          refine lv_ior hx hb dX0_divide_107 ?_
          refine lv_topi (fun v36 ev36 => ?_)
          have hw : Wd G A [] s.heap _ _ := hw.sub [] rfl rfl
          exact r_iret cx hr hlk () (by subst_vars; unfold x_div; rw [if_neg c4, if_neg c6, if_pos c12, if_neg c34]) hw (Nat.le_of_ble_eq_true rfl) (Nat.le_of_ble_eq_true rfl) dX0_divide_108
        · refine lv_ldc hx hb cx.2.2.2.1 (cx.2.2.2.2.1 _ cs_X0_47) dX0_divide_96 ?_
          refine lv_goto (tgt := 108) hx hb dX0_divide_98 (by decide) ?_
          have hw : Wd G A [] s.heap _ _ := hw.sub [] rfl rfl
          exact r_iret cx hr hlk () (by subst_vars; unfold x_div; rw [if_neg c4, if_neg c6, if_pos c12, if_pos c34]) hw (Nat.le_of_ble_eq_true rfl) (Nat.le_of_ble_eq_true rfl) dX0_divide_108
    · refine lv_iconst (v := 1) hx hb dX0_divide_31 (by decide) ?_
      refine lv_goto (tgt := 36) hx hb dX0_divide_32 (by decide) ?_
      refine lv_istore (lv' := [(4, .int 1), (3, .int 0), (2, .int v2), (0, .int x), (1, .int y)]) hx hb dX0_divide_36 hl (by decide) rfl (fun ls hl => ?_)
      refine lv_iload_n hx hb dX0_divide_38 rfl (lv_at hl 3 rfl) ?_
      refine r_callS0L (As := [.int x]) (rest := []) cx hw hA (f_wholeOf l G x) ml_X0_67 st_X0_wholeOf in_X0 co_X0_wholeOf hd_X0_wholeOf rfl ⟨Nat.le_of_ble_eq_true rfl, Nat.le_of_ble_eq_true rfl⟩ hl.1 rfl (Nat.le_of_ble_eq_true rfl) dX0_divide_39 ⟨Nat.le_of_ble_eq_true rfl, Nat.le_of_ble_eq_true rfl⟩ (fun r38 H locs hr38 hw => ?_)
      refine lv_lstore (lv' := [(5, .long r38), (4, .int 1), (3, .int 0), (2, .int v2), (0, .int x), (1, .int y)]) hx hb dX0_divide_42 hl (by decide) rfl (fun ls hl => ?_)
      refine lv_iload_n hx hb dX0_divide_44 rfl (lv_at hl 5 rfl) ?_
      refine r_callS0L (As := [.int y]) (rest := []) cx hw hA (f_wholeOf l G y) ml_X0_67 st_X0_wholeOf in_X0 co_X0_wholeOf hd_X0_wholeOf rfl ⟨Nat.le_of_ble_eq_true rfl, Nat.le_of_ble_eq_true rfl⟩ hl.1 rfl (Nat.le_of_ble_eq_true rfl) dX0_divide_45 ⟨Nat.le_of_ble_eq_true rfl, Nat.le_of_ble_eq_true rfl⟩ (fun r40 H locs hr40 hw => ?_)
      refine lv_lstore (lv' := [(7, .long r40), (5, .long r38), (4, .int 1), (3, .int 0), (2, .int v2), (0, .int x), (1, .int y)]) hx hb dX0_divide_48 hl (by decide) rfl (fun ls hl => ?_)
      refine lv_iload_n hx hb dX0_divide_50 rfl (lv_at hl 3 rfl) ?_
      refine lv_if_eq (tgt := 72) hx hb dX0_divide_51 (by decide) (fun _ => ?_) (fun c9 => absurd (by decide) c9)
      refine lv_iload hx hb dX0_divide_72 (lv_at hl 2 rfl) ?_
      refine lv_if_eq (tgt := 82) hx hb dX0_divide_74 (by decide) (fun c9 => absurd c9 (by decide)) (fun _ => ?_)
      refine lv_iload_n hx hb dX0_divide_77 rfl (lv_at hl 4 rfl) ?_
      refine lv_bipush (v := 31) hx hb dX0_divide_78 (by decide) ?_
      refine lv_ishl hx hb dX0_divide_80 ?_
      refine lv_topi (fun v41 ev41 => ?_)
      have hw : Wd G A [] s.heap _ _ := hw.sub [] rfl rfl
      exact r_iret cx hr hlk () (by subst_vars; unfold x_div; rw [if_neg c4, if_pos c6]) hw (Nat.le_of_ble_eq_true rfl) (Nat.le_of_ble_eq_true rfl) dX0_divide_81
  · refine lv_iconst (v := 1) hx hb dX0_divide_16 (by decide) ?_
    refine lv_goto (tgt := 21) hx hb dX0_divide_17 (by decide) ?_
    refine lv_istore_n (lv' := [(3, .int 1), (2, .int v2), (0, .int x), (1, .int y)]) hx hb dX0_divide_21 rfl hl (by decide) rfl (fun ls hl => ?_)
    refine lv_iload_n hx hb dX0_divide_22 rfl (lv_at hl 3 rfl) ?_
    refine lv_ldc hx hb cx.2.2.2.1 (cx.2.2.2.2.1 _ cs_X0_58) dX0_divide_23 ?_
    refine lv_iand hx hb dX0_divide_25 ?_
    refine lv_topi (fun v42 ev42 => ?_)
    refine lv_ldc hx hb cx.2.2.2.1 (cx.2.2.2.2.1 _ cs_X0_71) dX0_divide_26 ?_
    refine lv_icmp_ne (tgt := 35) hx hb dX0_divide_28 (by decide) (fun c43 => ?_) (fun c43 => ?_)
    · refine lv_iconst (v := 0) hx hb dX0_divide_35 (by decide) ?_
      refine lv_istore (lv' := [(4, .int 0), (3, .int 1), (2, .int v2), (0, .int x), (1, .int y)]) hx hb dX0_divide_36 hl (by decide) rfl (fun ls hl => ?_)
      refine lv_iload_n hx hb dX0_divide_38 rfl (lv_at hl 3 rfl) ?_
      refine r_callS0L (As := [.int x]) (rest := []) cx hw hA (f_wholeOf l G x) ml_X0_67 st_X0_wholeOf in_X0 co_X0_wholeOf hd_X0_wholeOf rfl ⟨Nat.le_of_ble_eq_true rfl, Nat.le_of_ble_eq_true rfl⟩ hl.1 rfl (Nat.le_of_ble_eq_true rfl) dX0_divide_39 ⟨Nat.le_of_ble_eq_true rfl, Nat.le_of_ble_eq_true rfl⟩ (fun r45 H locs hr45 hw => ?_)
      refine lv_lstore (lv' := [(5, .long r45), (4, .int 0), (3, .int 1), (2, .int v2), (0, .int x), (1, .int y)]) hx hb dX0_divide_42 hl (by decide) rfl (fun ls hl => ?_)
      refine lv_iload_n hx hb dX0_divide_44 rfl (lv_at hl 5 rfl) ?_
      refine r_callS0L (As := [.int y]) (rest := []) cx hw hA (f_wholeOf l G y) ml_X0_67 st_X0_wholeOf in_X0 co_X0_wholeOf hd_X0_wholeOf rfl ⟨Nat.le_of_ble_eq_true rfl, Nat.le_of_ble_eq_true rfl⟩ hl.1 rfl (Nat.le_of_ble_eq_true rfl) dX0_divide_45 ⟨Nat.le_of_ble_eq_true rfl, Nat.le_of_ble_eq_true rfl⟩ (fun r47 H locs hr47 hw => ?_)
      refine lv_lstore (lv' := [(7, .long r47), (5, .long r45), (4, .int 0), (3, .int 1), (2, .int v2), (0, .int x), (1, .int y)]) hx hb dX0_divide_48 hl (by decide) rfl (fun ls hl => ?_)
      refine lv_iload_n hx hb dX0_divide_50 rfl (lv_at hl 3 rfl) ?_
      refine lv_if_eq (tgt := 72) hx hb dX0_divide_51 (by decide) (fun c9 => absurd c9 (by decide)) (fun _ => ?_)
      refine lv_iload hx hb dX0_divide_54 (lv_at hl 2 rfl) ?_
      refine lv_if_eq (tgt := 64) hx hb dX0_divide_56 (by decide) (fun _ => ?_) (fun c9 => absurd (by decide) c9)
      refine lv_iload_n hx hb dX0_divide_64 rfl (lv_at hl 4 rfl) ?_
      refine lv_bipush (v := 31) hx hb dX0_divide_65 (by decide) ?_
      refine lv_ishl hx hb dX0_divide_67 ?_
      refine lv_topi (fun v48 ev48 => ?_)
      refine lv_ldc hx hb cx.2.2.2.1 (cx.2.2.2.2.1 _ cs_X0_71) dX0_divide_68 ?_
      refine lv_ior hx hb dX0_divide_70 ?_
      refine lv_topi (fun v49 ev49 => ?_)
      have hw : Wd G A [] s.heap _ _ := hw.sub [] rfl rfl
      exact r_iret cx hr hlk () (by subst_vars; unfold x_div; rw [if_pos c4, if_neg c43]) hw (Nat.le_of_ble_eq_true rfl) (Nat.le_of_ble_eq_true rfl) dX0_divide_71
    · refine lv_iconst (v := 1) hx hb dX0_divide_31 (by decide) ?_
      refine lv_goto (tgt := 36) hx hb dX0_divide_32 (by decide) ?_
      refine lv_istore (lv' := [(4, .int 1), (3, .int 1), (2, .int v2), (0, .int x), (1, .int y)]) hx hb dX0_divide_36 hl (by decide) rfl (fun ls hl => ?_)
      refine lv_iload_n hx hb dX0_divide_38 rfl (lv_at hl 3 rfl) ?_
      refine r_callS0L (As := [.int x]) (rest := []) cx hw hA (f_wholeOf l G x) ml_X0_67 st_X0_wholeOf in_X0 co_X0_wholeOf hd_X0_wholeOf rfl ⟨Nat.le_of_ble_eq_true rfl, Nat.le_of_ble_eq_true rfl⟩ hl.1 rfl (Nat.le_of_ble_eq_true rfl) dX0_divide_39 ⟨Nat.le_of_ble_eq_true rfl, Nat.le_of_ble_eq_true rfl⟩ (fun r51 H locs hr51 hw => ?_)
      refine lv_lstore (lv' := [(5, .long r51), (4, .int 1), (3, .int 1), (2, .int v2), (0, .int x), (1, .int y)]) hx hb dX0_divide_42 hl (by decide) rfl (fun ls hl => ?_)
      refine lv_iload_n hx hb dX0_divide_44 rfl (lv_at hl 5 rfl) ?_
      refine r_callS0L (As := [.int y]) (rest := []) cx hw hA (f_wholeOf l G y) ml_X0_67 st_X0_wholeOf in_X0 co_X0_wholeOf hd_X0_wholeOf rfl ⟨Nat.le_of_ble_eq_true rfl, Nat.le_of_ble_eq_true rfl⟩ hl.1 rfl (Nat.le_of_ble_eq_true rfl) dX0_divide_45 ⟨Nat.le_of_ble_eq_true rfl, Nat.le_of_ble_eq_true rfl⟩ (fun r53 H locs hr53 hw => ?_)
      refine lv_lstore (lv' := [(7, .long r53), (5, .long r51), (4, .int 1), (3, .int 1), (2, .int v2), (0, .int x), (1, .int y)]) hx hb dX0_divide_48 hl (by decide) rfl (fun ls hl => ?_)
      refine lv_iload_n hx hb dX0_divide_50 rfl (lv_at hl 3 rfl) ?_
      refine lv_if_eq (tgt := 72) hx hb dX0_divide_51 (by decide) (fun c9 => absurd c9 (by decide)) (fun _ => ?_)
      refine lv_iload hx hb dX0_divide_54 (lv_at hl 2 rfl) ?_
      refine lv_if_eq (tgt := 64) hx hb dX0_divide_56 (by decide) (fun c9 => absurd c9 (by decide)) (fun _ => ?_)
      refine lv_ldc hx hb cx.2.2.2.1 (cx.2.2.2.2.1 _ cs_X0_47) dX0_divide_59 ?_
      refine lv_goto (tgt := 71) hx hb dX0_divide_61 (by decide) ?_
      have hw : Wd G A [] s.heap _ _ := hw.sub [] rfl rfl
      exact r_iret cx hr hlk () (by subst_vars; unfold x_div; rw [if_pos c4, if_pos c43]) hw (Nat.le_of_ble_eq_true rfl) (Nat.le_of_ble_eq_true rfl) dX0_divide_71

def x_cut (k : Int32) : Int32 := (if (x_isNan k) = (0 : Int32) then (if (x_lastBitOf k) ≤ (7 : Int32) then (if (-24 : Int32) ≤ (x_lastBitOf k) then (if (x_lastBitOf k) < (0 : Int32) then (if (0 : Int32) ≤ k then (((x_wholeOf k) >>> ((-(x_lastBitOf k)).toInt64 &&& 63)).toInt32) else ((-((x_wholeOf k) >>> ((-(x_lastBitOf k)).toInt64 &&& 63)).toInt32))) else (if (0 : Int32) ≤ k then (((x_wholeOf k) <<< ((x_lastBitOf k).toInt64 &&& 63)).toInt32) else ((-((x_wholeOf k) <<< ((x_lastBitOf k).toInt64 &&& 63)).toInt32)))) else (0)) else (if (0 : Int32) ≤ k then (2147483647) else (-2147483648))) else (0))
set_option maxHeartbeats 4000000 in
set_option maxRecDepth 100000 in
theorem f_cut (l : Launch) (G : Gt) (k : Int32) : Mt l yX0_cut cX0_cut 5 (some .int) ({ frames := 1, cells := 0, slots := 0, locals := 21 } : Room) G [.long (x_make 1 k)] [] (qI G (fun (r : Int32) (w : Unit) => r = x_cut k) (fun w => [])) := by
  refine Mt.of (own := RX0) (cc := cX0_cut) (by decide) rfl (Nat.le_of_ble_eq_true rfl) ?_
  intro p e s m below meth c A ls cx hr hlk hmn hA hl hw
  have hx := cx.1
  have hb := cx.2.1
  have hl : lv_has ls 5 [(0, .long (x_make 1 k))] := hl
  refine lv_lload_n hx hb dX0_cut_0 rfl (lv_at hl 0 rfl) ?_
  refine r_callS0I (As := [.long (x_make 1 k)]) (rest := []) cx hw hA (f_bitsF l G k) ml_X0_26 st_X0_bits in_X0 co_X0_bits hd_X0_bits rfl ⟨Nat.le_of_ble_eq_true rfl, Nat.le_of_ble_eq_true rfl⟩ hl.1 rfl (Nat.le_of_ble_eq_true rfl) dX0_cut_1 ⟨Nat.le_of_ble_eq_true rfl, Nat.le_of_ble_eq_true rfl⟩ (fun r2 H locs hr2 hw => ?_)
  subst hr2
  refine lv_istore_n (lv' := [(2, .int k), (0, .long (x_make 1 k))]) hx hb dX0_cut_4 rfl hl (by decide) rfl (fun ls hl => ?_)
  refine lv_lload_n hx hb dX0_cut_5 rfl (lv_at hl 1 rfl) ?_
  refine r_callS0I (As := [.long (x_make 1 k)]) (rest := []) cx hw hA (f_kindF l G k) ml_X0_23 st_X0_kind in_X0 co_X0_kind hd_X0_kind rfl ⟨Nat.le_of_ble_eq_true rfl, Nat.le_of_ble_eq_true rfl⟩ hl.1 rfl (Nat.le_of_ble_eq_true rfl) dX0_cut_6 ⟨Nat.le_of_ble_eq_true rfl, Nat.le_of_ble_eq_true rfl⟩ (fun r4 H locs hr4 hw => ?_)
  subst hr4
  refine lv_iconst (v := 1) hx hb dX0_cut_9 (by decide) ?_
  refine lv_icmp_eq (tgt := 15) hx hb dX0_cut_10 (by decide) (fun _ => ?_) (fun c9 => absurd (by decide) c9)
  refine lv_iload_n hx hb dX0_cut_15 rfl (lv_at hl 0 rfl) ?_
  refine r_callS0I (As := [.int k]) (rest := []) cx hw hA (f_isNan l G k) ml_X0_36 st_X0_isNan in_X0 co_X0_isNan hd_X0_isNan rfl ⟨Nat.le_of_ble_eq_true rfl, Nat.le_of_ble_eq_true rfl⟩ hl.1 rfl (Nat.le_of_ble_eq_true rfl) dX0_cut_16 ⟨Nat.le_of_ble_eq_true rfl, Nat.le_of_ble_eq_true rfl⟩ (fun r6 H locs hr6 hw => ?_)
  refine lv_if_eq (tgt := 24) hx hb dX0_cut_19 (by decide) (fun c7 => ?_) (fun c7 => ?_)
  · refine lv_iload_n hx hb dX0_cut_24 rfl (lv_at hl 0 rfl) ?_
    refine r_callS0I (As := [.int k]) (rest := []) cx hw hA (f_lastBitOf l G k) ml_X0_63 st_X0_lastBitOf in_X0 co_X0_lastBitOf hd_X0_lastBitOf rfl ⟨Nat.le_of_ble_eq_true rfl, Nat.le_of_ble_eq_true rfl⟩ hl.1 rfl (Nat.le_of_ble_eq_true rfl) dX0_cut_25 ⟨Nat.le_of_ble_eq_true rfl, Nat.le_of_ble_eq_true rfl⟩ (fun r9 H locs hr9 hw => ?_)
    refine lv_istore_n (lv' := [(3, .int r9), (2, .int k), (0, .long (x_make 1 k))]) hx hb dX0_cut_28 rfl hl (by decide) rfl (fun ls hl => ?_)
    refine lv_iload_n hx hb dX0_cut_29 rfl (lv_at hl 0 rfl) ?_
    refine lv_bipush (v := 7) hx hb dX0_cut_30 (by decide) ?_
    refine lv_icmp_le (tgt := 47) hx hb dX0_cut_32 (by decide) (fun c10 => ?_) (fun c10 => ?_)
    · refine lv_iload_n hx hb dX0_cut_47 rfl (lv_at hl 0 rfl) ?_
      refine lv_bipush (v := (-24)) hx hb dX0_cut_48 (by decide) ?_
      refine lv_icmp_ge (tgt := 55) hx hb dX0_cut_50 (by decide) (fun c11 => ?_) (fun c11 => ?_)
      · refine lv_iload_n hx hb dX0_cut_55 rfl (lv_at hl 0 rfl) ?_
        refine lv_if_lt (tgt := 68) hx hb dX0_cut_56 (by decide) (fun c12 => ?_) (fun c12 => ?_)
        · refine lv_iload_n hx hb dX0_cut_68 rfl (lv_at hl 1 rfl) ?_
          refine r_callS0L (As := [.int k]) (rest := []) cx hw hA (f_wholeOf l G k) ml_X0_67 st_X0_wholeOf in_X0 co_X0_wholeOf hd_X0_wholeOf rfl ⟨Nat.le_of_ble_eq_true rfl, Nat.le_of_ble_eq_true rfl⟩ hl.1 rfl (Nat.le_of_ble_eq_true rfl) dX0_cut_69 ⟨Nat.le_of_ble_eq_true rfl, Nat.le_of_ble_eq_true rfl⟩ (fun r14 H locs hr14 hw => ?_)
          refine lv_iload_n hx hb dX0_cut_72 rfl (lv_at hl 0 rfl) ?_
          refine lv_ineg hx hb dX0_cut_73 ?_
          refine lv_topi (fun v15 ev15 => ?_)
          refine lv_lshr hx hb dX0_cut_74 rfl ?_
          refine lv_topl (fun v16 ev16 => ?_)
          refine lv_l2i hx hb dX0_cut_75 rfl ?_
          refine lv_topi (fun v17 ev17 => ?_)
          refine lv_istore (lv' := [(4, .int v17), (3, .int r9), (2, .int k), (0, .long (x_make 1 k))]) hx hb dX0_cut_76 hl (by decide) rfl (fun ls hl => ?_)
          refine lv_iload_n hx hb dX0_cut_78 rfl (lv_at hl 2 rfl) ?_
          refine lv_if_ge (tgt := 88) hx hb dX0_cut_79 (by decide) (fun c18 => ?_) (fun c18 => ?_)
          · refine lv_iload hx hb dX0_cut_88 (lv_at hl 0 rfl) ?_
            have hw : Wd G A [] s.heap _ _ := hw.sub [] rfl rfl
            exact r_iret cx hr hlk () (by subst_vars; unfold x_cut; rw [if_pos c7, if_pos c10, if_pos c11, if_pos c12, if_pos c18]) hw (Nat.le_of_ble_eq_true rfl) (Nat.le_of_ble_eq_true rfl) dX0_cut_90
          · refine lv_iload hx hb dX0_cut_82 (lv_at hl 0 rfl) ?_
            refine lv_ineg hx hb dX0_cut_84 ?_
            refine lv_topi (fun v19 ev19 => ?_)
            refine lv_goto (tgt := 90) hx hb dX0_cut_85 (by decide) ?_
            have hw : Wd G A [] s.heap _ _ := hw.sub [] rfl rfl
            exact r_iret cx hr hlk () (by subst_vars; unfold x_cut; rw [if_pos c7, if_pos c10, if_pos c11, if_pos c12, if_neg c18]) hw (Nat.le_of_ble_eq_true rfl) (Nat.le_of_ble_eq_true rfl) dX0_cut_90
        · refine lv_iload_n hx hb dX0_cut_59 rfl (lv_at hl 1 rfl) ?_
          refine r_callS0L (As := [.int k]) (rest := []) cx hw hA (f_wholeOf l G k) ml_X0_67 st_X0_wholeOf in_X0 co_X0_wholeOf hd_X0_wholeOf rfl ⟨Nat.le_of_ble_eq_true rfl, Nat.le_of_ble_eq_true rfl⟩ hl.1 rfl (Nat.le_of_ble_eq_true rfl) dX0_cut_60 ⟨Nat.le_of_ble_eq_true rfl, Nat.le_of_ble_eq_true rfl⟩ (fun r21 H locs hr21 hw => ?_)
          refine lv_iload_n hx hb dX0_cut_63 rfl (lv_at hl 0 rfl) ?_
          refine lv_lshl hx hb dX0_cut_64 rfl ?_
          refine lv_topl (fun v22 ev22 => ?_)
          refine lv_goto (tgt := 75) hx hb dX0_cut_65 (by decide) ?_
          refine lv_l2i hx hb dX0_cut_75 rfl ?_
          refine lv_topi (fun v23 ev23 => ?_)
          refine lv_istore (lv' := [(4, .int v23), (3, .int r9), (2, .int k), (0, .long (x_make 1 k))]) hx hb dX0_cut_76 hl (by decide) rfl (fun ls hl => ?_)
          refine lv_iload_n hx hb dX0_cut_78 rfl (lv_at hl 2 rfl) ?_
          refine lv_if_ge (tgt := 88) hx hb dX0_cut_79 (by decide) (fun c24 => ?_) (fun c24 => ?_)
          · refine lv_iload hx hb dX0_cut_88 (lv_at hl 0 rfl) ?_
            have hw : Wd G A [] s.heap _ _ := hw.sub [] rfl rfl
            exact r_iret cx hr hlk () (by subst_vars; unfold x_cut; rw [if_pos c7, if_pos c10, if_pos c11, if_neg c12, if_pos c24]) hw (Nat.le_of_ble_eq_true rfl) (Nat.le_of_ble_eq_true rfl) dX0_cut_90
          · refine lv_iload hx hb dX0_cut_82 (lv_at hl 0 rfl) ?_
            refine lv_ineg hx hb dX0_cut_84 ?_
            refine lv_topi (fun v25 ev25 => ?_)
            refine lv_goto (tgt := 90) hx hb dX0_cut_85 (by decide) ?_
            have hw : Wd G A [] s.heap _ _ := hw.sub [] rfl rfl
            exact r_iret cx hr hlk () (by subst_vars; unfold x_cut; rw [if_pos c7, if_pos c10, if_pos c11, if_neg c12, if_neg c24]) hw (Nat.le_of_ble_eq_true rfl) (Nat.le_of_ble_eq_true rfl) dX0_cut_90
      · refine lv_iconst (v := 0) hx hb dX0_cut_53 (by decide) ?_
        have hw : Wd G A [] s.heap _ _ := hw.sub [] rfl rfl
        exact r_iret cx hr hlk () (by subst_vars; unfold x_cut; rw [if_pos c7, if_pos c10, if_neg c11]) hw (Nat.le_of_ble_eq_true rfl) (Nat.le_of_ble_eq_true rfl) dX0_cut_54
    · refine lv_iload_n hx hb dX0_cut_35 rfl (lv_at hl 1 rfl) ?_
      refine lv_if_ge (tgt := 44) hx hb dX0_cut_36 (by decide) (fun c26 => ?_) (fun c26 => ?_)
      · refine lv_ldc hx hb cx.2.2.2.1 (cx.2.2.2.2.1 _ cs_X0_58) dX0_cut_44 ?_
        have hw : Wd G A [] s.heap _ _ := hw.sub [] rfl rfl
        exact r_iret cx hr hlk () (by subst_vars; unfold x_cut; rw [if_pos c7, if_neg c10, if_pos c26]) hw (Nat.le_of_ble_eq_true rfl) (Nat.le_of_ble_eq_true rfl) dX0_cut_46
      · refine lv_ldc hx hb cx.2.2.2.1 (cx.2.2.2.2.1 _ cs_X0_51) dX0_cut_39 ?_
        refine lv_goto (tgt := 46) hx hb dX0_cut_41 (by decide) ?_
        have hw : Wd G A [] s.heap _ _ := hw.sub [] rfl rfl
        exact r_iret cx hr hlk () (by subst_vars; unfold x_cut; rw [if_pos c7, if_neg c10, if_neg c26]) hw (Nat.le_of_ble_eq_true rfl) (Nat.le_of_ble_eq_true rfl) dX0_cut_46
  · refine lv_iconst (v := 0) hx hb dX0_cut_22 (by decide) ?_
    have hw : Wd G A [] s.heap _ _ := hw.sub [] rfl rfl
    exact r_iret cx hr hlk () (by subst_vars; unfold x_cut; rw [if_neg c7]) hw (Nat.le_of_ble_eq_true rfl) (Nat.le_of_ble_eq_true rfl) dX0_cut_23

def x_ap43 (a : Int32) (d : Int32) : Int32 := (if (x_isNan (x_floatBits a)) = (0 : Int32) then (if (x_isNan (x_floatBits d)) = (0 : Int32) then ((x_add (x_floatBits a) (x_floatBits d))) else (2143289344)) else (2143289344))
set_option maxHeartbeats 4000000 in
set_option maxRecDepth 100000 in
theorem f_ap43 (l : Launch) (G : Gt) (a : Int32) (d : Int32) : Mt l yX0_apply cX0_apply 8 (some .long) ({ frames := 4, cells := 0, slots := 0, locals := 102 } : Room) G [.int 43, .long (x_make 1 a), .long (x_make 1 d)] [] (qL G (fun (r : Int64) (w : Unit) => r = x_make 1 (x_ap43 a d)) (fun w => [])) := by
  refine Mt.of (own := RX0) (cc := cX0_apply) (by decide) rfl (Nat.le_of_ble_eq_true rfl) ?_
  intro p e s m below meth c A ls cx hr hlk hmn hA hl hw
  have hx := cx.1
  have hb := cx.2.1
  have hl : lv_has ls 8 [(0, .int 43), (1, .long (x_make 1 a)), (3, .long (x_make 1 d))] := hl
  refine lv_iload_n hx hb dX0_apply_0 rfl (lv_at hl 0 rfl) ?_
  refine lv_bipush (v := 37) hx hb dX0_apply_1 (by decide) ?_
  refine lv_icmp_ne (tgt := 22) hx hb dX0_apply_3 (by decide) (fun _ => ?_) (fun c9 => absurd c9 (by decide))
  refine lv_lload_n hx hb dX0_apply_22 rfl (lv_at hl 1 rfl) ?_
  refine r_callS0I (As := [.long (x_make 1 a)]) (rest := []) cx hw hA (f_kindF l G a) ml_X0_23 st_X0_kind in_X0 co_X0_kind hd_X0_kind rfl ⟨Nat.le_of_ble_eq_true rfl, Nat.le_of_ble_eq_true rfl⟩ hl.1 rfl (Nat.le_of_ble_eq_true rfl) dX0_apply_23 ⟨Nat.le_of_ble_eq_true rfl, Nat.le_of_ble_eq_true rfl⟩ (fun r2 H locs hr2 hw => ?_)
  subst hr2
  refine lv_if_ne (tgt := 53) hx hb dX0_apply_26 (by decide) (fun _ => ?_) (fun c9 => absurd c9 (by decide))
  refine lv_lload_n hx hb dX0_apply_53 rfl (lv_at hl 1 rfl) ?_
  refine r_callS0I (As := [.long (x_make 1 a)]) (rest := []) cx hw hA (f_floatBits l G a) ml_X0_33 st_X0_floatBits in_X0 co_X0_floatBits hd_X0_floatBits rfl ⟨Nat.le_of_ble_eq_true rfl, Nat.le_of_ble_eq_true rfl⟩ hl.1 rfl (Nat.le_of_ble_eq_true rfl) dX0_apply_54 ⟨Nat.le_of_ble_eq_true rfl, Nat.le_of_ble_eq_true rfl⟩ (fun r4 H locs hr4 hw => ?_)
  refine lv_istore (lv' := [(5, .int r4), (0, .int 43), (1, .long (x_make 1 a)), (3, .long (x_make 1 d))]) hx hb dX0_apply_57 hl (by decide) rfl (fun ls hl => ?_)
  refine lv_lload_n hx hb dX0_apply_59 rfl (lv_at hl 3 rfl) ?_
  refine r_callS0I (As := [.long (x_make 1 d)]) (rest := []) cx hw hA (f_floatBits l G d) ml_X0_33 st_X0_floatBits in_X0 co_X0_floatBits hd_X0_floatBits rfl ⟨Nat.le_of_ble_eq_true rfl, Nat.le_of_ble_eq_true rfl⟩ hl.1 rfl (Nat.le_of_ble_eq_true rfl) dX0_apply_60 ⟨Nat.le_of_ble_eq_true rfl, Nat.le_of_ble_eq_true rfl⟩ (fun r6 H locs hr6 hw => ?_)
  refine lv_istore (lv' := [(6, .int r6), (5, .int r4), (0, .int 43), (1, .long (x_make 1 a)), (3, .long (x_make 1 d))]) hx hb dX0_apply_63 hl (by decide) rfl (fun ls hl => ?_)
  refine lv_iload hx hb dX0_apply_65 (lv_at hl 1 rfl) ?_
  refine r_callS0I (As := [.int r4]) (rest := []) cx hw hA (f_isNan l G r4) ml_X0_36 st_X0_isNan in_X0 co_X0_isNan hd_X0_isNan rfl ⟨Nat.le_of_ble_eq_true rfl, Nat.le_of_ble_eq_true rfl⟩ hl.1 rfl (Nat.le_of_ble_eq_true rfl) dX0_apply_67 ⟨Nat.le_of_ble_eq_true rfl, Nat.le_of_ble_eq_true rfl⟩ (fun r8 H locs hr8 hw => ?_)
  refine lv_if_ne (tgt := 81) hx hb dX0_apply_70 (by decide) (fun c9 => ?_) (fun c9 => ?_)
  · refine lv_iconst (v := 1) hx hb dX0_apply_81 (by decide) ?_
    refine lv_goto (tgt := 86) hx hb dX0_apply_82 (by decide) ?_
    refine lv_istore (lv' := [(7, .int 1), (6, .int r6), (5, .int r4), (0, .int 43), (1, .long (x_make 1 a)), (3, .long (x_make 1 d))]) hx hb dX0_apply_86 hl (by decide) rfl (fun ls hl => ?_)
    refine lv_iload_n hx hb dX0_apply_88 rfl (lv_at hl 3 rfl) ?_
    refine lv_lookup (tgt := 180) hx hb dX0_apply_89 (by decide +kernel) rfl (by decide) ?_
    refine lv_iconst (v := 1) hx hb dX0_apply_180 (by decide) ?_
    refine lv_iload hx hb dX0_apply_181 (lv_at hl 0 rfl) ?_
    refine lv_if_eq (tgt := 191) hx hb dX0_apply_183 (by decide) (fun c9 => absurd c9 (by decide)) (fun _ => ?_)
    refine lv_ldc hx hb cx.2.2.2.1 (cx.2.2.2.2.1 _ cs_X0_47) dX0_apply_186 ?_
    refine lv_goto (tgt := 198) hx hb dX0_apply_188 (by decide) ?_
    refine r_callS0L (As := [.int 1, .int 2143289344]) (rest := []) cx hw hA (c_make l G 1 2143289344) ml_X0_19 st_X0_make in_X0 co_X0_make hd_X0_make rfl ⟨Nat.le_of_ble_eq_true rfl, Nat.le_of_ble_eq_true rfl⟩ hl.1 rfl (Nat.le_of_ble_eq_true rfl) dX0_apply_198 ⟨Nat.le_of_ble_eq_true rfl, Nat.le_of_ble_eq_true rfl⟩ (fun r11 H locs hr11 hw => ?_)
    subst hr11
    have hw : Wd G A [] s.heap _ _ := hw.sub [] rfl rfl
    exact r_lret cx hr hlk () (congrArg (x_make 1) (by subst_vars; unfold x_ap43; rw [if_neg c9])) hw (Nat.le_of_ble_eq_true rfl) (Nat.le_of_ble_eq_true rfl) dX0_apply_201
  · refine lv_iload hx hb dX0_apply_73 (lv_at hl 0 rfl) ?_
    refine r_callS0I (As := [.int r6]) (rest := []) cx hw hA (f_isNan l G r6) ml_X0_36 st_X0_isNan in_X0 co_X0_isNan hd_X0_isNan rfl ⟨Nat.le_of_ble_eq_true rfl, Nat.le_of_ble_eq_true rfl⟩ hl.1 rfl (Nat.le_of_ble_eq_true rfl) dX0_apply_75 ⟨Nat.le_of_ble_eq_true rfl, Nat.le_of_ble_eq_true rfl⟩ (fun r13 H locs hr13 hw => ?_)
    refine lv_if_eq (tgt := 85) hx hb dX0_apply_78 (by decide) (fun c14 => ?_) (fun c14 => ?_)
    · refine lv_iconst (v := 0) hx hb dX0_apply_85 (by decide) ?_
      refine lv_istore (lv' := [(7, .int 0), (6, .int r6), (5, .int r4), (0, .int 43), (1, .long (x_make 1 a)), (3, .long (x_make 1 d))]) hx hb dX0_apply_86 hl (by decide) rfl (fun ls hl => ?_)
      refine lv_iload_n hx hb dX0_apply_88 rfl (lv_at hl 3 rfl) ?_
      refine lv_lookup (tgt := 180) hx hb dX0_apply_89 (by decide +kernel) rfl (by decide) ?_
      refine lv_iconst (v := 1) hx hb dX0_apply_180 (by decide) ?_
      refine lv_iload hx hb dX0_apply_181 (lv_at hl 0 rfl) ?_
      refine lv_if_eq (tgt := 191) hx hb dX0_apply_183 (by decide) (fun _ => ?_) (fun c9 => absurd (by decide) c9)
      refine lv_iload hx hb dX0_apply_191 (lv_at hl 2 rfl) ?_
      refine lv_iload hx hb dX0_apply_193 (lv_at hl 1 rfl) ?_
      refine r_callS0I (As := [.int r4, .int r6]) (rest := [.int 1]) cx hw hA (f_add l G r4 r6) ml_X0_48 st_X0_add in_X0 co_X0_add hd_X0_add rfl ⟨Nat.le_of_ble_eq_true rfl, Nat.le_of_ble_eq_true rfl⟩ hl.1 rfl (Nat.le_of_ble_eq_true rfl) dX0_apply_195 ⟨Nat.le_of_ble_eq_true rfl, Nat.le_of_ble_eq_true rfl⟩ (fun r16 H locs hr16 hw => ?_)
      refine r_callS0L (As := [.int 1, .int r16]) (rest := []) cx hw hA (c_make l G 1 r16) ml_X0_19 st_X0_make in_X0 co_X0_make hd_X0_make rfl ⟨Nat.le_of_ble_eq_true rfl, Nat.le_of_ble_eq_true rfl⟩ hl.1 rfl (Nat.le_of_ble_eq_true rfl) dX0_apply_198 ⟨Nat.le_of_ble_eq_true rfl, Nat.le_of_ble_eq_true rfl⟩ (fun r18 H locs hr18 hw => ?_)
      subst hr18
      have hw : Wd G A [] s.heap _ _ := hw.sub [] rfl rfl
      exact r_lret cx hr hlk () (congrArg (x_make 1) (by subst_vars; unfold x_ap43; rw [if_pos c9, if_pos c14])) hw (Nat.le_of_ble_eq_true rfl) (Nat.le_of_ble_eq_true rfl) dX0_apply_201
    · refine lv_iconst (v := 1) hx hb dX0_apply_81 (by decide) ?_
      refine lv_goto (tgt := 86) hx hb dX0_apply_82 (by decide) ?_
      refine lv_istore (lv' := [(7, .int 1), (6, .int r6), (5, .int r4), (0, .int 43), (1, .long (x_make 1 a)), (3, .long (x_make 1 d))]) hx hb dX0_apply_86 hl (by decide) rfl (fun ls hl => ?_)
      refine lv_iload_n hx hb dX0_apply_88 rfl (lv_at hl 3 rfl) ?_
      refine lv_lookup (tgt := 180) hx hb dX0_apply_89 (by decide +kernel) rfl (by decide) ?_
      refine lv_iconst (v := 1) hx hb dX0_apply_180 (by decide) ?_
      refine lv_iload hx hb dX0_apply_181 (lv_at hl 0 rfl) ?_
      refine lv_if_eq (tgt := 191) hx hb dX0_apply_183 (by decide) (fun c9 => absurd c9 (by decide)) (fun _ => ?_)
      refine lv_ldc hx hb cx.2.2.2.1 (cx.2.2.2.2.1 _ cs_X0_47) dX0_apply_186 ?_
      refine lv_goto (tgt := 198) hx hb dX0_apply_188 (by decide) ?_
      refine r_callS0L (As := [.int 1, .int 2143289344]) (rest := []) cx hw hA (c_make l G 1 2143289344) ml_X0_19 st_X0_make in_X0 co_X0_make hd_X0_make rfl ⟨Nat.le_of_ble_eq_true rfl, Nat.le_of_ble_eq_true rfl⟩ hl.1 rfl (Nat.le_of_ble_eq_true rfl) dX0_apply_198 ⟨Nat.le_of_ble_eq_true rfl, Nat.le_of_ble_eq_true rfl⟩ (fun r20 H locs hr20 hw => ?_)
      subst hr20
      have hw : Wd G A [] s.heap _ _ := hw.sub [] rfl rfl
      exact r_lret cx hr hlk () (congrArg (x_make 1) (by subst_vars; unfold x_ap43; rw [if_pos c9, if_neg c14])) hw (Nat.le_of_ble_eq_true rfl) (Nat.le_of_ble_eq_true rfl) dX0_apply_201

def x_ap45 (a : Int32) (d : Int32) : Int32 := (if (x_isNan (x_floatBits a)) = (0 : Int32) then (if (x_isNan (x_floatBits d)) = (0 : Int32) then ((x_add (x_floatBits a) ((x_floatBits d) ^^^ (-2147483648 : Int32)))) else (2143289344)) else (2143289344))
set_option maxHeartbeats 4000000 in
set_option maxRecDepth 100000 in
theorem f_ap45 (l : Launch) (G : Gt) (a : Int32) (d : Int32) : Mt l yX0_apply cX0_apply 8 (some .long) ({ frames := 4, cells := 0, slots := 0, locals := 102 } : Room) G [.int 45, .long (x_make 1 a), .long (x_make 1 d)] [] (qL G (fun (r : Int64) (w : Unit) => r = x_make 1 (x_ap45 a d)) (fun w => [])) := by
  refine Mt.of (own := RX0) (cc := cX0_apply) (by decide) rfl (Nat.le_of_ble_eq_true rfl) ?_
  intro p e s m below meth c A ls cx hr hlk hmn hA hl hw
  have hx := cx.1
  have hb := cx.2.1
  have hl : lv_has ls 8 [(0, .int 45), (1, .long (x_make 1 a)), (3, .long (x_make 1 d))] := hl
  refine lv_iload_n hx hb dX0_apply_0 rfl (lv_at hl 0 rfl) ?_
  refine lv_bipush (v := 37) hx hb dX0_apply_1 (by decide) ?_
  refine lv_icmp_ne (tgt := 22) hx hb dX0_apply_3 (by decide) (fun _ => ?_) (fun c9 => absurd c9 (by decide))
  refine lv_lload_n hx hb dX0_apply_22 rfl (lv_at hl 1 rfl) ?_
  refine r_callS0I (As := [.long (x_make 1 a)]) (rest := []) cx hw hA (f_kindF l G a) ml_X0_23 st_X0_kind in_X0 co_X0_kind hd_X0_kind rfl ⟨Nat.le_of_ble_eq_true rfl, Nat.le_of_ble_eq_true rfl⟩ hl.1 rfl (Nat.le_of_ble_eq_true rfl) dX0_apply_23 ⟨Nat.le_of_ble_eq_true rfl, Nat.le_of_ble_eq_true rfl⟩ (fun r2 H locs hr2 hw => ?_)
  subst hr2
  refine lv_if_ne (tgt := 53) hx hb dX0_apply_26 (by decide) (fun _ => ?_) (fun c9 => absurd c9 (by decide))
  refine lv_lload_n hx hb dX0_apply_53 rfl (lv_at hl 1 rfl) ?_
  refine r_callS0I (As := [.long (x_make 1 a)]) (rest := []) cx hw hA (f_floatBits l G a) ml_X0_33 st_X0_floatBits in_X0 co_X0_floatBits hd_X0_floatBits rfl ⟨Nat.le_of_ble_eq_true rfl, Nat.le_of_ble_eq_true rfl⟩ hl.1 rfl (Nat.le_of_ble_eq_true rfl) dX0_apply_54 ⟨Nat.le_of_ble_eq_true rfl, Nat.le_of_ble_eq_true rfl⟩ (fun r4 H locs hr4 hw => ?_)
  refine lv_istore (lv' := [(5, .int r4), (0, .int 45), (1, .long (x_make 1 a)), (3, .long (x_make 1 d))]) hx hb dX0_apply_57 hl (by decide) rfl (fun ls hl => ?_)
  refine lv_lload_n hx hb dX0_apply_59 rfl (lv_at hl 3 rfl) ?_
  refine r_callS0I (As := [.long (x_make 1 d)]) (rest := []) cx hw hA (f_floatBits l G d) ml_X0_33 st_X0_floatBits in_X0 co_X0_floatBits hd_X0_floatBits rfl ⟨Nat.le_of_ble_eq_true rfl, Nat.le_of_ble_eq_true rfl⟩ hl.1 rfl (Nat.le_of_ble_eq_true rfl) dX0_apply_60 ⟨Nat.le_of_ble_eq_true rfl, Nat.le_of_ble_eq_true rfl⟩ (fun r6 H locs hr6 hw => ?_)
  refine lv_istore (lv' := [(6, .int r6), (5, .int r4), (0, .int 45), (1, .long (x_make 1 a)), (3, .long (x_make 1 d))]) hx hb dX0_apply_63 hl (by decide) rfl (fun ls hl => ?_)
  refine lv_iload hx hb dX0_apply_65 (lv_at hl 1 rfl) ?_
  refine r_callS0I (As := [.int r4]) (rest := []) cx hw hA (f_isNan l G r4) ml_X0_36 st_X0_isNan in_X0 co_X0_isNan hd_X0_isNan rfl ⟨Nat.le_of_ble_eq_true rfl, Nat.le_of_ble_eq_true rfl⟩ hl.1 rfl (Nat.le_of_ble_eq_true rfl) dX0_apply_67 ⟨Nat.le_of_ble_eq_true rfl, Nat.le_of_ble_eq_true rfl⟩ (fun r8 H locs hr8 hw => ?_)
  refine lv_if_ne (tgt := 81) hx hb dX0_apply_70 (by decide) (fun c9 => ?_) (fun c9 => ?_)
  · refine lv_iconst (v := 1) hx hb dX0_apply_81 (by decide) ?_
    refine lv_goto (tgt := 86) hx hb dX0_apply_82 (by decide) ?_
    refine lv_istore (lv' := [(7, .int 1), (6, .int r6), (5, .int r4), (0, .int 45), (1, .long (x_make 1 a)), (3, .long (x_make 1 d))]) hx hb dX0_apply_86 hl (by decide) rfl (fun ls hl => ?_)
    refine lv_iload_n hx hb dX0_apply_88 rfl (lv_at hl 3 rfl) ?_
    refine lv_lookup (tgt := 202) hx hb dX0_apply_89 (by decide +kernel) rfl (by decide) ?_
    refine lv_iconst (v := 1) hx hb dX0_apply_202 (by decide) ?_
    refine lv_iload hx hb dX0_apply_203 (lv_at hl 0 rfl) ?_
    refine lv_if_eq (tgt := 213) hx hb dX0_apply_205 (by decide) (fun c9 => absurd c9 (by decide)) (fun _ => ?_)
    refine lv_ldc hx hb cx.2.2.2.1 (cx.2.2.2.2.1 _ cs_X0_47) dX0_apply_208 ?_
    refine lv_goto (tgt := 223) hx hb dX0_apply_210 (by decide) ?_
    refine r_callS0L (As := [.int 1, .int 2143289344]) (rest := []) cx hw hA (c_make l G 1 2143289344) ml_X0_19 st_X0_make in_X0 co_X0_make hd_X0_make rfl ⟨Nat.le_of_ble_eq_true rfl, Nat.le_of_ble_eq_true rfl⟩ hl.1 rfl (Nat.le_of_ble_eq_true rfl) dX0_apply_223 ⟨Nat.le_of_ble_eq_true rfl, Nat.le_of_ble_eq_true rfl⟩ (fun r11 H locs hr11 hw => ?_)
    subst hr11
    have hw : Wd G A [] s.heap _ _ := hw.sub [] rfl rfl
    exact r_lret cx hr hlk () (congrArg (x_make 1) (by subst_vars; unfold x_ap45; rw [if_neg c9])) hw (Nat.le_of_ble_eq_true rfl) (Nat.le_of_ble_eq_true rfl) dX0_apply_226
  · refine lv_iload hx hb dX0_apply_73 (lv_at hl 0 rfl) ?_
    refine r_callS0I (As := [.int r6]) (rest := []) cx hw hA (f_isNan l G r6) ml_X0_36 st_X0_isNan in_X0 co_X0_isNan hd_X0_isNan rfl ⟨Nat.le_of_ble_eq_true rfl, Nat.le_of_ble_eq_true rfl⟩ hl.1 rfl (Nat.le_of_ble_eq_true rfl) dX0_apply_75 ⟨Nat.le_of_ble_eq_true rfl, Nat.le_of_ble_eq_true rfl⟩ (fun r13 H locs hr13 hw => ?_)
    refine lv_if_eq (tgt := 85) hx hb dX0_apply_78 (by decide) (fun c14 => ?_) (fun c14 => ?_)
    · refine lv_iconst (v := 0) hx hb dX0_apply_85 (by decide) ?_
      refine lv_istore (lv' := [(7, .int 0), (6, .int r6), (5, .int r4), (0, .int 45), (1, .long (x_make 1 a)), (3, .long (x_make 1 d))]) hx hb dX0_apply_86 hl (by decide) rfl (fun ls hl => ?_)
      refine lv_iload_n hx hb dX0_apply_88 rfl (lv_at hl 3 rfl) ?_
      refine lv_lookup (tgt := 202) hx hb dX0_apply_89 (by decide +kernel) rfl (by decide) ?_
      refine lv_iconst (v := 1) hx hb dX0_apply_202 (by decide) ?_
      refine lv_iload hx hb dX0_apply_203 (lv_at hl 0 rfl) ?_
      refine lv_if_eq (tgt := 213) hx hb dX0_apply_205 (by decide) (fun _ => ?_) (fun c9 => absurd (by decide) c9)
      refine lv_iload hx hb dX0_apply_213 (lv_at hl 2 rfl) ?_
      refine lv_iload hx hb dX0_apply_215 (lv_at hl 1 rfl) ?_
      refine lv_ldc hx hb cx.2.2.2.1 (cx.2.2.2.2.1 _ cs_X0_51) dX0_apply_217 ?_
      refine lv_ixor hx hb dX0_apply_219 ?_
      refine lv_topi (fun v15 ev15 => ?_)
      refine r_callS0I (As := [.int r4, .int v15]) (rest := [.int 1]) cx hw hA (f_add l G r4 v15) ml_X0_48 st_X0_add in_X0 co_X0_add hd_X0_add rfl ⟨Nat.le_of_ble_eq_true rfl, Nat.le_of_ble_eq_true rfl⟩ hl.1 rfl (Nat.le_of_ble_eq_true rfl) dX0_apply_220 ⟨Nat.le_of_ble_eq_true rfl, Nat.le_of_ble_eq_true rfl⟩ (fun r17 H locs hr17 hw => ?_)
      refine r_callS0L (As := [.int 1, .int r17]) (rest := []) cx hw hA (c_make l G 1 r17) ml_X0_19 st_X0_make in_X0 co_X0_make hd_X0_make rfl ⟨Nat.le_of_ble_eq_true rfl, Nat.le_of_ble_eq_true rfl⟩ hl.1 rfl (Nat.le_of_ble_eq_true rfl) dX0_apply_223 ⟨Nat.le_of_ble_eq_true rfl, Nat.le_of_ble_eq_true rfl⟩ (fun r19 H locs hr19 hw => ?_)
      subst hr19
      have hw : Wd G A [] s.heap _ _ := hw.sub [] rfl rfl
      exact r_lret cx hr hlk () (congrArg (x_make 1) (by subst_vars; unfold x_ap45; rw [if_pos c9, if_pos c14])) hw (Nat.le_of_ble_eq_true rfl) (Nat.le_of_ble_eq_true rfl) dX0_apply_226
    · refine lv_iconst (v := 1) hx hb dX0_apply_81 (by decide) ?_
      refine lv_goto (tgt := 86) hx hb dX0_apply_82 (by decide) ?_
      refine lv_istore (lv' := [(7, .int 1), (6, .int r6), (5, .int r4), (0, .int 45), (1, .long (x_make 1 a)), (3, .long (x_make 1 d))]) hx hb dX0_apply_86 hl (by decide) rfl (fun ls hl => ?_)
      refine lv_iload_n hx hb dX0_apply_88 rfl (lv_at hl 3 rfl) ?_
      refine lv_lookup (tgt := 202) hx hb dX0_apply_89 (by decide +kernel) rfl (by decide) ?_
      refine lv_iconst (v := 1) hx hb dX0_apply_202 (by decide) ?_
      refine lv_iload hx hb dX0_apply_203 (lv_at hl 0 rfl) ?_
      refine lv_if_eq (tgt := 213) hx hb dX0_apply_205 (by decide) (fun c9 => absurd c9 (by decide)) (fun _ => ?_)
      refine lv_ldc hx hb cx.2.2.2.1 (cx.2.2.2.2.1 _ cs_X0_47) dX0_apply_208 ?_
      refine lv_goto (tgt := 223) hx hb dX0_apply_210 (by decide) ?_
      refine r_callS0L (As := [.int 1, .int 2143289344]) (rest := []) cx hw hA (c_make l G 1 2143289344) ml_X0_19 st_X0_make in_X0 co_X0_make hd_X0_make rfl ⟨Nat.le_of_ble_eq_true rfl, Nat.le_of_ble_eq_true rfl⟩ hl.1 rfl (Nat.le_of_ble_eq_true rfl) dX0_apply_223 ⟨Nat.le_of_ble_eq_true rfl, Nat.le_of_ble_eq_true rfl⟩ (fun r21 H locs hr21 hw => ?_)
      subst hr21
      have hw : Wd G A [] s.heap _ _ := hw.sub [] rfl rfl
      exact r_lret cx hr hlk () (congrArg (x_make 1) (by subst_vars; unfold x_ap45; rw [if_pos c9, if_neg c14])) hw (Nat.le_of_ble_eq_true rfl) (Nat.le_of_ble_eq_true rfl) dX0_apply_226

def x_ap42 (a : Int32) (d : Int32) : Int32 := (if (x_isNan (x_floatBits a)) = (0 : Int32) then (if (x_isNan (x_floatBits d)) = (0 : Int32) then ((x_mul (x_floatBits a) (x_floatBits d))) else (2143289344)) else (2143289344))
set_option maxHeartbeats 4000000 in
set_option maxRecDepth 100000 in
theorem f_ap42 (l : Launch) (G : Gt) (a : Int32) (d : Int32) : Mt l yX0_apply cX0_apply 8 (some .long) ({ frames := 4, cells := 0, slots := 0, locals := 99 } : Room) G [.int 42, .long (x_make 1 a), .long (x_make 1 d)] [] (qL G (fun (r : Int64) (w : Unit) => r = x_make 1 (x_ap42 a d)) (fun w => [])) := by
  refine Mt.of (own := RX0) (cc := cX0_apply) (by decide) rfl (Nat.le_of_ble_eq_true rfl) ?_
  intro p e s m below meth c A ls cx hr hlk hmn hA hl hw
  have hx := cx.1
  have hb := cx.2.1
  have hl : lv_has ls 8 [(0, .int 42), (1, .long (x_make 1 a)), (3, .long (x_make 1 d))] := hl
  refine lv_iload_n hx hb dX0_apply_0 rfl (lv_at hl 0 rfl) ?_
  refine lv_bipush (v := 37) hx hb dX0_apply_1 (by decide) ?_
  refine lv_icmp_ne (tgt := 22) hx hb dX0_apply_3 (by decide) (fun _ => ?_) (fun c9 => absurd c9 (by decide))
  refine lv_lload_n hx hb dX0_apply_22 rfl (lv_at hl 1 rfl) ?_
  refine r_callS0I (As := [.long (x_make 1 a)]) (rest := []) cx hw hA (f_kindF l G a) ml_X0_23 st_X0_kind in_X0 co_X0_kind hd_X0_kind rfl ⟨Nat.le_of_ble_eq_true rfl, Nat.le_of_ble_eq_true rfl⟩ hl.1 rfl (Nat.le_of_ble_eq_true rfl) dX0_apply_23 ⟨Nat.le_of_ble_eq_true rfl, Nat.le_of_ble_eq_true rfl⟩ (fun r2 H locs hr2 hw => ?_)
  subst hr2
  refine lv_if_ne (tgt := 53) hx hb dX0_apply_26 (by decide) (fun _ => ?_) (fun c9 => absurd c9 (by decide))
  refine lv_lload_n hx hb dX0_apply_53 rfl (lv_at hl 1 rfl) ?_
  refine r_callS0I (As := [.long (x_make 1 a)]) (rest := []) cx hw hA (f_floatBits l G a) ml_X0_33 st_X0_floatBits in_X0 co_X0_floatBits hd_X0_floatBits rfl ⟨Nat.le_of_ble_eq_true rfl, Nat.le_of_ble_eq_true rfl⟩ hl.1 rfl (Nat.le_of_ble_eq_true rfl) dX0_apply_54 ⟨Nat.le_of_ble_eq_true rfl, Nat.le_of_ble_eq_true rfl⟩ (fun r4 H locs hr4 hw => ?_)
  refine lv_istore (lv' := [(5, .int r4), (0, .int 42), (1, .long (x_make 1 a)), (3, .long (x_make 1 d))]) hx hb dX0_apply_57 hl (by decide) rfl (fun ls hl => ?_)
  refine lv_lload_n hx hb dX0_apply_59 rfl (lv_at hl 3 rfl) ?_
  refine r_callS0I (As := [.long (x_make 1 d)]) (rest := []) cx hw hA (f_floatBits l G d) ml_X0_33 st_X0_floatBits in_X0 co_X0_floatBits hd_X0_floatBits rfl ⟨Nat.le_of_ble_eq_true rfl, Nat.le_of_ble_eq_true rfl⟩ hl.1 rfl (Nat.le_of_ble_eq_true rfl) dX0_apply_60 ⟨Nat.le_of_ble_eq_true rfl, Nat.le_of_ble_eq_true rfl⟩ (fun r6 H locs hr6 hw => ?_)
  refine lv_istore (lv' := [(6, .int r6), (5, .int r4), (0, .int 42), (1, .long (x_make 1 a)), (3, .long (x_make 1 d))]) hx hb dX0_apply_63 hl (by decide) rfl (fun ls hl => ?_)
  refine lv_iload hx hb dX0_apply_65 (lv_at hl 1 rfl) ?_
  refine r_callS0I (As := [.int r4]) (rest := []) cx hw hA (f_isNan l G r4) ml_X0_36 st_X0_isNan in_X0 co_X0_isNan hd_X0_isNan rfl ⟨Nat.le_of_ble_eq_true rfl, Nat.le_of_ble_eq_true rfl⟩ hl.1 rfl (Nat.le_of_ble_eq_true rfl) dX0_apply_67 ⟨Nat.le_of_ble_eq_true rfl, Nat.le_of_ble_eq_true rfl⟩ (fun r8 H locs hr8 hw => ?_)
  refine lv_if_ne (tgt := 81) hx hb dX0_apply_70 (by decide) (fun c9 => ?_) (fun c9 => ?_)
  · refine lv_iconst (v := 1) hx hb dX0_apply_81 (by decide) ?_
    refine lv_goto (tgt := 86) hx hb dX0_apply_82 (by decide) ?_
    refine lv_istore (lv' := [(7, .int 1), (6, .int r6), (5, .int r4), (0, .int 42), (1, .long (x_make 1 a)), (3, .long (x_make 1 d))]) hx hb dX0_apply_86 hl (by decide) rfl (fun ls hl => ?_)
    refine lv_iload_n hx hb dX0_apply_88 rfl (lv_at hl 3 rfl) ?_
    refine lv_lookup (tgt := 227) hx hb dX0_apply_89 (by decide +kernel) rfl (by decide) ?_
    refine lv_iconst (v := 1) hx hb dX0_apply_227 (by decide) ?_
    refine lv_iload hx hb dX0_apply_228 (lv_at hl 0 rfl) ?_
    refine lv_if_eq (tgt := 238) hx hb dX0_apply_230 (by decide) (fun c9 => absurd c9 (by decide)) (fun _ => ?_)
    refine lv_ldc hx hb cx.2.2.2.1 (cx.2.2.2.2.1 _ cs_X0_47) dX0_apply_233 ?_
    refine lv_goto (tgt := 245) hx hb dX0_apply_235 (by decide) ?_
    refine r_callS0L (As := [.int 1, .int 2143289344]) (rest := []) cx hw hA (c_make l G 1 2143289344) ml_X0_19 st_X0_make in_X0 co_X0_make hd_X0_make rfl ⟨Nat.le_of_ble_eq_true rfl, Nat.le_of_ble_eq_true rfl⟩ hl.1 rfl (Nat.le_of_ble_eq_true rfl) dX0_apply_245 ⟨Nat.le_of_ble_eq_true rfl, Nat.le_of_ble_eq_true rfl⟩ (fun r11 H locs hr11 hw => ?_)
    subst hr11
    have hw : Wd G A [] s.heap _ _ := hw.sub [] rfl rfl
    exact r_lret cx hr hlk () (congrArg (x_make 1) (by subst_vars; unfold x_ap42; rw [if_neg c9])) hw (Nat.le_of_ble_eq_true rfl) (Nat.le_of_ble_eq_true rfl) dX0_apply_248
  · refine lv_iload hx hb dX0_apply_73 (lv_at hl 0 rfl) ?_
    refine r_callS0I (As := [.int r6]) (rest := []) cx hw hA (f_isNan l G r6) ml_X0_36 st_X0_isNan in_X0 co_X0_isNan hd_X0_isNan rfl ⟨Nat.le_of_ble_eq_true rfl, Nat.le_of_ble_eq_true rfl⟩ hl.1 rfl (Nat.le_of_ble_eq_true rfl) dX0_apply_75 ⟨Nat.le_of_ble_eq_true rfl, Nat.le_of_ble_eq_true rfl⟩ (fun r13 H locs hr13 hw => ?_)
    refine lv_if_eq (tgt := 85) hx hb dX0_apply_78 (by decide) (fun c14 => ?_) (fun c14 => ?_)
    · refine lv_iconst (v := 0) hx hb dX0_apply_85 (by decide) ?_
      refine lv_istore (lv' := [(7, .int 0), (6, .int r6), (5, .int r4), (0, .int 42), (1, .long (x_make 1 a)), (3, .long (x_make 1 d))]) hx hb dX0_apply_86 hl (by decide) rfl (fun ls hl => ?_)
      refine lv_iload_n hx hb dX0_apply_88 rfl (lv_at hl 3 rfl) ?_
      refine lv_lookup (tgt := 227) hx hb dX0_apply_89 (by decide +kernel) rfl (by decide) ?_
      refine lv_iconst (v := 1) hx hb dX0_apply_227 (by decide) ?_
      refine lv_iload hx hb dX0_apply_228 (lv_at hl 0 rfl) ?_
      refine lv_if_eq (tgt := 238) hx hb dX0_apply_230 (by decide) (fun _ => ?_) (fun c9 => absurd (by decide) c9)
      refine lv_iload hx hb dX0_apply_238 (lv_at hl 2 rfl) ?_
      refine lv_iload hx hb dX0_apply_240 (lv_at hl 1 rfl) ?_
      refine r_callS0I (As := [.int r4, .int r6]) (rest := [.int 1]) cx hw hA (f_mul l G r4 r6) ml_X0_52 st_X0_multiply in_X0 co_X0_multiply hd_X0_multiply rfl ⟨Nat.le_of_ble_eq_true rfl, Nat.le_of_ble_eq_true rfl⟩ hl.1 rfl (Nat.le_of_ble_eq_true rfl) dX0_apply_242 ⟨Nat.le_of_ble_eq_true rfl, Nat.le_of_ble_eq_true rfl⟩ (fun r16 H locs hr16 hw => ?_)
      refine r_callS0L (As := [.int 1, .int r16]) (rest := []) cx hw hA (c_make l G 1 r16) ml_X0_19 st_X0_make in_X0 co_X0_make hd_X0_make rfl ⟨Nat.le_of_ble_eq_true rfl, Nat.le_of_ble_eq_true rfl⟩ hl.1 rfl (Nat.le_of_ble_eq_true rfl) dX0_apply_245 ⟨Nat.le_of_ble_eq_true rfl, Nat.le_of_ble_eq_true rfl⟩ (fun r18 H locs hr18 hw => ?_)
      subst hr18
      have hw : Wd G A [] s.heap _ _ := hw.sub [] rfl rfl
      exact r_lret cx hr hlk () (congrArg (x_make 1) (by subst_vars; unfold x_ap42; rw [if_pos c9, if_pos c14])) hw (Nat.le_of_ble_eq_true rfl) (Nat.le_of_ble_eq_true rfl) dX0_apply_248
    · refine lv_iconst (v := 1) hx hb dX0_apply_81 (by decide) ?_
      refine lv_goto (tgt := 86) hx hb dX0_apply_82 (by decide) ?_
      refine lv_istore (lv' := [(7, .int 1), (6, .int r6), (5, .int r4), (0, .int 42), (1, .long (x_make 1 a)), (3, .long (x_make 1 d))]) hx hb dX0_apply_86 hl (by decide) rfl (fun ls hl => ?_)
      refine lv_iload_n hx hb dX0_apply_88 rfl (lv_at hl 3 rfl) ?_
      refine lv_lookup (tgt := 227) hx hb dX0_apply_89 (by decide +kernel) rfl (by decide) ?_
      refine lv_iconst (v := 1) hx hb dX0_apply_227 (by decide) ?_
      refine lv_iload hx hb dX0_apply_228 (lv_at hl 0 rfl) ?_
      refine lv_if_eq (tgt := 238) hx hb dX0_apply_230 (by decide) (fun c9 => absurd c9 (by decide)) (fun _ => ?_)
      refine lv_ldc hx hb cx.2.2.2.1 (cx.2.2.2.2.1 _ cs_X0_47) dX0_apply_233 ?_
      refine lv_goto (tgt := 245) hx hb dX0_apply_235 (by decide) ?_
      refine r_callS0L (As := [.int 1, .int 2143289344]) (rest := []) cx hw hA (c_make l G 1 2143289344) ml_X0_19 st_X0_make in_X0 co_X0_make hd_X0_make rfl ⟨Nat.le_of_ble_eq_true rfl, Nat.le_of_ble_eq_true rfl⟩ hl.1 rfl (Nat.le_of_ble_eq_true rfl) dX0_apply_245 ⟨Nat.le_of_ble_eq_true rfl, Nat.le_of_ble_eq_true rfl⟩ (fun r20 H locs hr20 hw => ?_)
      subst hr20
      have hw : Wd G A [] s.heap _ _ := hw.sub [] rfl rfl
      exact r_lret cx hr hlk () (congrArg (x_make 1) (by subst_vars; unfold x_ap42; rw [if_pos c9, if_neg c14])) hw (Nat.le_of_ble_eq_true rfl) (Nat.le_of_ble_eq_true rfl) dX0_apply_248

def x_ap47 (a : Int32) (d : Int32) : Int32 := (if (x_isNan (x_floatBits a)) = (0 : Int32) then (if (x_isNan (x_floatBits d)) = (0 : Int32) then ((x_div (x_floatBits a) (x_floatBits d))) else (2143289344)) else (2143289344))
set_option maxHeartbeats 4000000 in
set_option maxRecDepth 100000 in
theorem f_ap47 (l : Launch) (G : Gt) (a : Int32) (d : Int32) : Mt l yX0_apply cX0_apply 8 (some .long) ({ frames := 4, cells := 0, slots := 0, locals := 108 } : Room) G [.int 47, .long (x_make 1 a), .long (x_make 1 d)] [] (qL G (fun (r : Int64) (w : Unit) => r = x_make 1 (x_ap47 a d)) (fun w => [])) := by
  refine Mt.of (own := RX0) (cc := cX0_apply) (by decide) rfl (Nat.le_of_ble_eq_true rfl) ?_
  intro p e s m below meth c A ls cx hr hlk hmn hA hl hw
  have hx := cx.1
  have hb := cx.2.1
  have hl : lv_has ls 8 [(0, .int 47), (1, .long (x_make 1 a)), (3, .long (x_make 1 d))] := hl
  refine lv_iload_n hx hb dX0_apply_0 rfl (lv_at hl 0 rfl) ?_
  refine lv_bipush (v := 37) hx hb dX0_apply_1 (by decide) ?_
  refine lv_icmp_ne (tgt := 22) hx hb dX0_apply_3 (by decide) (fun _ => ?_) (fun c9 => absurd c9 (by decide))
  refine lv_lload_n hx hb dX0_apply_22 rfl (lv_at hl 1 rfl) ?_
  refine r_callS0I (As := [.long (x_make 1 a)]) (rest := []) cx hw hA (f_kindF l G a) ml_X0_23 st_X0_kind in_X0 co_X0_kind hd_X0_kind rfl ⟨Nat.le_of_ble_eq_true rfl, Nat.le_of_ble_eq_true rfl⟩ hl.1 rfl (Nat.le_of_ble_eq_true rfl) dX0_apply_23 ⟨Nat.le_of_ble_eq_true rfl, Nat.le_of_ble_eq_true rfl⟩ (fun r2 H locs hr2 hw => ?_)
  subst hr2
  refine lv_if_ne (tgt := 53) hx hb dX0_apply_26 (by decide) (fun _ => ?_) (fun c9 => absurd c9 (by decide))
  refine lv_lload_n hx hb dX0_apply_53 rfl (lv_at hl 1 rfl) ?_
  refine r_callS0I (As := [.long (x_make 1 a)]) (rest := []) cx hw hA (f_floatBits l G a) ml_X0_33 st_X0_floatBits in_X0 co_X0_floatBits hd_X0_floatBits rfl ⟨Nat.le_of_ble_eq_true rfl, Nat.le_of_ble_eq_true rfl⟩ hl.1 rfl (Nat.le_of_ble_eq_true rfl) dX0_apply_54 ⟨Nat.le_of_ble_eq_true rfl, Nat.le_of_ble_eq_true rfl⟩ (fun r4 H locs hr4 hw => ?_)
  refine lv_istore (lv' := [(5, .int r4), (0, .int 47), (1, .long (x_make 1 a)), (3, .long (x_make 1 d))]) hx hb dX0_apply_57 hl (by decide) rfl (fun ls hl => ?_)
  refine lv_lload_n hx hb dX0_apply_59 rfl (lv_at hl 3 rfl) ?_
  refine r_callS0I (As := [.long (x_make 1 d)]) (rest := []) cx hw hA (f_floatBits l G d) ml_X0_33 st_X0_floatBits in_X0 co_X0_floatBits hd_X0_floatBits rfl ⟨Nat.le_of_ble_eq_true rfl, Nat.le_of_ble_eq_true rfl⟩ hl.1 rfl (Nat.le_of_ble_eq_true rfl) dX0_apply_60 ⟨Nat.le_of_ble_eq_true rfl, Nat.le_of_ble_eq_true rfl⟩ (fun r6 H locs hr6 hw => ?_)
  refine lv_istore (lv' := [(6, .int r6), (5, .int r4), (0, .int 47), (1, .long (x_make 1 a)), (3, .long (x_make 1 d))]) hx hb dX0_apply_63 hl (by decide) rfl (fun ls hl => ?_)
  refine lv_iload hx hb dX0_apply_65 (lv_at hl 1 rfl) ?_
  refine r_callS0I (As := [.int r4]) (rest := []) cx hw hA (f_isNan l G r4) ml_X0_36 st_X0_isNan in_X0 co_X0_isNan hd_X0_isNan rfl ⟨Nat.le_of_ble_eq_true rfl, Nat.le_of_ble_eq_true rfl⟩ hl.1 rfl (Nat.le_of_ble_eq_true rfl) dX0_apply_67 ⟨Nat.le_of_ble_eq_true rfl, Nat.le_of_ble_eq_true rfl⟩ (fun r8 H locs hr8 hw => ?_)
  refine lv_if_ne (tgt := 81) hx hb dX0_apply_70 (by decide) (fun c9 => ?_) (fun c9 => ?_)
  · refine lv_iconst (v := 1) hx hb dX0_apply_81 (by decide) ?_
    refine lv_goto (tgt := 86) hx hb dX0_apply_82 (by decide) ?_
    refine lv_istore (lv' := [(7, .int 1), (6, .int r6), (5, .int r4), (0, .int 47), (1, .long (x_make 1 a)), (3, .long (x_make 1 d))]) hx hb dX0_apply_86 hl (by decide) rfl (fun ls hl => ?_)
    refine lv_iload_n hx hb dX0_apply_88 rfl (lv_at hl 3 rfl) ?_
    refine lv_lookup (tgt := 249) hx hb dX0_apply_89 (by decide +kernel) rfl (by decide) ?_
    refine lv_iconst (v := 1) hx hb dX0_apply_249 (by decide) ?_
    refine lv_iload hx hb dX0_apply_250 (lv_at hl 0 rfl) ?_
    refine lv_if_eq (tgt := 260) hx hb dX0_apply_252 (by decide) (fun c9 => absurd c9 (by decide)) (fun _ => ?_)
    refine lv_ldc hx hb cx.2.2.2.1 (cx.2.2.2.2.1 _ cs_X0_47) dX0_apply_255 ?_
    refine lv_goto (tgt := 267) hx hb dX0_apply_257 (by decide) ?_
    refine r_callS0L (As := [.int 1, .int 2143289344]) (rest := []) cx hw hA (c_make l G 1 2143289344) ml_X0_19 st_X0_make in_X0 co_X0_make hd_X0_make rfl ⟨Nat.le_of_ble_eq_true rfl, Nat.le_of_ble_eq_true rfl⟩ hl.1 rfl (Nat.le_of_ble_eq_true rfl) dX0_apply_267 ⟨Nat.le_of_ble_eq_true rfl, Nat.le_of_ble_eq_true rfl⟩ (fun r11 H locs hr11 hw => ?_)
    subst hr11
    have hw : Wd G A [] s.heap _ _ := hw.sub [] rfl rfl
    exact r_lret cx hr hlk () (congrArg (x_make 1) (by subst_vars; unfold x_ap47; rw [if_neg c9])) hw (Nat.le_of_ble_eq_true rfl) (Nat.le_of_ble_eq_true rfl) dX0_apply_270
  · refine lv_iload hx hb dX0_apply_73 (lv_at hl 0 rfl) ?_
    refine r_callS0I (As := [.int r6]) (rest := []) cx hw hA (f_isNan l G r6) ml_X0_36 st_X0_isNan in_X0 co_X0_isNan hd_X0_isNan rfl ⟨Nat.le_of_ble_eq_true rfl, Nat.le_of_ble_eq_true rfl⟩ hl.1 rfl (Nat.le_of_ble_eq_true rfl) dX0_apply_75 ⟨Nat.le_of_ble_eq_true rfl, Nat.le_of_ble_eq_true rfl⟩ (fun r13 H locs hr13 hw => ?_)
    refine lv_if_eq (tgt := 85) hx hb dX0_apply_78 (by decide) (fun c14 => ?_) (fun c14 => ?_)
    · refine lv_iconst (v := 0) hx hb dX0_apply_85 (by decide) ?_
      refine lv_istore (lv' := [(7, .int 0), (6, .int r6), (5, .int r4), (0, .int 47), (1, .long (x_make 1 a)), (3, .long (x_make 1 d))]) hx hb dX0_apply_86 hl (by decide) rfl (fun ls hl => ?_)
      refine lv_iload_n hx hb dX0_apply_88 rfl (lv_at hl 3 rfl) ?_
      refine lv_lookup (tgt := 249) hx hb dX0_apply_89 (by decide +kernel) rfl (by decide) ?_
      refine lv_iconst (v := 1) hx hb dX0_apply_249 (by decide) ?_
      refine lv_iload hx hb dX0_apply_250 (lv_at hl 0 rfl) ?_
      refine lv_if_eq (tgt := 260) hx hb dX0_apply_252 (by decide) (fun _ => ?_) (fun c9 => absurd (by decide) c9)
      refine lv_iload hx hb dX0_apply_260 (lv_at hl 2 rfl) ?_
      refine lv_iload hx hb dX0_apply_262 (lv_at hl 1 rfl) ?_
      refine r_callS0I (As := [.int r4, .int r6]) (rest := [.int 1]) cx hw hA (f_div l G r4 r6) ml_X0_55 st_X0_divide in_X0 co_X0_divide hd_X0_divide rfl ⟨Nat.le_of_ble_eq_true rfl, Nat.le_of_ble_eq_true rfl⟩ hl.1 rfl (Nat.le_of_ble_eq_true rfl) dX0_apply_264 ⟨Nat.le_of_ble_eq_true rfl, Nat.le_of_ble_eq_true rfl⟩ (fun r16 H locs hr16 hw => ?_)
      refine r_callS0L (As := [.int 1, .int r16]) (rest := []) cx hw hA (c_make l G 1 r16) ml_X0_19 st_X0_make in_X0 co_X0_make hd_X0_make rfl ⟨Nat.le_of_ble_eq_true rfl, Nat.le_of_ble_eq_true rfl⟩ hl.1 rfl (Nat.le_of_ble_eq_true rfl) dX0_apply_267 ⟨Nat.le_of_ble_eq_true rfl, Nat.le_of_ble_eq_true rfl⟩ (fun r18 H locs hr18 hw => ?_)
      subst hr18
      have hw : Wd G A [] s.heap _ _ := hw.sub [] rfl rfl
      exact r_lret cx hr hlk () (congrArg (x_make 1) (by subst_vars; unfold x_ap47; rw [if_pos c9, if_pos c14])) hw (Nat.le_of_ble_eq_true rfl) (Nat.le_of_ble_eq_true rfl) dX0_apply_270
    · refine lv_iconst (v := 1) hx hb dX0_apply_81 (by decide) ?_
      refine lv_goto (tgt := 86) hx hb dX0_apply_82 (by decide) ?_
      refine lv_istore (lv' := [(7, .int 1), (6, .int r6), (5, .int r4), (0, .int 47), (1, .long (x_make 1 a)), (3, .long (x_make 1 d))]) hx hb dX0_apply_86 hl (by decide) rfl (fun ls hl => ?_)
      refine lv_iload_n hx hb dX0_apply_88 rfl (lv_at hl 3 rfl) ?_
      refine lv_lookup (tgt := 249) hx hb dX0_apply_89 (by decide +kernel) rfl (by decide) ?_
      refine lv_iconst (v := 1) hx hb dX0_apply_249 (by decide) ?_
      refine lv_iload hx hb dX0_apply_250 (lv_at hl 0 rfl) ?_
      refine lv_if_eq (tgt := 260) hx hb dX0_apply_252 (by decide) (fun c9 => absurd c9 (by decide)) (fun _ => ?_)
      refine lv_ldc hx hb cx.2.2.2.1 (cx.2.2.2.2.1 _ cs_X0_47) dX0_apply_255 ?_
      refine lv_goto (tgt := 267) hx hb dX0_apply_257 (by decide) ?_
      refine r_callS0L (As := [.int 1, .int 2143289344]) (rest := []) cx hw hA (c_make l G 1 2143289344) ml_X0_19 st_X0_make in_X0 co_X0_make hd_X0_make rfl ⟨Nat.le_of_ble_eq_true rfl, Nat.le_of_ble_eq_true rfl⟩ hl.1 rfl (Nat.le_of_ble_eq_true rfl) dX0_apply_267 ⟨Nat.le_of_ble_eq_true rfl, Nat.le_of_ble_eq_true rfl⟩ (fun r20 H locs hr20 hw => ?_)
      subst hr20
      have hw : Wd G A [] s.heap _ _ := hw.sub [] rfl rfl
      exact r_lret cx hr hlk () (congrArg (x_make 1) (by subst_vars; unfold x_ap47; rw [if_pos c9, if_neg c14])) hw (Nat.le_of_ble_eq_true rfl) (Nat.le_of_ble_eq_true rfl) dX0_apply_270

def x_ap37 (a : Int32) (d : Int32) : Int32 := ((x_rest (x_cut a) (x_cut d)))
set_option maxHeartbeats 4000000 in
set_option maxRecDepth 100000 in
theorem f_ap37 (l : Launch) (G : Gt) (a : Int32) (d : Int32) : Mt l yX0_apply cX0_apply 8 (some .long) ({ frames := 2, cells := 0, slots := 0, locals := 45 } : Room) G [.int 37, .long (x_make 1 a), .long (x_make 1 d)] [] (qL G (fun (r : Int64) (w : Unit) => r = x_make 0 (x_ap37 a d)) (fun w => [])) := by
  refine Mt.of (own := RX0) (cc := cX0_apply) (by decide) rfl (Nat.le_of_ble_eq_true rfl) ?_
  intro p e s m below meth c A ls cx hr hlk hmn hA hl hw
  have hx := cx.1
  have hb := cx.2.1
  have hl : lv_has ls 8 [(0, .int 37), (1, .long (x_make 1 a)), (3, .long (x_make 1 d))] := hl
  refine lv_iload_n hx hb dX0_apply_0 rfl (lv_at hl 0 rfl) ?_
  refine lv_bipush (v := 37) hx hb dX0_apply_1 (by decide) ?_
  refine lv_icmp_ne (tgt := 22) hx hb dX0_apply_3 (by decide) (fun c9 => absurd (by decide) c9) (fun _ => ?_)
  refine lv_iconst (v := 0) hx hb dX0_apply_6 (by decide) ?_
  refine lv_lload_n hx hb dX0_apply_7 rfl (lv_at hl 1 rfl) ?_
  refine r_callS0I (As := [.long (x_make 1 a)]) (rest := [.int 0]) cx hw hA (f_cut l G a) ml_X0_11 st_X0_cut in_X0 co_X0_cut hd_X0_cut rfl ⟨Nat.le_of_ble_eq_true rfl, Nat.le_of_ble_eq_true rfl⟩ hl.1 rfl (Nat.le_of_ble_eq_true rfl) dX0_apply_8 ⟨Nat.le_of_ble_eq_true rfl, Nat.le_of_ble_eq_true rfl⟩ (fun r2 H locs hr2 hw => ?_)
  refine lv_lload_n hx hb dX0_apply_11 rfl (lv_at hl 2 rfl) ?_
  refine r_callS0I (As := [.long (x_make 1 d)]) (rest := [.int r2, .int 0]) cx hw hA (f_cut l G d) ml_X0_11 st_X0_cut in_X0 co_X0_cut hd_X0_cut rfl ⟨Nat.le_of_ble_eq_true rfl, Nat.le_of_ble_eq_true rfl⟩ hl.1 rfl (Nat.le_of_ble_eq_true rfl) dX0_apply_12 ⟨Nat.le_of_ble_eq_true rfl, Nat.le_of_ble_eq_true rfl⟩ (fun r4 H locs hr4 hw => ?_)
  refine r_callS0I (As := [.int r2, .int r4]) (rest := [.int 0]) cx hw hA (f_rest l G r2 r4) ml_X0_15 st_X0_rest in_X0 co_X0_rest hd_X0_rest rfl ⟨Nat.le_of_ble_eq_true rfl, Nat.le_of_ble_eq_true rfl⟩ hl.1 rfl (Nat.le_of_ble_eq_true rfl) dX0_apply_15 ⟨Nat.le_of_ble_eq_true rfl, Nat.le_of_ble_eq_true rfl⟩ (fun r6 H locs hr6 hw => ?_)
  refine r_callS0L (As := [.int 0, .int r6]) (rest := []) cx hw hA (c_make l G 0 r6) ml_X0_19 st_X0_make in_X0 co_X0_make hd_X0_make rfl ⟨Nat.le_of_ble_eq_true rfl, Nat.le_of_ble_eq_true rfl⟩ hl.1 rfl (Nat.le_of_ble_eq_true rfl) dX0_apply_18 ⟨Nat.le_of_ble_eq_true rfl, Nat.le_of_ble_eq_true rfl⟩ (fun r8 H locs hr8 hw => ?_)
  subst hr8
  have hw : Wd G A [] s.heap _ _ := hw.sub [] rfl rfl
  exact r_lret cx hr hlk () (congrArg (x_make 0) (by subst_vars; unfold x_ap37; rfl)) hw (Nat.le_of_ble_eq_true rfl) (Nat.le_of_ble_eq_true rfl) dX0_apply_21

def x_ap60 (a : Int32) (d : Int32) : Int32 := (if (x_isNan (x_floatBits a)) = (0 : Int32) then (if (x_isNan (x_floatBits d)) = (0 : Int32) then (if (x_isBelow (x_floatBits a) (x_floatBits d)) = (0 : Int32) then (0) else (1)) else (if (x_isBelow (x_floatBits a) (x_floatBits d)) = (0 : Int32) then (0) else (1))) else (if (x_isBelow (x_floatBits a) (x_floatBits d)) = (0 : Int32) then (0) else (1)))
set_option maxHeartbeats 4000000 in
set_option maxRecDepth 100000 in
theorem f_ap60 (l : Launch) (G : Gt) (a : Int32) (d : Int32) : Mt l yX0_apply cX0_apply 8 (some .long) ({ frames := 2, cells := 0, slots := 0, locals := 45 } : Room) G [.int 60, .long (x_make 1 a), .long (x_make 1 d)] [] (qL G (fun (r : Int64) (w : Unit) => r = x_make 0 (x_ap60 a d)) (fun w => [])) := by
  refine Mt.of (own := RX0) (cc := cX0_apply) (by decide) rfl (Nat.le_of_ble_eq_true rfl) ?_
  intro p e s m below meth c A ls cx hr hlk hmn hA hl hw
  have hx := cx.1
  have hb := cx.2.1
  have hl : lv_has ls 8 [(0, .int 60), (1, .long (x_make 1 a)), (3, .long (x_make 1 d))] := hl
  refine lv_iload_n hx hb dX0_apply_0 rfl (lv_at hl 0 rfl) ?_
  refine lv_bipush (v := 37) hx hb dX0_apply_1 (by decide) ?_
  refine lv_icmp_ne (tgt := 22) hx hb dX0_apply_3 (by decide) (fun _ => ?_) (fun c9 => absurd c9 (by decide))
  refine lv_lload_n hx hb dX0_apply_22 rfl (lv_at hl 1 rfl) ?_
  refine r_callS0I (As := [.long (x_make 1 a)]) (rest := []) cx hw hA (f_kindF l G a) ml_X0_23 st_X0_kind in_X0 co_X0_kind hd_X0_kind rfl ⟨Nat.le_of_ble_eq_true rfl, Nat.le_of_ble_eq_true rfl⟩ hl.1 rfl (Nat.le_of_ble_eq_true rfl) dX0_apply_23 ⟨Nat.le_of_ble_eq_true rfl, Nat.le_of_ble_eq_true rfl⟩ (fun r2 H locs hr2 hw => ?_)
  subst hr2
  refine lv_if_ne (tgt := 53) hx hb dX0_apply_26 (by decide) (fun _ => ?_) (fun c9 => absurd c9 (by decide))
  refine lv_lload_n hx hb dX0_apply_53 rfl (lv_at hl 1 rfl) ?_
  refine r_callS0I (As := [.long (x_make 1 a)]) (rest := []) cx hw hA (f_floatBits l G a) ml_X0_33 st_X0_floatBits in_X0 co_X0_floatBits hd_X0_floatBits rfl ⟨Nat.le_of_ble_eq_true rfl, Nat.le_of_ble_eq_true rfl⟩ hl.1 rfl (Nat.le_of_ble_eq_true rfl) dX0_apply_54 ⟨Nat.le_of_ble_eq_true rfl, Nat.le_of_ble_eq_true rfl⟩ (fun r4 H locs hr4 hw => ?_)
  refine lv_istore (lv' := [(5, .int r4), (0, .int 60), (1, .long (x_make 1 a)), (3, .long (x_make 1 d))]) hx hb dX0_apply_57 hl (by decide) rfl (fun ls hl => ?_)
  refine lv_lload_n hx hb dX0_apply_59 rfl (lv_at hl 3 rfl) ?_
  refine r_callS0I (As := [.long (x_make 1 d)]) (rest := []) cx hw hA (f_floatBits l G d) ml_X0_33 st_X0_floatBits in_X0 co_X0_floatBits hd_X0_floatBits rfl ⟨Nat.le_of_ble_eq_true rfl, Nat.le_of_ble_eq_true rfl⟩ hl.1 rfl (Nat.le_of_ble_eq_true rfl) dX0_apply_60 ⟨Nat.le_of_ble_eq_true rfl, Nat.le_of_ble_eq_true rfl⟩ (fun r6 H locs hr6 hw => ?_)
  refine lv_istore (lv' := [(6, .int r6), (5, .int r4), (0, .int 60), (1, .long (x_make 1 a)), (3, .long (x_make 1 d))]) hx hb dX0_apply_63 hl (by decide) rfl (fun ls hl => ?_)
  refine lv_iload hx hb dX0_apply_65 (lv_at hl 1 rfl) ?_
  refine r_callS0I (As := [.int r4]) (rest := []) cx hw hA (f_isNan l G r4) ml_X0_36 st_X0_isNan in_X0 co_X0_isNan hd_X0_isNan rfl ⟨Nat.le_of_ble_eq_true rfl, Nat.le_of_ble_eq_true rfl⟩ hl.1 rfl (Nat.le_of_ble_eq_true rfl) dX0_apply_67 ⟨Nat.le_of_ble_eq_true rfl, Nat.le_of_ble_eq_true rfl⟩ (fun r8 H locs hr8 hw => ?_)
  refine lv_if_ne (tgt := 81) hx hb dX0_apply_70 (by decide) (fun c9 => ?_) (fun c9 => ?_)
  · refine lv_iconst (v := 1) hx hb dX0_apply_81 (by decide) ?_
    refine lv_goto (tgt := 86) hx hb dX0_apply_82 (by decide) ?_
    refine lv_istore (lv' := [(7, .int 1), (6, .int r6), (5, .int r4), (0, .int 60), (1, .long (x_make 1 a)), (3, .long (x_make 1 d))]) hx hb dX0_apply_86 hl (by decide) rfl (fun ls hl => ?_)
    refine lv_iload_n hx hb dX0_apply_88 rfl (lv_at hl 3 rfl) ?_
    refine lv_lookup (tgt := 140) hx hb dX0_apply_89 (by decide +kernel) rfl (by decide) ?_
    refine lv_iconst (v := 0) hx hb dX0_apply_140 (by decide) ?_
    refine lv_iload hx hb dX0_apply_141 (lv_at hl 2 rfl) ?_
    refine lv_iload hx hb dX0_apply_143 (lv_at hl 1 rfl) ?_
    refine r_callS0I (As := [.int r4, .int r6]) (rest := [.int 0]) cx hw hA (f_isBelow l G r4 r6) ml_X0_40 st_X0_isBelow in_X0 co_X0_isBelow hd_X0_isBelow rfl ⟨Nat.le_of_ble_eq_true rfl, Nat.le_of_ble_eq_true rfl⟩ hl.1 rfl (Nat.le_of_ble_eq_true rfl) dX0_apply_145 ⟨Nat.le_of_ble_eq_true rfl, Nat.le_of_ble_eq_true rfl⟩ (fun r11 H locs hr11 hw => ?_)
    refine lv_if_eq (tgt := 155) hx hb dX0_apply_148 (by decide) (fun c12 => ?_) (fun c12 => ?_)
    · refine lv_iconst (v := 0) hx hb dX0_apply_155 (by decide) ?_
      refine r_callS0L (As := [.int 0, .int 0]) (rest := []) cx hw hA (c_make l G 0 0) ml_X0_19 st_X0_make in_X0 co_X0_make hd_X0_make rfl ⟨Nat.le_of_ble_eq_true rfl, Nat.le_of_ble_eq_true rfl⟩ hl.1 rfl (Nat.le_of_ble_eq_true rfl) dX0_apply_156 ⟨Nat.le_of_ble_eq_true rfl, Nat.le_of_ble_eq_true rfl⟩ (fun r14 H locs hr14 hw => ?_)
      subst hr14
      have hw : Wd G A [] s.heap _ _ := hw.sub [] rfl rfl
      exact r_lret cx hr hlk () (congrArg (x_make 0) (by subst_vars; unfold x_ap60; rw [if_neg c9, if_pos c12])) hw (Nat.le_of_ble_eq_true rfl) (Nat.le_of_ble_eq_true rfl) dX0_apply_159
    · refine lv_iconst (v := 1) hx hb dX0_apply_151 (by decide) ?_
      refine lv_goto (tgt := 156) hx hb dX0_apply_152 (by decide) ?_
      refine r_callS0L (As := [.int 0, .int 1]) (rest := []) cx hw hA (c_make l G 0 1) ml_X0_19 st_X0_make in_X0 co_X0_make hd_X0_make rfl ⟨Nat.le_of_ble_eq_true rfl, Nat.le_of_ble_eq_true rfl⟩ hl.1 rfl (Nat.le_of_ble_eq_true rfl) dX0_apply_156 ⟨Nat.le_of_ble_eq_true rfl, Nat.le_of_ble_eq_true rfl⟩ (fun r16 H locs hr16 hw => ?_)
      subst hr16
      have hw : Wd G A [] s.heap _ _ := hw.sub [] rfl rfl
      exact r_lret cx hr hlk () (congrArg (x_make 0) (by subst_vars; unfold x_ap60; rw [if_neg c9, if_neg c12])) hw (Nat.le_of_ble_eq_true rfl) (Nat.le_of_ble_eq_true rfl) dX0_apply_159
  · refine lv_iload hx hb dX0_apply_73 (lv_at hl 0 rfl) ?_
    refine r_callS0I (As := [.int r6]) (rest := []) cx hw hA (f_isNan l G r6) ml_X0_36 st_X0_isNan in_X0 co_X0_isNan hd_X0_isNan rfl ⟨Nat.le_of_ble_eq_true rfl, Nat.le_of_ble_eq_true rfl⟩ hl.1 rfl (Nat.le_of_ble_eq_true rfl) dX0_apply_75 ⟨Nat.le_of_ble_eq_true rfl, Nat.le_of_ble_eq_true rfl⟩ (fun r18 H locs hr18 hw => ?_)
    refine lv_if_eq (tgt := 85) hx hb dX0_apply_78 (by decide) (fun c19 => ?_) (fun c19 => ?_)
    · refine lv_iconst (v := 0) hx hb dX0_apply_85 (by decide) ?_
      refine lv_istore (lv' := [(7, .int 0), (6, .int r6), (5, .int r4), (0, .int 60), (1, .long (x_make 1 a)), (3, .long (x_make 1 d))]) hx hb dX0_apply_86 hl (by decide) rfl (fun ls hl => ?_)
      refine lv_iload_n hx hb dX0_apply_88 rfl (lv_at hl 3 rfl) ?_
      refine lv_lookup (tgt := 140) hx hb dX0_apply_89 (by decide +kernel) rfl (by decide) ?_
      refine lv_iconst (v := 0) hx hb dX0_apply_140 (by decide) ?_
      refine lv_iload hx hb dX0_apply_141 (lv_at hl 2 rfl) ?_
      refine lv_iload hx hb dX0_apply_143 (lv_at hl 1 rfl) ?_
      refine r_callS0I (As := [.int r4, .int r6]) (rest := [.int 0]) cx hw hA (f_isBelow l G r4 r6) ml_X0_40 st_X0_isBelow in_X0 co_X0_isBelow hd_X0_isBelow rfl ⟨Nat.le_of_ble_eq_true rfl, Nat.le_of_ble_eq_true rfl⟩ hl.1 rfl (Nat.le_of_ble_eq_true rfl) dX0_apply_145 ⟨Nat.le_of_ble_eq_true rfl, Nat.le_of_ble_eq_true rfl⟩ (fun r21 H locs hr21 hw => ?_)
      refine lv_if_eq (tgt := 155) hx hb dX0_apply_148 (by decide) (fun c22 => ?_) (fun c22 => ?_)
      · refine lv_iconst (v := 0) hx hb dX0_apply_155 (by decide) ?_
        refine r_callS0L (As := [.int 0, .int 0]) (rest := []) cx hw hA (c_make l G 0 0) ml_X0_19 st_X0_make in_X0 co_X0_make hd_X0_make rfl ⟨Nat.le_of_ble_eq_true rfl, Nat.le_of_ble_eq_true rfl⟩ hl.1 rfl (Nat.le_of_ble_eq_true rfl) dX0_apply_156 ⟨Nat.le_of_ble_eq_true rfl, Nat.le_of_ble_eq_true rfl⟩ (fun r24 H locs hr24 hw => ?_)
        subst hr24
        have hw : Wd G A [] s.heap _ _ := hw.sub [] rfl rfl
        exact r_lret cx hr hlk () (congrArg (x_make 0) (by subst_vars; unfold x_ap60; rw [if_pos c9, if_pos c19, if_pos c22])) hw (Nat.le_of_ble_eq_true rfl) (Nat.le_of_ble_eq_true rfl) dX0_apply_159
      · refine lv_iconst (v := 1) hx hb dX0_apply_151 (by decide) ?_
        refine lv_goto (tgt := 156) hx hb dX0_apply_152 (by decide) ?_
        refine r_callS0L (As := [.int 0, .int 1]) (rest := []) cx hw hA (c_make l G 0 1) ml_X0_19 st_X0_make in_X0 co_X0_make hd_X0_make rfl ⟨Nat.le_of_ble_eq_true rfl, Nat.le_of_ble_eq_true rfl⟩ hl.1 rfl (Nat.le_of_ble_eq_true rfl) dX0_apply_156 ⟨Nat.le_of_ble_eq_true rfl, Nat.le_of_ble_eq_true rfl⟩ (fun r26 H locs hr26 hw => ?_)
        subst hr26
        have hw : Wd G A [] s.heap _ _ := hw.sub [] rfl rfl
        exact r_lret cx hr hlk () (congrArg (x_make 0) (by subst_vars; unfold x_ap60; rw [if_pos c9, if_pos c19, if_neg c22])) hw (Nat.le_of_ble_eq_true rfl) (Nat.le_of_ble_eq_true rfl) dX0_apply_159
    · refine lv_iconst (v := 1) hx hb dX0_apply_81 (by decide) ?_
      refine lv_goto (tgt := 86) hx hb dX0_apply_82 (by decide) ?_
      refine lv_istore (lv' := [(7, .int 1), (6, .int r6), (5, .int r4), (0, .int 60), (1, .long (x_make 1 a)), (3, .long (x_make 1 d))]) hx hb dX0_apply_86 hl (by decide) rfl (fun ls hl => ?_)
      refine lv_iload_n hx hb dX0_apply_88 rfl (lv_at hl 3 rfl) ?_
      refine lv_lookup (tgt := 140) hx hb dX0_apply_89 (by decide +kernel) rfl (by decide) ?_
      refine lv_iconst (v := 0) hx hb dX0_apply_140 (by decide) ?_
      refine lv_iload hx hb dX0_apply_141 (lv_at hl 2 rfl) ?_
      refine lv_iload hx hb dX0_apply_143 (lv_at hl 1 rfl) ?_
      refine r_callS0I (As := [.int r4, .int r6]) (rest := [.int 0]) cx hw hA (f_isBelow l G r4 r6) ml_X0_40 st_X0_isBelow in_X0 co_X0_isBelow hd_X0_isBelow rfl ⟨Nat.le_of_ble_eq_true rfl, Nat.le_of_ble_eq_true rfl⟩ hl.1 rfl (Nat.le_of_ble_eq_true rfl) dX0_apply_145 ⟨Nat.le_of_ble_eq_true rfl, Nat.le_of_ble_eq_true rfl⟩ (fun r28 H locs hr28 hw => ?_)
      refine lv_if_eq (tgt := 155) hx hb dX0_apply_148 (by decide) (fun c29 => ?_) (fun c29 => ?_)
      · refine lv_iconst (v := 0) hx hb dX0_apply_155 (by decide) ?_
        refine r_callS0L (As := [.int 0, .int 0]) (rest := []) cx hw hA (c_make l G 0 0) ml_X0_19 st_X0_make in_X0 co_X0_make hd_X0_make rfl ⟨Nat.le_of_ble_eq_true rfl, Nat.le_of_ble_eq_true rfl⟩ hl.1 rfl (Nat.le_of_ble_eq_true rfl) dX0_apply_156 ⟨Nat.le_of_ble_eq_true rfl, Nat.le_of_ble_eq_true rfl⟩ (fun r31 H locs hr31 hw => ?_)
        subst hr31
        have hw : Wd G A [] s.heap _ _ := hw.sub [] rfl rfl
        exact r_lret cx hr hlk () (congrArg (x_make 0) (by subst_vars; unfold x_ap60; rw [if_pos c9, if_neg c19, if_pos c29])) hw (Nat.le_of_ble_eq_true rfl) (Nat.le_of_ble_eq_true rfl) dX0_apply_159
      · refine lv_iconst (v := 1) hx hb dX0_apply_151 (by decide) ?_
        refine lv_goto (tgt := 156) hx hb dX0_apply_152 (by decide) ?_
        refine r_callS0L (As := [.int 0, .int 1]) (rest := []) cx hw hA (c_make l G 0 1) ml_X0_19 st_X0_make in_X0 co_X0_make hd_X0_make rfl ⟨Nat.le_of_ble_eq_true rfl, Nat.le_of_ble_eq_true rfl⟩ hl.1 rfl (Nat.le_of_ble_eq_true rfl) dX0_apply_156 ⟨Nat.le_of_ble_eq_true rfl, Nat.le_of_ble_eq_true rfl⟩ (fun r33 H locs hr33 hw => ?_)
        subst hr33
        have hw : Wd G A [] s.heap _ _ := hw.sub [] rfl rfl
        exact r_lret cx hr hlk () (congrArg (x_make 0) (by subst_vars; unfold x_ap60; rw [if_pos c9, if_neg c19, if_neg c29])) hw (Nat.le_of_ble_eq_true rfl) (Nat.le_of_ble_eq_true rfl) dX0_apply_159

def x_ap61 (a : Int32) (d : Int32) : Int32 := (if (x_isNan (x_floatBits a)) = (0 : Int32) then (if (x_isNan (x_floatBits d)) = (0 : Int32) then (if (x_isEqual (x_floatBits a) (x_floatBits d)) = (0 : Int32) then (0) else (1)) else (if (x_isEqual (x_floatBits a) (x_floatBits d)) = (0 : Int32) then (0) else (1))) else (if (x_isEqual (x_floatBits a) (x_floatBits d)) = (0 : Int32) then (0) else (1)))
set_option maxHeartbeats 4000000 in
set_option maxRecDepth 100000 in
theorem f_ap61 (l : Launch) (G : Gt) (a : Int32) (d : Int32) : Mt l yX0_apply cX0_apply 8 (some .long) ({ frames := 2, cells := 0, slots := 0, locals := 45 } : Room) G [.int 61, .long (x_make 1 a), .long (x_make 1 d)] [] (qL G (fun (r : Int64) (w : Unit) => r = x_make 0 (x_ap61 a d)) (fun w => [])) := by
  refine Mt.of (own := RX0) (cc := cX0_apply) (by decide) rfl (Nat.le_of_ble_eq_true rfl) ?_
  intro p e s m below meth c A ls cx hr hlk hmn hA hl hw
  have hx := cx.1
  have hb := cx.2.1
  have hl : lv_has ls 8 [(0, .int 61), (1, .long (x_make 1 a)), (3, .long (x_make 1 d))] := hl
  refine lv_iload_n hx hb dX0_apply_0 rfl (lv_at hl 0 rfl) ?_
  refine lv_bipush (v := 37) hx hb dX0_apply_1 (by decide) ?_
  refine lv_icmp_ne (tgt := 22) hx hb dX0_apply_3 (by decide) (fun _ => ?_) (fun c9 => absurd c9 (by decide))
  refine lv_lload_n hx hb dX0_apply_22 rfl (lv_at hl 1 rfl) ?_
  refine r_callS0I (As := [.long (x_make 1 a)]) (rest := []) cx hw hA (f_kindF l G a) ml_X0_23 st_X0_kind in_X0 co_X0_kind hd_X0_kind rfl ⟨Nat.le_of_ble_eq_true rfl, Nat.le_of_ble_eq_true rfl⟩ hl.1 rfl (Nat.le_of_ble_eq_true rfl) dX0_apply_23 ⟨Nat.le_of_ble_eq_true rfl, Nat.le_of_ble_eq_true rfl⟩ (fun r2 H locs hr2 hw => ?_)
  subst hr2
  refine lv_if_ne (tgt := 53) hx hb dX0_apply_26 (by decide) (fun _ => ?_) (fun c9 => absurd c9 (by decide))
  refine lv_lload_n hx hb dX0_apply_53 rfl (lv_at hl 1 rfl) ?_
  refine r_callS0I (As := [.long (x_make 1 a)]) (rest := []) cx hw hA (f_floatBits l G a) ml_X0_33 st_X0_floatBits in_X0 co_X0_floatBits hd_X0_floatBits rfl ⟨Nat.le_of_ble_eq_true rfl, Nat.le_of_ble_eq_true rfl⟩ hl.1 rfl (Nat.le_of_ble_eq_true rfl) dX0_apply_54 ⟨Nat.le_of_ble_eq_true rfl, Nat.le_of_ble_eq_true rfl⟩ (fun r4 H locs hr4 hw => ?_)
  refine lv_istore (lv' := [(5, .int r4), (0, .int 61), (1, .long (x_make 1 a)), (3, .long (x_make 1 d))]) hx hb dX0_apply_57 hl (by decide) rfl (fun ls hl => ?_)
  refine lv_lload_n hx hb dX0_apply_59 rfl (lv_at hl 3 rfl) ?_
  refine r_callS0I (As := [.long (x_make 1 d)]) (rest := []) cx hw hA (f_floatBits l G d) ml_X0_33 st_X0_floatBits in_X0 co_X0_floatBits hd_X0_floatBits rfl ⟨Nat.le_of_ble_eq_true rfl, Nat.le_of_ble_eq_true rfl⟩ hl.1 rfl (Nat.le_of_ble_eq_true rfl) dX0_apply_60 ⟨Nat.le_of_ble_eq_true rfl, Nat.le_of_ble_eq_true rfl⟩ (fun r6 H locs hr6 hw => ?_)
  refine lv_istore (lv' := [(6, .int r6), (5, .int r4), (0, .int 61), (1, .long (x_make 1 a)), (3, .long (x_make 1 d))]) hx hb dX0_apply_63 hl (by decide) rfl (fun ls hl => ?_)
  refine lv_iload hx hb dX0_apply_65 (lv_at hl 1 rfl) ?_
  refine r_callS0I (As := [.int r4]) (rest := []) cx hw hA (f_isNan l G r4) ml_X0_36 st_X0_isNan in_X0 co_X0_isNan hd_X0_isNan rfl ⟨Nat.le_of_ble_eq_true rfl, Nat.le_of_ble_eq_true rfl⟩ hl.1 rfl (Nat.le_of_ble_eq_true rfl) dX0_apply_67 ⟨Nat.le_of_ble_eq_true rfl, Nat.le_of_ble_eq_true rfl⟩ (fun r8 H locs hr8 hw => ?_)
  refine lv_if_ne (tgt := 81) hx hb dX0_apply_70 (by decide) (fun c9 => ?_) (fun c9 => ?_)
  · refine lv_iconst (v := 1) hx hb dX0_apply_81 (by decide) ?_
    refine lv_goto (tgt := 86) hx hb dX0_apply_82 (by decide) ?_
    refine lv_istore (lv' := [(7, .int 1), (6, .int r6), (5, .int r4), (0, .int 61), (1, .long (x_make 1 a)), (3, .long (x_make 1 d))]) hx hb dX0_apply_86 hl (by decide) rfl (fun ls hl => ?_)
    refine lv_iload_n hx hb dX0_apply_88 rfl (lv_at hl 3 rfl) ?_
    refine lv_lookup (tgt := 160) hx hb dX0_apply_89 (by decide +kernel) rfl (by decide) ?_
    refine lv_iconst (v := 0) hx hb dX0_apply_160 (by decide) ?_
    refine lv_iload hx hb dX0_apply_161 (lv_at hl 2 rfl) ?_
    refine lv_iload hx hb dX0_apply_163 (lv_at hl 1 rfl) ?_
    refine r_callS0I (As := [.int r4, .int r6]) (rest := [.int 0]) cx hw hA (f_isEqual l G r4 r6) ml_X0_44 st_X0_isEqual in_X0 co_X0_isEqual hd_X0_isEqual rfl ⟨Nat.le_of_ble_eq_true rfl, Nat.le_of_ble_eq_true rfl⟩ hl.1 rfl (Nat.le_of_ble_eq_true rfl) dX0_apply_165 ⟨Nat.le_of_ble_eq_true rfl, Nat.le_of_ble_eq_true rfl⟩ (fun r11 H locs hr11 hw => ?_)
    refine lv_if_eq (tgt := 175) hx hb dX0_apply_168 (by decide) (fun c12 => ?_) (fun c12 => ?_)
    · refine lv_iconst (v := 0) hx hb dX0_apply_175 (by decide) ?_
      refine r_callS0L (As := [.int 0, .int 0]) (rest := []) cx hw hA (c_make l G 0 0) ml_X0_19 st_X0_make in_X0 co_X0_make hd_X0_make rfl ⟨Nat.le_of_ble_eq_true rfl, Nat.le_of_ble_eq_true rfl⟩ hl.1 rfl (Nat.le_of_ble_eq_true rfl) dX0_apply_176 ⟨Nat.le_of_ble_eq_true rfl, Nat.le_of_ble_eq_true rfl⟩ (fun r14 H locs hr14 hw => ?_)
      subst hr14
      have hw : Wd G A [] s.heap _ _ := hw.sub [] rfl rfl
      exact r_lret cx hr hlk () (congrArg (x_make 0) (by subst_vars; unfold x_ap61; rw [if_neg c9, if_pos c12])) hw (Nat.le_of_ble_eq_true rfl) (Nat.le_of_ble_eq_true rfl) dX0_apply_179
    · refine lv_iconst (v := 1) hx hb dX0_apply_171 (by decide) ?_
      refine lv_goto (tgt := 176) hx hb dX0_apply_172 (by decide) ?_
      refine r_callS0L (As := [.int 0, .int 1]) (rest := []) cx hw hA (c_make l G 0 1) ml_X0_19 st_X0_make in_X0 co_X0_make hd_X0_make rfl ⟨Nat.le_of_ble_eq_true rfl, Nat.le_of_ble_eq_true rfl⟩ hl.1 rfl (Nat.le_of_ble_eq_true rfl) dX0_apply_176 ⟨Nat.le_of_ble_eq_true rfl, Nat.le_of_ble_eq_true rfl⟩ (fun r16 H locs hr16 hw => ?_)
      subst hr16
      have hw : Wd G A [] s.heap _ _ := hw.sub [] rfl rfl
      exact r_lret cx hr hlk () (congrArg (x_make 0) (by subst_vars; unfold x_ap61; rw [if_neg c9, if_neg c12])) hw (Nat.le_of_ble_eq_true rfl) (Nat.le_of_ble_eq_true rfl) dX0_apply_179
  · refine lv_iload hx hb dX0_apply_73 (lv_at hl 0 rfl) ?_
    refine r_callS0I (As := [.int r6]) (rest := []) cx hw hA (f_isNan l G r6) ml_X0_36 st_X0_isNan in_X0 co_X0_isNan hd_X0_isNan rfl ⟨Nat.le_of_ble_eq_true rfl, Nat.le_of_ble_eq_true rfl⟩ hl.1 rfl (Nat.le_of_ble_eq_true rfl) dX0_apply_75 ⟨Nat.le_of_ble_eq_true rfl, Nat.le_of_ble_eq_true rfl⟩ (fun r18 H locs hr18 hw => ?_)
    refine lv_if_eq (tgt := 85) hx hb dX0_apply_78 (by decide) (fun c19 => ?_) (fun c19 => ?_)
    · refine lv_iconst (v := 0) hx hb dX0_apply_85 (by decide) ?_
      refine lv_istore (lv' := [(7, .int 0), (6, .int r6), (5, .int r4), (0, .int 61), (1, .long (x_make 1 a)), (3, .long (x_make 1 d))]) hx hb dX0_apply_86 hl (by decide) rfl (fun ls hl => ?_)
      refine lv_iload_n hx hb dX0_apply_88 rfl (lv_at hl 3 rfl) ?_
      refine lv_lookup (tgt := 160) hx hb dX0_apply_89 (by decide +kernel) rfl (by decide) ?_
      refine lv_iconst (v := 0) hx hb dX0_apply_160 (by decide) ?_
      refine lv_iload hx hb dX0_apply_161 (lv_at hl 2 rfl) ?_
      refine lv_iload hx hb dX0_apply_163 (lv_at hl 1 rfl) ?_
      refine r_callS0I (As := [.int r4, .int r6]) (rest := [.int 0]) cx hw hA (f_isEqual l G r4 r6) ml_X0_44 st_X0_isEqual in_X0 co_X0_isEqual hd_X0_isEqual rfl ⟨Nat.le_of_ble_eq_true rfl, Nat.le_of_ble_eq_true rfl⟩ hl.1 rfl (Nat.le_of_ble_eq_true rfl) dX0_apply_165 ⟨Nat.le_of_ble_eq_true rfl, Nat.le_of_ble_eq_true rfl⟩ (fun r21 H locs hr21 hw => ?_)
      refine lv_if_eq (tgt := 175) hx hb dX0_apply_168 (by decide) (fun c22 => ?_) (fun c22 => ?_)
      · refine lv_iconst (v := 0) hx hb dX0_apply_175 (by decide) ?_
        refine r_callS0L (As := [.int 0, .int 0]) (rest := []) cx hw hA (c_make l G 0 0) ml_X0_19 st_X0_make in_X0 co_X0_make hd_X0_make rfl ⟨Nat.le_of_ble_eq_true rfl, Nat.le_of_ble_eq_true rfl⟩ hl.1 rfl (Nat.le_of_ble_eq_true rfl) dX0_apply_176 ⟨Nat.le_of_ble_eq_true rfl, Nat.le_of_ble_eq_true rfl⟩ (fun r24 H locs hr24 hw => ?_)
        subst hr24
        have hw : Wd G A [] s.heap _ _ := hw.sub [] rfl rfl
        exact r_lret cx hr hlk () (congrArg (x_make 0) (by subst_vars; unfold x_ap61; rw [if_pos c9, if_pos c19, if_pos c22])) hw (Nat.le_of_ble_eq_true rfl) (Nat.le_of_ble_eq_true rfl) dX0_apply_179
      · refine lv_iconst (v := 1) hx hb dX0_apply_171 (by decide) ?_
        refine lv_goto (tgt := 176) hx hb dX0_apply_172 (by decide) ?_
        refine r_callS0L (As := [.int 0, .int 1]) (rest := []) cx hw hA (c_make l G 0 1) ml_X0_19 st_X0_make in_X0 co_X0_make hd_X0_make rfl ⟨Nat.le_of_ble_eq_true rfl, Nat.le_of_ble_eq_true rfl⟩ hl.1 rfl (Nat.le_of_ble_eq_true rfl) dX0_apply_176 ⟨Nat.le_of_ble_eq_true rfl, Nat.le_of_ble_eq_true rfl⟩ (fun r26 H locs hr26 hw => ?_)
        subst hr26
        have hw : Wd G A [] s.heap _ _ := hw.sub [] rfl rfl
        exact r_lret cx hr hlk () (congrArg (x_make 0) (by subst_vars; unfold x_ap61; rw [if_pos c9, if_pos c19, if_neg c22])) hw (Nat.le_of_ble_eq_true rfl) (Nat.le_of_ble_eq_true rfl) dX0_apply_179
    · refine lv_iconst (v := 1) hx hb dX0_apply_81 (by decide) ?_
      refine lv_goto (tgt := 86) hx hb dX0_apply_82 (by decide) ?_
      refine lv_istore (lv' := [(7, .int 1), (6, .int r6), (5, .int r4), (0, .int 61), (1, .long (x_make 1 a)), (3, .long (x_make 1 d))]) hx hb dX0_apply_86 hl (by decide) rfl (fun ls hl => ?_)
      refine lv_iload_n hx hb dX0_apply_88 rfl (lv_at hl 3 rfl) ?_
      refine lv_lookup (tgt := 160) hx hb dX0_apply_89 (by decide +kernel) rfl (by decide) ?_
      refine lv_iconst (v := 0) hx hb dX0_apply_160 (by decide) ?_
      refine lv_iload hx hb dX0_apply_161 (lv_at hl 2 rfl) ?_
      refine lv_iload hx hb dX0_apply_163 (lv_at hl 1 rfl) ?_
      refine r_callS0I (As := [.int r4, .int r6]) (rest := [.int 0]) cx hw hA (f_isEqual l G r4 r6) ml_X0_44 st_X0_isEqual in_X0 co_X0_isEqual hd_X0_isEqual rfl ⟨Nat.le_of_ble_eq_true rfl, Nat.le_of_ble_eq_true rfl⟩ hl.1 rfl (Nat.le_of_ble_eq_true rfl) dX0_apply_165 ⟨Nat.le_of_ble_eq_true rfl, Nat.le_of_ble_eq_true rfl⟩ (fun r28 H locs hr28 hw => ?_)
      refine lv_if_eq (tgt := 175) hx hb dX0_apply_168 (by decide) (fun c29 => ?_) (fun c29 => ?_)
      · refine lv_iconst (v := 0) hx hb dX0_apply_175 (by decide) ?_
        refine r_callS0L (As := [.int 0, .int 0]) (rest := []) cx hw hA (c_make l G 0 0) ml_X0_19 st_X0_make in_X0 co_X0_make hd_X0_make rfl ⟨Nat.le_of_ble_eq_true rfl, Nat.le_of_ble_eq_true rfl⟩ hl.1 rfl (Nat.le_of_ble_eq_true rfl) dX0_apply_176 ⟨Nat.le_of_ble_eq_true rfl, Nat.le_of_ble_eq_true rfl⟩ (fun r31 H locs hr31 hw => ?_)
        subst hr31
        have hw : Wd G A [] s.heap _ _ := hw.sub [] rfl rfl
        exact r_lret cx hr hlk () (congrArg (x_make 0) (by subst_vars; unfold x_ap61; rw [if_pos c9, if_neg c19, if_pos c29])) hw (Nat.le_of_ble_eq_true rfl) (Nat.le_of_ble_eq_true rfl) dX0_apply_179
      · refine lv_iconst (v := 1) hx hb dX0_apply_171 (by decide) ?_
        refine lv_goto (tgt := 176) hx hb dX0_apply_172 (by decide) ?_
        refine r_callS0L (As := [.int 0, .int 1]) (rest := []) cx hw hA (c_make l G 0 1) ml_X0_19 st_X0_make in_X0 co_X0_make hd_X0_make rfl ⟨Nat.le_of_ble_eq_true rfl, Nat.le_of_ble_eq_true rfl⟩ hl.1 rfl (Nat.le_of_ble_eq_true rfl) dX0_apply_176 ⟨Nat.le_of_ble_eq_true rfl, Nat.le_of_ble_eq_true rfl⟩ (fun r33 H locs hr33 hw => ?_)
        subst hr33
        have hw : Wd G A [] s.heap _ _ := hw.sub [] rfl rfl
        exact r_lret cx hr hlk () (congrArg (x_make 0) (by subst_vars; unfold x_ap61; rw [if_pos c9, if_neg c19, if_neg c29])) hw (Nat.le_of_ble_eq_true rfl) (Nat.le_of_ble_eq_true rfl) dX0_apply_179

/-- what op answers, by the class -/
def fop (a g d : Int32) : Int32 := if g = 43 then x_ap43 a d else if g = 45 then x_ap45 a d else if g = 42 then x_ap42 a d else if g = 47 then x_ap47 a d else if g = 37 then x_ap37 a d else if g = 60 then x_ap60 a d else if g = 61 then x_ap61 a d else 0

set_option maxHeartbeats 4000000 in
set_option maxRecDepth 100000 in
theorem k_isSign (l : Launch) (G : Gt) (g : Int32) : Mt l yX0_isSign cX0_isSign 1 (some .boolean) ({ frames := 0, cells := 0, slots := 0, locals := 0 } : Room) G [.int g] [] (qI G (fun (r : Int32) (w : Unit) => (g = 43 ∧ r = 1) ∨ (g = 45 ∧ r = 1) ∨ (g = 42 ∧ r = 1) ∨ (g = 47 ∧ r = 1) ∨ (g = 37 ∧ r = 1) ∨ (g = 60 ∧ r = 1) ∨ (g = 61 ∧ r = 1) ∨ (¬ g = 43 ∧ ¬ g = 45 ∧ ¬ g = 42 ∧ ¬ g = 47 ∧ ¬ g = 37 ∧ ¬ g = 60 ∧ ¬ g = 61 ∧ r = 0)) (fun w => [])) := by
  refine Mt.of (own := RX0) (cc := cX0_isSign) (by decide) rfl (Nat.le_of_ble_eq_true rfl) ?_
  intro p e s m below meth c A ls cx hr hlk hmn hA hl hw
  have hx := cx.1
  have hb := cx.2.1
  have hl : lv_has ls 1 [(0, .int g)] := hl
  refine lv_iload_n hx hb dX0_isSign_0 rfl (lv_at hl 0 rfl) ?_
  refine lv_bipush (v := 43) hx hb dX0_isSign_1 (by decide) ?_
  refine lv_icmp_eq (tgt := 42) hx hb dX0_isSign_3 (by decide) (fun c1 => ?_) (fun c1 => ?_)
  · subst c1
    refine lv_iconst (v := 1) hx hb dX0_isSign_42 (by decide) ?_
    refine lv_goto (tgt := 47) hx hb dX0_isSign_43 (by decide) ?_
    have hw : Wd G A [] s.heap _ _ := hw.sub [] rfl rfl
    exact r_zret cx hr rfl hlk () (by first | exact Or.inl ⟨(by first | rfl | decide | (simp only [fa_lt, fa_le, fa_eq]; have : (-1 : Int32).toInt = -1 := (by decide); have : (0 : Int32).toInt = 0 := (by decide); have : (1 : Int32).toInt = 1 := (by decide); have : (43 : Int32).toInt = 43 := (by decide); omega)), rfl⟩ | exact Or.inr (Or.inl ⟨(by first | rfl | decide | (simp only [fa_lt, fa_le, fa_eq]; have : (-1 : Int32).toInt = -1 := (by decide); have : (0 : Int32).toInt = 0 := (by decide); have : (1 : Int32).toInt = 1 := (by decide); have : (43 : Int32).toInt = 43 := (by decide); omega)), rfl⟩) | exact Or.inr (Or.inr (Or.inl ⟨(by first | rfl | decide | (simp only [fa_lt, fa_le, fa_eq]; have : (-1 : Int32).toInt = -1 := (by decide); have : (0 : Int32).toInt = 0 := (by decide); have : (1 : Int32).toInt = 1 := (by decide); have : (43 : Int32).toInt = 43 := (by decide); omega)), rfl⟩)) | exact Or.inr (Or.inr (Or.inr (Or.inl ⟨(by first | rfl | decide | (simp only [fa_lt, fa_le, fa_eq]; have : (-1 : Int32).toInt = -1 := (by decide); have : (0 : Int32).toInt = 0 := (by decide); have : (1 : Int32).toInt = 1 := (by decide); have : (43 : Int32).toInt = 43 := (by decide); omega)), rfl⟩))) | exact Or.inr (Or.inr (Or.inr (Or.inr (Or.inl ⟨(by first | rfl | decide | (simp only [fa_lt, fa_le, fa_eq]; have : (-1 : Int32).toInt = -1 := (by decide); have : (0 : Int32).toInt = 0 := (by decide); have : (1 : Int32).toInt = 1 := (by decide); have : (43 : Int32).toInt = 43 := (by decide); omega)), rfl⟩)))) | exact Or.inr (Or.inr (Or.inr (Or.inr (Or.inr (Or.inl ⟨(by first | rfl | decide | (simp only [fa_lt, fa_le, fa_eq]; have : (-1 : Int32).toInt = -1 := (by decide); have : (0 : Int32).toInt = 0 := (by decide); have : (1 : Int32).toInt = 1 := (by decide); have : (43 : Int32).toInt = 43 := (by decide); omega)), rfl⟩))))) | exact Or.inr (Or.inr (Or.inr (Or.inr (Or.inr (Or.inr (Or.inl ⟨(by first | rfl | decide | (simp only [fa_lt, fa_le, fa_eq]; have : (-1 : Int32).toInt = -1 := (by decide); have : (0 : Int32).toInt = 0 := (by decide); have : (1 : Int32).toInt = 1 := (by decide); have : (43 : Int32).toInt = 43 := (by decide); omega)), rfl⟩))))))) hw (Nat.le_of_ble_eq_true rfl) (Nat.le_of_ble_eq_true rfl) dX0_isSign_47
  · refine lv_iload_n hx hb dX0_isSign_6 rfl (lv_at hl 0 rfl) ?_
    refine lv_bipush (v := 45) hx hb dX0_isSign_7 (by decide) ?_
    refine lv_icmp_eq (tgt := 42) hx hb dX0_isSign_9 (by decide) (fun c2 => ?_) (fun c2 => ?_)
    · subst c2
      refine lv_iconst (v := 1) hx hb dX0_isSign_42 (by decide) ?_
      refine lv_goto (tgt := 47) hx hb dX0_isSign_43 (by decide) ?_
      have hw : Wd G A [] s.heap _ _ := hw.sub [] rfl rfl
      exact r_zret cx hr rfl hlk () (by first | exact Or.inl ⟨(by first | rfl | decide | (simp only [fa_lt, fa_le, fa_eq]; simp only [fa_lt, fa_le, fa_eq] at c1; have : (-1 : Int32).toInt = -1 := (by decide); have : (0 : Int32).toInt = 0 := (by decide); have : (1 : Int32).toInt = 1 := (by decide); have : (43 : Int32).toInt = 43 := (by decide); have : (45 : Int32).toInt = 45 := (by decide); omega)), rfl⟩ | exact Or.inr (Or.inl ⟨(by first | rfl | decide | (simp only [fa_lt, fa_le, fa_eq]; simp only [fa_lt, fa_le, fa_eq] at c1; have : (-1 : Int32).toInt = -1 := (by decide); have : (0 : Int32).toInt = 0 := (by decide); have : (1 : Int32).toInt = 1 := (by decide); have : (43 : Int32).toInt = 43 := (by decide); have : (45 : Int32).toInt = 45 := (by decide); omega)), rfl⟩) | exact Or.inr (Or.inr (Or.inl ⟨(by first | rfl | decide | (simp only [fa_lt, fa_le, fa_eq]; simp only [fa_lt, fa_le, fa_eq] at c1; have : (-1 : Int32).toInt = -1 := (by decide); have : (0 : Int32).toInt = 0 := (by decide); have : (1 : Int32).toInt = 1 := (by decide); have : (43 : Int32).toInt = 43 := (by decide); have : (45 : Int32).toInt = 45 := (by decide); omega)), rfl⟩)) | exact Or.inr (Or.inr (Or.inr (Or.inl ⟨(by first | rfl | decide | (simp only [fa_lt, fa_le, fa_eq]; simp only [fa_lt, fa_le, fa_eq] at c1; have : (-1 : Int32).toInt = -1 := (by decide); have : (0 : Int32).toInt = 0 := (by decide); have : (1 : Int32).toInt = 1 := (by decide); have : (43 : Int32).toInt = 43 := (by decide); have : (45 : Int32).toInt = 45 := (by decide); omega)), rfl⟩))) | exact Or.inr (Or.inr (Or.inr (Or.inr (Or.inl ⟨(by first | rfl | decide | (simp only [fa_lt, fa_le, fa_eq]; simp only [fa_lt, fa_le, fa_eq] at c1; have : (-1 : Int32).toInt = -1 := (by decide); have : (0 : Int32).toInt = 0 := (by decide); have : (1 : Int32).toInt = 1 := (by decide); have : (43 : Int32).toInt = 43 := (by decide); have : (45 : Int32).toInt = 45 := (by decide); omega)), rfl⟩)))) | exact Or.inr (Or.inr (Or.inr (Or.inr (Or.inr (Or.inl ⟨(by first | rfl | decide | (simp only [fa_lt, fa_le, fa_eq]; simp only [fa_lt, fa_le, fa_eq] at c1; have : (-1 : Int32).toInt = -1 := (by decide); have : (0 : Int32).toInt = 0 := (by decide); have : (1 : Int32).toInt = 1 := (by decide); have : (43 : Int32).toInt = 43 := (by decide); have : (45 : Int32).toInt = 45 := (by decide); omega)), rfl⟩))))) | exact Or.inr (Or.inr (Or.inr (Or.inr (Or.inr (Or.inr (Or.inl ⟨(by first | rfl | decide | (simp only [fa_lt, fa_le, fa_eq]; simp only [fa_lt, fa_le, fa_eq] at c1; have : (-1 : Int32).toInt = -1 := (by decide); have : (0 : Int32).toInt = 0 := (by decide); have : (1 : Int32).toInt = 1 := (by decide); have : (43 : Int32).toInt = 43 := (by decide); have : (45 : Int32).toInt = 45 := (by decide); omega)), rfl⟩))))))) hw (Nat.le_of_ble_eq_true rfl) (Nat.le_of_ble_eq_true rfl) dX0_isSign_47
    · refine lv_iload_n hx hb dX0_isSign_12 rfl (lv_at hl 0 rfl) ?_
      refine lv_bipush (v := 42) hx hb dX0_isSign_13 (by decide) ?_
      refine lv_icmp_eq (tgt := 42) hx hb dX0_isSign_15 (by decide) (fun c3 => ?_) (fun c3 => ?_)
      · subst c3
        refine lv_iconst (v := 1) hx hb dX0_isSign_42 (by decide) ?_
        refine lv_goto (tgt := 47) hx hb dX0_isSign_43 (by decide) ?_
        have hw : Wd G A [] s.heap _ _ := hw.sub [] rfl rfl
        exact r_zret cx hr rfl hlk () (by first | exact Or.inl ⟨(by first | rfl | decide | (simp only [fa_lt, fa_le, fa_eq]; simp only [fa_lt, fa_le, fa_eq] at c1 c2; have : (-1 : Int32).toInt = -1 := (by decide); have : (0 : Int32).toInt = 0 := (by decide); have : (1 : Int32).toInt = 1 := (by decide); have : (42 : Int32).toInt = 42 := (by decide); have : (43 : Int32).toInt = 43 := (by decide); have : (45 : Int32).toInt = 45 := (by decide); omega)), rfl⟩ | exact Or.inr (Or.inl ⟨(by first | rfl | decide | (simp only [fa_lt, fa_le, fa_eq]; simp only [fa_lt, fa_le, fa_eq] at c1 c2; have : (-1 : Int32).toInt = -1 := (by decide); have : (0 : Int32).toInt = 0 := (by decide); have : (1 : Int32).toInt = 1 := (by decide); have : (42 : Int32).toInt = 42 := (by decide); have : (43 : Int32).toInt = 43 := (by decide); have : (45 : Int32).toInt = 45 := (by decide); omega)), rfl⟩) | exact Or.inr (Or.inr (Or.inl ⟨(by first | rfl | decide | (simp only [fa_lt, fa_le, fa_eq]; simp only [fa_lt, fa_le, fa_eq] at c1 c2; have : (-1 : Int32).toInt = -1 := (by decide); have : (0 : Int32).toInt = 0 := (by decide); have : (1 : Int32).toInt = 1 := (by decide); have : (42 : Int32).toInt = 42 := (by decide); have : (43 : Int32).toInt = 43 := (by decide); have : (45 : Int32).toInt = 45 := (by decide); omega)), rfl⟩)) | exact Or.inr (Or.inr (Or.inr (Or.inl ⟨(by first | rfl | decide | (simp only [fa_lt, fa_le, fa_eq]; simp only [fa_lt, fa_le, fa_eq] at c1 c2; have : (-1 : Int32).toInt = -1 := (by decide); have : (0 : Int32).toInt = 0 := (by decide); have : (1 : Int32).toInt = 1 := (by decide); have : (42 : Int32).toInt = 42 := (by decide); have : (43 : Int32).toInt = 43 := (by decide); have : (45 : Int32).toInt = 45 := (by decide); omega)), rfl⟩))) | exact Or.inr (Or.inr (Or.inr (Or.inr (Or.inl ⟨(by first | rfl | decide | (simp only [fa_lt, fa_le, fa_eq]; simp only [fa_lt, fa_le, fa_eq] at c1 c2; have : (-1 : Int32).toInt = -1 := (by decide); have : (0 : Int32).toInt = 0 := (by decide); have : (1 : Int32).toInt = 1 := (by decide); have : (42 : Int32).toInt = 42 := (by decide); have : (43 : Int32).toInt = 43 := (by decide); have : (45 : Int32).toInt = 45 := (by decide); omega)), rfl⟩)))) | exact Or.inr (Or.inr (Or.inr (Or.inr (Or.inr (Or.inl ⟨(by first | rfl | decide | (simp only [fa_lt, fa_le, fa_eq]; simp only [fa_lt, fa_le, fa_eq] at c1 c2; have : (-1 : Int32).toInt = -1 := (by decide); have : (0 : Int32).toInt = 0 := (by decide); have : (1 : Int32).toInt = 1 := (by decide); have : (42 : Int32).toInt = 42 := (by decide); have : (43 : Int32).toInt = 43 := (by decide); have : (45 : Int32).toInt = 45 := (by decide); omega)), rfl⟩))))) | exact Or.inr (Or.inr (Or.inr (Or.inr (Or.inr (Or.inr (Or.inl ⟨(by first | rfl | decide | (simp only [fa_lt, fa_le, fa_eq]; simp only [fa_lt, fa_le, fa_eq] at c1 c2; have : (-1 : Int32).toInt = -1 := (by decide); have : (0 : Int32).toInt = 0 := (by decide); have : (1 : Int32).toInt = 1 := (by decide); have : (42 : Int32).toInt = 42 := (by decide); have : (43 : Int32).toInt = 43 := (by decide); have : (45 : Int32).toInt = 45 := (by decide); omega)), rfl⟩))))))) hw (Nat.le_of_ble_eq_true rfl) (Nat.le_of_ble_eq_true rfl) dX0_isSign_47
      · refine lv_iload_n hx hb dX0_isSign_18 rfl (lv_at hl 0 rfl) ?_
        refine lv_bipush (v := 47) hx hb dX0_isSign_19 (by decide) ?_
        refine lv_icmp_eq (tgt := 42) hx hb dX0_isSign_21 (by decide) (fun c4 => ?_) (fun c4 => ?_)
        · subst c4
          refine lv_iconst (v := 1) hx hb dX0_isSign_42 (by decide) ?_
          refine lv_goto (tgt := 47) hx hb dX0_isSign_43 (by decide) ?_
          have hw : Wd G A [] s.heap _ _ := hw.sub [] rfl rfl
          exact r_zret cx hr rfl hlk () (by first | exact Or.inl ⟨(by first | rfl | decide | (simp only [fa_lt, fa_le, fa_eq]; simp only [fa_lt, fa_le, fa_eq] at c1 c2 c3; have : (-1 : Int32).toInt = -1 := (by decide); have : (0 : Int32).toInt = 0 := (by decide); have : (1 : Int32).toInt = 1 := (by decide); have : (42 : Int32).toInt = 42 := (by decide); have : (43 : Int32).toInt = 43 := (by decide); have : (45 : Int32).toInt = 45 := (by decide); have : (47 : Int32).toInt = 47 := (by decide); omega)), rfl⟩ | exact Or.inr (Or.inl ⟨(by first | rfl | decide | (simp only [fa_lt, fa_le, fa_eq]; simp only [fa_lt, fa_le, fa_eq] at c1 c2 c3; have : (-1 : Int32).toInt = -1 := (by decide); have : (0 : Int32).toInt = 0 := (by decide); have : (1 : Int32).toInt = 1 := (by decide); have : (42 : Int32).toInt = 42 := (by decide); have : (43 : Int32).toInt = 43 := (by decide); have : (45 : Int32).toInt = 45 := (by decide); have : (47 : Int32).toInt = 47 := (by decide); omega)), rfl⟩) | exact Or.inr (Or.inr (Or.inl ⟨(by first | rfl | decide | (simp only [fa_lt, fa_le, fa_eq]; simp only [fa_lt, fa_le, fa_eq] at c1 c2 c3; have : (-1 : Int32).toInt = -1 := (by decide); have : (0 : Int32).toInt = 0 := (by decide); have : (1 : Int32).toInt = 1 := (by decide); have : (42 : Int32).toInt = 42 := (by decide); have : (43 : Int32).toInt = 43 := (by decide); have : (45 : Int32).toInt = 45 := (by decide); have : (47 : Int32).toInt = 47 := (by decide); omega)), rfl⟩)) | exact Or.inr (Or.inr (Or.inr (Or.inl ⟨(by first | rfl | decide | (simp only [fa_lt, fa_le, fa_eq]; simp only [fa_lt, fa_le, fa_eq] at c1 c2 c3; have : (-1 : Int32).toInt = -1 := (by decide); have : (0 : Int32).toInt = 0 := (by decide); have : (1 : Int32).toInt = 1 := (by decide); have : (42 : Int32).toInt = 42 := (by decide); have : (43 : Int32).toInt = 43 := (by decide); have : (45 : Int32).toInt = 45 := (by decide); have : (47 : Int32).toInt = 47 := (by decide); omega)), rfl⟩))) | exact Or.inr (Or.inr (Or.inr (Or.inr (Or.inl ⟨(by first | rfl | decide | (simp only [fa_lt, fa_le, fa_eq]; simp only [fa_lt, fa_le, fa_eq] at c1 c2 c3; have : (-1 : Int32).toInt = -1 := (by decide); have : (0 : Int32).toInt = 0 := (by decide); have : (1 : Int32).toInt = 1 := (by decide); have : (42 : Int32).toInt = 42 := (by decide); have : (43 : Int32).toInt = 43 := (by decide); have : (45 : Int32).toInt = 45 := (by decide); have : (47 : Int32).toInt = 47 := (by decide); omega)), rfl⟩)))) | exact Or.inr (Or.inr (Or.inr (Or.inr (Or.inr (Or.inl ⟨(by first | rfl | decide | (simp only [fa_lt, fa_le, fa_eq]; simp only [fa_lt, fa_le, fa_eq] at c1 c2 c3; have : (-1 : Int32).toInt = -1 := (by decide); have : (0 : Int32).toInt = 0 := (by decide); have : (1 : Int32).toInt = 1 := (by decide); have : (42 : Int32).toInt = 42 := (by decide); have : (43 : Int32).toInt = 43 := (by decide); have : (45 : Int32).toInt = 45 := (by decide); have : (47 : Int32).toInt = 47 := (by decide); omega)), rfl⟩))))) | exact Or.inr (Or.inr (Or.inr (Or.inr (Or.inr (Or.inr (Or.inl ⟨(by first | rfl | decide | (simp only [fa_lt, fa_le, fa_eq]; simp only [fa_lt, fa_le, fa_eq] at c1 c2 c3; have : (-1 : Int32).toInt = -1 := (by decide); have : (0 : Int32).toInt = 0 := (by decide); have : (1 : Int32).toInt = 1 := (by decide); have : (42 : Int32).toInt = 42 := (by decide); have : (43 : Int32).toInt = 43 := (by decide); have : (45 : Int32).toInt = 45 := (by decide); have : (47 : Int32).toInt = 47 := (by decide); omega)), rfl⟩))))))) hw (Nat.le_of_ble_eq_true rfl) (Nat.le_of_ble_eq_true rfl) dX0_isSign_47
        · refine lv_iload_n hx hb dX0_isSign_24 rfl (lv_at hl 0 rfl) ?_
          refine lv_bipush (v := 37) hx hb dX0_isSign_25 (by decide) ?_
          refine lv_icmp_eq (tgt := 42) hx hb dX0_isSign_27 (by decide) (fun c5 => ?_) (fun c5 => ?_)
          · subst c5
            refine lv_iconst (v := 1) hx hb dX0_isSign_42 (by decide) ?_
            refine lv_goto (tgt := 47) hx hb dX0_isSign_43 (by decide) ?_
            have hw : Wd G A [] s.heap _ _ := hw.sub [] rfl rfl
            exact r_zret cx hr rfl hlk () (by first | exact Or.inl ⟨(by first | rfl | decide | (simp only [fa_lt, fa_le, fa_eq]; simp only [fa_lt, fa_le, fa_eq] at c1 c2 c3 c4; have : (-1 : Int32).toInt = -1 := (by decide); have : (0 : Int32).toInt = 0 := (by decide); have : (1 : Int32).toInt = 1 := (by decide); have : (37 : Int32).toInt = 37 := (by decide); have : (42 : Int32).toInt = 42 := (by decide); have : (43 : Int32).toInt = 43 := (by decide); have : (45 : Int32).toInt = 45 := (by decide); have : (47 : Int32).toInt = 47 := (by decide); omega)), rfl⟩ | exact Or.inr (Or.inl ⟨(by first | rfl | decide | (simp only [fa_lt, fa_le, fa_eq]; simp only [fa_lt, fa_le, fa_eq] at c1 c2 c3 c4; have : (-1 : Int32).toInt = -1 := (by decide); have : (0 : Int32).toInt = 0 := (by decide); have : (1 : Int32).toInt = 1 := (by decide); have : (37 : Int32).toInt = 37 := (by decide); have : (42 : Int32).toInt = 42 := (by decide); have : (43 : Int32).toInt = 43 := (by decide); have : (45 : Int32).toInt = 45 := (by decide); have : (47 : Int32).toInt = 47 := (by decide); omega)), rfl⟩) | exact Or.inr (Or.inr (Or.inl ⟨(by first | rfl | decide | (simp only [fa_lt, fa_le, fa_eq]; simp only [fa_lt, fa_le, fa_eq] at c1 c2 c3 c4; have : (-1 : Int32).toInt = -1 := (by decide); have : (0 : Int32).toInt = 0 := (by decide); have : (1 : Int32).toInt = 1 := (by decide); have : (37 : Int32).toInt = 37 := (by decide); have : (42 : Int32).toInt = 42 := (by decide); have : (43 : Int32).toInt = 43 := (by decide); have : (45 : Int32).toInt = 45 := (by decide); have : (47 : Int32).toInt = 47 := (by decide); omega)), rfl⟩)) | exact Or.inr (Or.inr (Or.inr (Or.inl ⟨(by first | rfl | decide | (simp only [fa_lt, fa_le, fa_eq]; simp only [fa_lt, fa_le, fa_eq] at c1 c2 c3 c4; have : (-1 : Int32).toInt = -1 := (by decide); have : (0 : Int32).toInt = 0 := (by decide); have : (1 : Int32).toInt = 1 := (by decide); have : (37 : Int32).toInt = 37 := (by decide); have : (42 : Int32).toInt = 42 := (by decide); have : (43 : Int32).toInt = 43 := (by decide); have : (45 : Int32).toInt = 45 := (by decide); have : (47 : Int32).toInt = 47 := (by decide); omega)), rfl⟩))) | exact Or.inr (Or.inr (Or.inr (Or.inr (Or.inl ⟨(by first | rfl | decide | (simp only [fa_lt, fa_le, fa_eq]; simp only [fa_lt, fa_le, fa_eq] at c1 c2 c3 c4; have : (-1 : Int32).toInt = -1 := (by decide); have : (0 : Int32).toInt = 0 := (by decide); have : (1 : Int32).toInt = 1 := (by decide); have : (37 : Int32).toInt = 37 := (by decide); have : (42 : Int32).toInt = 42 := (by decide); have : (43 : Int32).toInt = 43 := (by decide); have : (45 : Int32).toInt = 45 := (by decide); have : (47 : Int32).toInt = 47 := (by decide); omega)), rfl⟩)))) | exact Or.inr (Or.inr (Or.inr (Or.inr (Or.inr (Or.inl ⟨(by first | rfl | decide | (simp only [fa_lt, fa_le, fa_eq]; simp only [fa_lt, fa_le, fa_eq] at c1 c2 c3 c4; have : (-1 : Int32).toInt = -1 := (by decide); have : (0 : Int32).toInt = 0 := (by decide); have : (1 : Int32).toInt = 1 := (by decide); have : (37 : Int32).toInt = 37 := (by decide); have : (42 : Int32).toInt = 42 := (by decide); have : (43 : Int32).toInt = 43 := (by decide); have : (45 : Int32).toInt = 45 := (by decide); have : (47 : Int32).toInt = 47 := (by decide); omega)), rfl⟩))))) | exact Or.inr (Or.inr (Or.inr (Or.inr (Or.inr (Or.inr (Or.inl ⟨(by first | rfl | decide | (simp only [fa_lt, fa_le, fa_eq]; simp only [fa_lt, fa_le, fa_eq] at c1 c2 c3 c4; have : (-1 : Int32).toInt = -1 := (by decide); have : (0 : Int32).toInt = 0 := (by decide); have : (1 : Int32).toInt = 1 := (by decide); have : (37 : Int32).toInt = 37 := (by decide); have : (42 : Int32).toInt = 42 := (by decide); have : (43 : Int32).toInt = 43 := (by decide); have : (45 : Int32).toInt = 45 := (by decide); have : (47 : Int32).toInt = 47 := (by decide); omega)), rfl⟩))))))) hw (Nat.le_of_ble_eq_true rfl) (Nat.le_of_ble_eq_true rfl) dX0_isSign_47
          · refine lv_iload_n hx hb dX0_isSign_30 rfl (lv_at hl 0 rfl) ?_
            refine lv_bipush (v := 60) hx hb dX0_isSign_31 (by decide) ?_
            refine lv_icmp_eq (tgt := 42) hx hb dX0_isSign_33 (by decide) (fun c6 => ?_) (fun c6 => ?_)
            · subst c6
              refine lv_iconst (v := 1) hx hb dX0_isSign_42 (by decide) ?_
              refine lv_goto (tgt := 47) hx hb dX0_isSign_43 (by decide) ?_
              have hw : Wd G A [] s.heap _ _ := hw.sub [] rfl rfl
              exact r_zret cx hr rfl hlk () (by first | exact Or.inl ⟨(by first | rfl | decide | (simp only [fa_lt, fa_le, fa_eq]; simp only [fa_lt, fa_le, fa_eq] at c1 c2 c3 c4 c5; have : (-1 : Int32).toInt = -1 := (by decide); have : (0 : Int32).toInt = 0 := (by decide); have : (1 : Int32).toInt = 1 := (by decide); have : (37 : Int32).toInt = 37 := (by decide); have : (42 : Int32).toInt = 42 := (by decide); have : (43 : Int32).toInt = 43 := (by decide); have : (45 : Int32).toInt = 45 := (by decide); have : (47 : Int32).toInt = 47 := (by decide); have : (60 : Int32).toInt = 60 := (by decide); omega)), rfl⟩ | exact Or.inr (Or.inl ⟨(by first | rfl | decide | (simp only [fa_lt, fa_le, fa_eq]; simp only [fa_lt, fa_le, fa_eq] at c1 c2 c3 c4 c5; have : (-1 : Int32).toInt = -1 := (by decide); have : (0 : Int32).toInt = 0 := (by decide); have : (1 : Int32).toInt = 1 := (by decide); have : (37 : Int32).toInt = 37 := (by decide); have : (42 : Int32).toInt = 42 := (by decide); have : (43 : Int32).toInt = 43 := (by decide); have : (45 : Int32).toInt = 45 := (by decide); have : (47 : Int32).toInt = 47 := (by decide); have : (60 : Int32).toInt = 60 := (by decide); omega)), rfl⟩) | exact Or.inr (Or.inr (Or.inl ⟨(by first | rfl | decide | (simp only [fa_lt, fa_le, fa_eq]; simp only [fa_lt, fa_le, fa_eq] at c1 c2 c3 c4 c5; have : (-1 : Int32).toInt = -1 := (by decide); have : (0 : Int32).toInt = 0 := (by decide); have : (1 : Int32).toInt = 1 := (by decide); have : (37 : Int32).toInt = 37 := (by decide); have : (42 : Int32).toInt = 42 := (by decide); have : (43 : Int32).toInt = 43 := (by decide); have : (45 : Int32).toInt = 45 := (by decide); have : (47 : Int32).toInt = 47 := (by decide); have : (60 : Int32).toInt = 60 := (by decide); omega)), rfl⟩)) | exact Or.inr (Or.inr (Or.inr (Or.inl ⟨(by first | rfl | decide | (simp only [fa_lt, fa_le, fa_eq]; simp only [fa_lt, fa_le, fa_eq] at c1 c2 c3 c4 c5; have : (-1 : Int32).toInt = -1 := (by decide); have : (0 : Int32).toInt = 0 := (by decide); have : (1 : Int32).toInt = 1 := (by decide); have : (37 : Int32).toInt = 37 := (by decide); have : (42 : Int32).toInt = 42 := (by decide); have : (43 : Int32).toInt = 43 := (by decide); have : (45 : Int32).toInt = 45 := (by decide); have : (47 : Int32).toInt = 47 := (by decide); have : (60 : Int32).toInt = 60 := (by decide); omega)), rfl⟩))) | exact Or.inr (Or.inr (Or.inr (Or.inr (Or.inl ⟨(by first | rfl | decide | (simp only [fa_lt, fa_le, fa_eq]; simp only [fa_lt, fa_le, fa_eq] at c1 c2 c3 c4 c5; have : (-1 : Int32).toInt = -1 := (by decide); have : (0 : Int32).toInt = 0 := (by decide); have : (1 : Int32).toInt = 1 := (by decide); have : (37 : Int32).toInt = 37 := (by decide); have : (42 : Int32).toInt = 42 := (by decide); have : (43 : Int32).toInt = 43 := (by decide); have : (45 : Int32).toInt = 45 := (by decide); have : (47 : Int32).toInt = 47 := (by decide); have : (60 : Int32).toInt = 60 := (by decide); omega)), rfl⟩)))) | exact Or.inr (Or.inr (Or.inr (Or.inr (Or.inr (Or.inl ⟨(by first | rfl | decide | (simp only [fa_lt, fa_le, fa_eq]; simp only [fa_lt, fa_le, fa_eq] at c1 c2 c3 c4 c5; have : (-1 : Int32).toInt = -1 := (by decide); have : (0 : Int32).toInt = 0 := (by decide); have : (1 : Int32).toInt = 1 := (by decide); have : (37 : Int32).toInt = 37 := (by decide); have : (42 : Int32).toInt = 42 := (by decide); have : (43 : Int32).toInt = 43 := (by decide); have : (45 : Int32).toInt = 45 := (by decide); have : (47 : Int32).toInt = 47 := (by decide); have : (60 : Int32).toInt = 60 := (by decide); omega)), rfl⟩))))) | exact Or.inr (Or.inr (Or.inr (Or.inr (Or.inr (Or.inr (Or.inl ⟨(by first | rfl | decide | (simp only [fa_lt, fa_le, fa_eq]; simp only [fa_lt, fa_le, fa_eq] at c1 c2 c3 c4 c5; have : (-1 : Int32).toInt = -1 := (by decide); have : (0 : Int32).toInt = 0 := (by decide); have : (1 : Int32).toInt = 1 := (by decide); have : (37 : Int32).toInt = 37 := (by decide); have : (42 : Int32).toInt = 42 := (by decide); have : (43 : Int32).toInt = 43 := (by decide); have : (45 : Int32).toInt = 45 := (by decide); have : (47 : Int32).toInt = 47 := (by decide); have : (60 : Int32).toInt = 60 := (by decide); omega)), rfl⟩))))))) hw (Nat.le_of_ble_eq_true rfl) (Nat.le_of_ble_eq_true rfl) dX0_isSign_47
            · refine lv_iload_n hx hb dX0_isSign_36 rfl (lv_at hl 0 rfl) ?_
              refine lv_bipush (v := 61) hx hb dX0_isSign_37 (by decide) ?_
              refine lv_icmp_ne (tgt := 46) hx hb dX0_isSign_39 (by decide) (fun c7 => ?_) (fun c7 => ?_)
              · refine lv_iconst (v := 0) hx hb dX0_isSign_46 (by decide) ?_
                have hw : Wd G A [] s.heap _ _ := hw.sub [] rfl rfl
                exact r_zret cx hr rfl hlk () (by first | exact Or.inr (Or.inr (Or.inr (Or.inr (Or.inr (Or.inr (Or.inr (⟨(by first | rfl | decide | (simp only [fa_lt, fa_le, fa_eq]; simp only [fa_lt, fa_le, fa_eq] at c1 c2 c3 c4 c5 c6 c7; have : (-1 : Int32).toInt = -1 := (by decide); have : (0 : Int32).toInt = 0 := (by decide); have : (1 : Int32).toInt = 1 := (by decide); have : (37 : Int32).toInt = 37 := (by decide); have : (42 : Int32).toInt = 42 := (by decide); have : (43 : Int32).toInt = 43 := (by decide); have : (45 : Int32).toInt = 45 := (by decide); have : (47 : Int32).toInt = 47 := (by decide); have : (60 : Int32).toInt = 60 := (by decide); have : (61 : Int32).toInt = 61 := (by decide); omega)), (by first | rfl | decide | (simp only [fa_lt, fa_le, fa_eq]; simp only [fa_lt, fa_le, fa_eq] at c1 c2 c3 c4 c5 c6 c7; have : (-1 : Int32).toInt = -1 := (by decide); have : (0 : Int32).toInt = 0 := (by decide); have : (1 : Int32).toInt = 1 := (by decide); have : (37 : Int32).toInt = 37 := (by decide); have : (42 : Int32).toInt = 42 := (by decide); have : (43 : Int32).toInt = 43 := (by decide); have : (45 : Int32).toInt = 45 := (by decide); have : (47 : Int32).toInt = 47 := (by decide); have : (60 : Int32).toInt = 60 := (by decide); have : (61 : Int32).toInt = 61 := (by decide); omega)), (by first | rfl | decide | (simp only [fa_lt, fa_le, fa_eq]; simp only [fa_lt, fa_le, fa_eq] at c1 c2 c3 c4 c5 c6 c7; have : (-1 : Int32).toInt = -1 := (by decide); have : (0 : Int32).toInt = 0 := (by decide); have : (1 : Int32).toInt = 1 := (by decide); have : (37 : Int32).toInt = 37 := (by decide); have : (42 : Int32).toInt = 42 := (by decide); have : (43 : Int32).toInt = 43 := (by decide); have : (45 : Int32).toInt = 45 := (by decide); have : (47 : Int32).toInt = 47 := (by decide); have : (60 : Int32).toInt = 60 := (by decide); have : (61 : Int32).toInt = 61 := (by decide); omega)), (by first | rfl | decide | (simp only [fa_lt, fa_le, fa_eq]; simp only [fa_lt, fa_le, fa_eq] at c1 c2 c3 c4 c5 c6 c7; have : (-1 : Int32).toInt = -1 := (by decide); have : (0 : Int32).toInt = 0 := (by decide); have : (1 : Int32).toInt = 1 := (by decide); have : (37 : Int32).toInt = 37 := (by decide); have : (42 : Int32).toInt = 42 := (by decide); have : (43 : Int32).toInt = 43 := (by decide); have : (45 : Int32).toInt = 45 := (by decide); have : (47 : Int32).toInt = 47 := (by decide); have : (60 : Int32).toInt = 60 := (by decide); have : (61 : Int32).toInt = 61 := (by decide); omega)), (by first | rfl | decide | (simp only [fa_lt, fa_le, fa_eq]; simp only [fa_lt, fa_le, fa_eq] at c1 c2 c3 c4 c5 c6 c7; have : (-1 : Int32).toInt = -1 := (by decide); have : (0 : Int32).toInt = 0 := (by decide); have : (1 : Int32).toInt = 1 := (by decide); have : (37 : Int32).toInt = 37 := (by decide); have : (42 : Int32).toInt = 42 := (by decide); have : (43 : Int32).toInt = 43 := (by decide); have : (45 : Int32).toInt = 45 := (by decide); have : (47 : Int32).toInt = 47 := (by decide); have : (60 : Int32).toInt = 60 := (by decide); have : (61 : Int32).toInt = 61 := (by decide); omega)), (by first | rfl | decide | (simp only [fa_lt, fa_le, fa_eq]; simp only [fa_lt, fa_le, fa_eq] at c1 c2 c3 c4 c5 c6 c7; have : (-1 : Int32).toInt = -1 := (by decide); have : (0 : Int32).toInt = 0 := (by decide); have : (1 : Int32).toInt = 1 := (by decide); have : (37 : Int32).toInt = 37 := (by decide); have : (42 : Int32).toInt = 42 := (by decide); have : (43 : Int32).toInt = 43 := (by decide); have : (45 : Int32).toInt = 45 := (by decide); have : (47 : Int32).toInt = 47 := (by decide); have : (60 : Int32).toInt = 60 := (by decide); have : (61 : Int32).toInt = 61 := (by decide); omega)), (by first | rfl | decide | (simp only [fa_lt, fa_le, fa_eq]; simp only [fa_lt, fa_le, fa_eq] at c1 c2 c3 c4 c5 c6 c7; have : (-1 : Int32).toInt = -1 := (by decide); have : (0 : Int32).toInt = 0 := (by decide); have : (1 : Int32).toInt = 1 := (by decide); have : (37 : Int32).toInt = 37 := (by decide); have : (42 : Int32).toInt = 42 := (by decide); have : (43 : Int32).toInt = 43 := (by decide); have : (45 : Int32).toInt = 45 := (by decide); have : (47 : Int32).toInt = 47 := (by decide); have : (60 : Int32).toInt = 60 := (by decide); have : (61 : Int32).toInt = 61 := (by decide); omega)), rfl⟩)))))))) hw (Nat.le_of_ble_eq_true rfl) (Nat.le_of_ble_eq_true rfl) dX0_isSign_47
              · subst c7
                refine lv_iconst (v := 1) hx hb dX0_isSign_42 (by decide) ?_
                refine lv_goto (tgt := 47) hx hb dX0_isSign_43 (by decide) ?_
                have hw : Wd G A [] s.heap _ _ := hw.sub [] rfl rfl
                exact r_zret cx hr rfl hlk () (by first | exact Or.inl ⟨(by first | rfl | decide | (simp only [fa_lt, fa_le, fa_eq]; simp only [fa_lt, fa_le, fa_eq] at c1 c2 c3 c4 c5 c6; have : (-1 : Int32).toInt = -1 := (by decide); have : (0 : Int32).toInt = 0 := (by decide); have : (1 : Int32).toInt = 1 := (by decide); have : (37 : Int32).toInt = 37 := (by decide); have : (42 : Int32).toInt = 42 := (by decide); have : (43 : Int32).toInt = 43 := (by decide); have : (45 : Int32).toInt = 45 := (by decide); have : (47 : Int32).toInt = 47 := (by decide); have : (60 : Int32).toInt = 60 := (by decide); have : (61 : Int32).toInt = 61 := (by decide); omega)), rfl⟩ | exact Or.inr (Or.inl ⟨(by first | rfl | decide | (simp only [fa_lt, fa_le, fa_eq]; simp only [fa_lt, fa_le, fa_eq] at c1 c2 c3 c4 c5 c6; have : (-1 : Int32).toInt = -1 := (by decide); have : (0 : Int32).toInt = 0 := (by decide); have : (1 : Int32).toInt = 1 := (by decide); have : (37 : Int32).toInt = 37 := (by decide); have : (42 : Int32).toInt = 42 := (by decide); have : (43 : Int32).toInt = 43 := (by decide); have : (45 : Int32).toInt = 45 := (by decide); have : (47 : Int32).toInt = 47 := (by decide); have : (60 : Int32).toInt = 60 := (by decide); have : (61 : Int32).toInt = 61 := (by decide); omega)), rfl⟩) | exact Or.inr (Or.inr (Or.inl ⟨(by first | rfl | decide | (simp only [fa_lt, fa_le, fa_eq]; simp only [fa_lt, fa_le, fa_eq] at c1 c2 c3 c4 c5 c6; have : (-1 : Int32).toInt = -1 := (by decide); have : (0 : Int32).toInt = 0 := (by decide); have : (1 : Int32).toInt = 1 := (by decide); have : (37 : Int32).toInt = 37 := (by decide); have : (42 : Int32).toInt = 42 := (by decide); have : (43 : Int32).toInt = 43 := (by decide); have : (45 : Int32).toInt = 45 := (by decide); have : (47 : Int32).toInt = 47 := (by decide); have : (60 : Int32).toInt = 60 := (by decide); have : (61 : Int32).toInt = 61 := (by decide); omega)), rfl⟩)) | exact Or.inr (Or.inr (Or.inr (Or.inl ⟨(by first | rfl | decide | (simp only [fa_lt, fa_le, fa_eq]; simp only [fa_lt, fa_le, fa_eq] at c1 c2 c3 c4 c5 c6; have : (-1 : Int32).toInt = -1 := (by decide); have : (0 : Int32).toInt = 0 := (by decide); have : (1 : Int32).toInt = 1 := (by decide); have : (37 : Int32).toInt = 37 := (by decide); have : (42 : Int32).toInt = 42 := (by decide); have : (43 : Int32).toInt = 43 := (by decide); have : (45 : Int32).toInt = 45 := (by decide); have : (47 : Int32).toInt = 47 := (by decide); have : (60 : Int32).toInt = 60 := (by decide); have : (61 : Int32).toInt = 61 := (by decide); omega)), rfl⟩))) | exact Or.inr (Or.inr (Or.inr (Or.inr (Or.inl ⟨(by first | rfl | decide | (simp only [fa_lt, fa_le, fa_eq]; simp only [fa_lt, fa_le, fa_eq] at c1 c2 c3 c4 c5 c6; have : (-1 : Int32).toInt = -1 := (by decide); have : (0 : Int32).toInt = 0 := (by decide); have : (1 : Int32).toInt = 1 := (by decide); have : (37 : Int32).toInt = 37 := (by decide); have : (42 : Int32).toInt = 42 := (by decide); have : (43 : Int32).toInt = 43 := (by decide); have : (45 : Int32).toInt = 45 := (by decide); have : (47 : Int32).toInt = 47 := (by decide); have : (60 : Int32).toInt = 60 := (by decide); have : (61 : Int32).toInt = 61 := (by decide); omega)), rfl⟩)))) | exact Or.inr (Or.inr (Or.inr (Or.inr (Or.inr (Or.inl ⟨(by first | rfl | decide | (simp only [fa_lt, fa_le, fa_eq]; simp only [fa_lt, fa_le, fa_eq] at c1 c2 c3 c4 c5 c6; have : (-1 : Int32).toInt = -1 := (by decide); have : (0 : Int32).toInt = 0 := (by decide); have : (1 : Int32).toInt = 1 := (by decide); have : (37 : Int32).toInt = 37 := (by decide); have : (42 : Int32).toInt = 42 := (by decide); have : (43 : Int32).toInt = 43 := (by decide); have : (45 : Int32).toInt = 45 := (by decide); have : (47 : Int32).toInt = 47 := (by decide); have : (60 : Int32).toInt = 60 := (by decide); have : (61 : Int32).toInt = 61 := (by decide); omega)), rfl⟩))))) | exact Or.inr (Or.inr (Or.inr (Or.inr (Or.inr (Or.inr (Or.inl ⟨(by first | rfl | decide | (simp only [fa_lt, fa_le, fa_eq]; simp only [fa_lt, fa_le, fa_eq] at c1 c2 c3 c4 c5 c6; have : (-1 : Int32).toInt = -1 := (by decide); have : (0 : Int32).toInt = 0 := (by decide); have : (1 : Int32).toInt = 1 := (by decide); have : (37 : Int32).toInt = 37 := (by decide); have : (42 : Int32).toInt = 42 := (by decide); have : (43 : Int32).toInt = 43 := (by decide); have : (45 : Int32).toInt = 45 := (by decide); have : (47 : Int32).toInt = 47 := (by decide); have : (60 : Int32).toInt = 60 := (by decide); have : (61 : Int32).toInt = 61 := (by decide); omega)), rfl⟩))))))) hw (Nat.le_of_ble_eq_true rfl) (Nat.le_of_ble_eq_true rfl) dX0_isSign_47

set_option maxHeartbeats 4000000 in
set_option maxRecDepth 100000 in
theorem xa_op (l : Launch) (G : Gt) (h0 : Nat) (u : Nat → Nat) (a : Int32) (g : Int32) (d : Int32) : Mt l yX11_op cX11_op 6 (some .int) ({ frames := 5, cells := 0, slots := 0, locals := 135 } : Room) G [.ref h0, .int a, .int g, .int d] [(h0, ob 10 [.ref (u 0), .int 0, .int (-1), .ref (u 1), .ref (u 2), .ref (u 3), .ref (u 4), .ref (u 5), .ref (u 6), .ref (u 7), .int 0, .ref (u 8), .ref (u 9), .ref (u 10), .ref (u 11), .ref (u 12), .ref (u 13), .ref (u 14), .ref (u 15), .ref (u 16)])] (qI G (fun (r : Int32) (w : Unit) => r = fop a g d) (fun w => [])) := by
  refine Mt.of (own := RX11) (cc := cX11_op) (by decide) rfl (Nat.le_of_ble_eq_true rfl) ?_
  intro p e s m below meth c A ls cx hr hlk hmn hA hl hw
  have hx := cx.1
  have hb := cx.2.1
  have hl : lv_has ls 6 [(0, .ref h0), (1, .int a), (2, .int g), (3, .int d)] := hl
  refine lv_iload_n hx hb dX11_op_0 rfl (lv_at hl 2 rfl) ?_
  refine r_callS0I (As := [.int g]) (rest := []) cx hw hA (k_isSign l G g) ml_X11_255 st_X0_isSign in_X0 co_X0_isSign hd_X0_isSign rfl ⟨Nat.le_of_ble_eq_true rfl, Nat.le_of_ble_eq_true rfl⟩ hl.1 rfl (Nat.le_of_ble_eq_true rfl) dX11_op_1 ⟨Nat.le_of_ble_eq_true rfl, Nat.le_of_ble_eq_true rfl⟩ (fun r2 H locs hr2 hw => ?_)
  rcases hr2 with hr2 | hr2
  · obtain ⟨c3, hr2⟩ := hr2
    subst hr2
    subst c3
    refine lv_if_ne (tgt := 9) hx hb dX11_op_4 (by decide) (fun _ => ?_) (fun c9 => absurd c9 (by decide))
    refine lv_iload_n hx hb dX11_op_9 rfl (lv_at hl 2 rfl) ?_
    refine lv_iconst (v := 1) hx hb dX11_op_10 (by decide) ?_
    refine lv_iload_n hx hb dX11_op_11 rfl (lv_at hl 1 rfl) ?_
    refine r_callS0L (As := [.int 1, .int a]) (rest := [.int 43]) cx hw hA (c_make l G 1 a) ml_X11_260 st_X0_make in_X0 co_X0_make hd_X0_make rfl ⟨Nat.le_of_ble_eq_true rfl, Nat.le_of_ble_eq_true rfl⟩ hl.1 rfl (Nat.le_of_ble_eq_true rfl) dX11_op_12 ⟨Nat.le_of_ble_eq_true rfl, Nat.le_of_ble_eq_true rfl⟩ (fun r5 H locs hr5 hw => ?_)
    subst hr5
    refine lv_iconst (v := 1) hx hb dX11_op_15 (by decide) ?_
    refine lv_iload_n hx hb dX11_op_16 rfl (lv_at hl 3 rfl) ?_
    refine r_callS0L (As := [.int 1, .int d]) (rest := [.long (x_make 1 a), .int 43]) cx hw hA (c_make l G 1 d) ml_X11_260 st_X0_make in_X0 co_X0_make hd_X0_make rfl ⟨Nat.le_of_ble_eq_true rfl, Nat.le_of_ble_eq_true rfl⟩ hl.1 rfl (Nat.le_of_ble_eq_true rfl) dX11_op_17 ⟨Nat.le_of_ble_eq_true rfl, Nat.le_of_ble_eq_true rfl⟩ (fun r7 H locs hr7 hw => ?_)
    subst hr7
    refine r_callS0L (As := [.int 43, .long (x_make 1 a), .long (x_make 1 d)]) (rest := []) cx hw hA (f_ap43 l G a d) ml_X11_264 st_X0_apply in_X0 co_X0_apply hd_X0_apply rfl ⟨Nat.le_of_ble_eq_true rfl, Nat.le_of_ble_eq_true rfl⟩ hl.1 rfl (Nat.le_of_ble_eq_true rfl) dX11_op_20 ⟨Nat.le_of_ble_eq_true rfl, Nat.le_of_ble_eq_true rfl⟩ (fun r9 H locs hr9 hw => ?_)
    subst hr9
    refine lv_lstore (lv' := [(4, .long (x_make 1 (x_ap43 a d))), (0, .ref h0), (1, .int a), (2, .int 43), (3, .int d)]) hx hb dX11_op_23 hl (by decide) rfl (fun ls hl => ?_)
    refine lv_lload hx hb dX11_op_25 (lv_at hl 0 rfl) ?_
    refine r_callS0I (As := [.long (x_make 1 (x_ap43 a d))]) (rest := []) cx hw hA (f_bitsF l G (x_ap43 a d)) ml_X11_268 st_X0_bits in_X0 co_X0_bits hd_X0_bits rfl ⟨Nat.le_of_ble_eq_true rfl, Nat.le_of_ble_eq_true rfl⟩ hl.1 rfl (Nat.le_of_ble_eq_true rfl) dX11_op_27 ⟨Nat.le_of_ble_eq_true rfl, Nat.le_of_ble_eq_true rfl⟩ (fun r11 H locs hr11 hw => ?_)
    subst hr11
    have hw : Wd G A [] s.heap _ _ := hw.sub [] rfl rfl
    exact r_iret cx hr hlk () (by first | rfl | (simp [fop]; done) | (unfold fop; decide)) hw (Nat.le_of_ble_eq_true rfl) (Nat.le_of_ble_eq_true rfl) dX11_op_30
  rcases hr2 with hr2 | hr2
  · obtain ⟨c12, hr2⟩ := hr2
    subst hr2
    subst c12
    refine lv_if_ne (tgt := 9) hx hb dX11_op_4 (by decide) (fun _ => ?_) (fun c9 => absurd c9 (by decide))
    refine lv_iload_n hx hb dX11_op_9 rfl (lv_at hl 2 rfl) ?_
    refine lv_iconst (v := 1) hx hb dX11_op_10 (by decide) ?_
    refine lv_iload_n hx hb dX11_op_11 rfl (lv_at hl 1 rfl) ?_
    refine r_callS0L (As := [.int 1, .int a]) (rest := [.int 45]) cx hw hA (c_make l G 1 a) ml_X11_260 st_X0_make in_X0 co_X0_make hd_X0_make rfl ⟨Nat.le_of_ble_eq_true rfl, Nat.le_of_ble_eq_true rfl⟩ hl.1 rfl (Nat.le_of_ble_eq_true rfl) dX11_op_12 ⟨Nat.le_of_ble_eq_true rfl, Nat.le_of_ble_eq_true rfl⟩ (fun r14 H locs hr14 hw => ?_)
    subst hr14
    refine lv_iconst (v := 1) hx hb dX11_op_15 (by decide) ?_
    refine lv_iload_n hx hb dX11_op_16 rfl (lv_at hl 3 rfl) ?_
    refine r_callS0L (As := [.int 1, .int d]) (rest := [.long (x_make 1 a), .int 45]) cx hw hA (c_make l G 1 d) ml_X11_260 st_X0_make in_X0 co_X0_make hd_X0_make rfl ⟨Nat.le_of_ble_eq_true rfl, Nat.le_of_ble_eq_true rfl⟩ hl.1 rfl (Nat.le_of_ble_eq_true rfl) dX11_op_17 ⟨Nat.le_of_ble_eq_true rfl, Nat.le_of_ble_eq_true rfl⟩ (fun r16 H locs hr16 hw => ?_)
    subst hr16
    refine r_callS0L (As := [.int 45, .long (x_make 1 a), .long (x_make 1 d)]) (rest := []) cx hw hA (f_ap45 l G a d) ml_X11_264 st_X0_apply in_X0 co_X0_apply hd_X0_apply rfl ⟨Nat.le_of_ble_eq_true rfl, Nat.le_of_ble_eq_true rfl⟩ hl.1 rfl (Nat.le_of_ble_eq_true rfl) dX11_op_20 ⟨Nat.le_of_ble_eq_true rfl, Nat.le_of_ble_eq_true rfl⟩ (fun r18 H locs hr18 hw => ?_)
    subst hr18
    refine lv_lstore (lv' := [(4, .long (x_make 1 (x_ap45 a d))), (0, .ref h0), (1, .int a), (2, .int 45), (3, .int d)]) hx hb dX11_op_23 hl (by decide) rfl (fun ls hl => ?_)
    refine lv_lload hx hb dX11_op_25 (lv_at hl 0 rfl) ?_
    refine r_callS0I (As := [.long (x_make 1 (x_ap45 a d))]) (rest := []) cx hw hA (f_bitsF l G (x_ap45 a d)) ml_X11_268 st_X0_bits in_X0 co_X0_bits hd_X0_bits rfl ⟨Nat.le_of_ble_eq_true rfl, Nat.le_of_ble_eq_true rfl⟩ hl.1 rfl (Nat.le_of_ble_eq_true rfl) dX11_op_27 ⟨Nat.le_of_ble_eq_true rfl, Nat.le_of_ble_eq_true rfl⟩ (fun r20 H locs hr20 hw => ?_)
    subst hr20
    have hw : Wd G A [] s.heap _ _ := hw.sub [] rfl rfl
    exact r_iret cx hr hlk () (by first | rfl | (simp [fop]; done) | (unfold fop; decide)) hw (Nat.le_of_ble_eq_true rfl) (Nat.le_of_ble_eq_true rfl) dX11_op_30
  rcases hr2 with hr2 | hr2
  · obtain ⟨c21, hr2⟩ := hr2
    subst hr2
    subst c21
    refine lv_if_ne (tgt := 9) hx hb dX11_op_4 (by decide) (fun _ => ?_) (fun c9 => absurd c9 (by decide))
    refine lv_iload_n hx hb dX11_op_9 rfl (lv_at hl 2 rfl) ?_
    refine lv_iconst (v := 1) hx hb dX11_op_10 (by decide) ?_
    refine lv_iload_n hx hb dX11_op_11 rfl (lv_at hl 1 rfl) ?_
    refine r_callS0L (As := [.int 1, .int a]) (rest := [.int 42]) cx hw hA (c_make l G 1 a) ml_X11_260 st_X0_make in_X0 co_X0_make hd_X0_make rfl ⟨Nat.le_of_ble_eq_true rfl, Nat.le_of_ble_eq_true rfl⟩ hl.1 rfl (Nat.le_of_ble_eq_true rfl) dX11_op_12 ⟨Nat.le_of_ble_eq_true rfl, Nat.le_of_ble_eq_true rfl⟩ (fun r23 H locs hr23 hw => ?_)
    subst hr23
    refine lv_iconst (v := 1) hx hb dX11_op_15 (by decide) ?_
    refine lv_iload_n hx hb dX11_op_16 rfl (lv_at hl 3 rfl) ?_
    refine r_callS0L (As := [.int 1, .int d]) (rest := [.long (x_make 1 a), .int 42]) cx hw hA (c_make l G 1 d) ml_X11_260 st_X0_make in_X0 co_X0_make hd_X0_make rfl ⟨Nat.le_of_ble_eq_true rfl, Nat.le_of_ble_eq_true rfl⟩ hl.1 rfl (Nat.le_of_ble_eq_true rfl) dX11_op_17 ⟨Nat.le_of_ble_eq_true rfl, Nat.le_of_ble_eq_true rfl⟩ (fun r25 H locs hr25 hw => ?_)
    subst hr25
    refine r_callS0L (As := [.int 42, .long (x_make 1 a), .long (x_make 1 d)]) (rest := []) cx hw hA (f_ap42 l G a d) ml_X11_264 st_X0_apply in_X0 co_X0_apply hd_X0_apply rfl ⟨Nat.le_of_ble_eq_true rfl, Nat.le_of_ble_eq_true rfl⟩ hl.1 rfl (Nat.le_of_ble_eq_true rfl) dX11_op_20 ⟨Nat.le_of_ble_eq_true rfl, Nat.le_of_ble_eq_true rfl⟩ (fun r27 H locs hr27 hw => ?_)
    subst hr27
    refine lv_lstore (lv' := [(4, .long (x_make 1 (x_ap42 a d))), (0, .ref h0), (1, .int a), (2, .int 42), (3, .int d)]) hx hb dX11_op_23 hl (by decide) rfl (fun ls hl => ?_)
    refine lv_lload hx hb dX11_op_25 (lv_at hl 0 rfl) ?_
    refine r_callS0I (As := [.long (x_make 1 (x_ap42 a d))]) (rest := []) cx hw hA (f_bitsF l G (x_ap42 a d)) ml_X11_268 st_X0_bits in_X0 co_X0_bits hd_X0_bits rfl ⟨Nat.le_of_ble_eq_true rfl, Nat.le_of_ble_eq_true rfl⟩ hl.1 rfl (Nat.le_of_ble_eq_true rfl) dX11_op_27 ⟨Nat.le_of_ble_eq_true rfl, Nat.le_of_ble_eq_true rfl⟩ (fun r29 H locs hr29 hw => ?_)
    subst hr29
    have hw : Wd G A [] s.heap _ _ := hw.sub [] rfl rfl
    exact r_iret cx hr hlk () (by first | rfl | (simp [fop]; done) | (unfold fop; decide)) hw (Nat.le_of_ble_eq_true rfl) (Nat.le_of_ble_eq_true rfl) dX11_op_30
  rcases hr2 with hr2 | hr2
  · obtain ⟨c30, hr2⟩ := hr2
    subst hr2
    subst c30
    refine lv_if_ne (tgt := 9) hx hb dX11_op_4 (by decide) (fun _ => ?_) (fun c9 => absurd c9 (by decide))
    refine lv_iload_n hx hb dX11_op_9 rfl (lv_at hl 2 rfl) ?_
    refine lv_iconst (v := 1) hx hb dX11_op_10 (by decide) ?_
    refine lv_iload_n hx hb dX11_op_11 rfl (lv_at hl 1 rfl) ?_
    refine r_callS0L (As := [.int 1, .int a]) (rest := [.int 47]) cx hw hA (c_make l G 1 a) ml_X11_260 st_X0_make in_X0 co_X0_make hd_X0_make rfl ⟨Nat.le_of_ble_eq_true rfl, Nat.le_of_ble_eq_true rfl⟩ hl.1 rfl (Nat.le_of_ble_eq_true rfl) dX11_op_12 ⟨Nat.le_of_ble_eq_true rfl, Nat.le_of_ble_eq_true rfl⟩ (fun r32 H locs hr32 hw => ?_)
    subst hr32
    refine lv_iconst (v := 1) hx hb dX11_op_15 (by decide) ?_
    refine lv_iload_n hx hb dX11_op_16 rfl (lv_at hl 3 rfl) ?_
    refine r_callS0L (As := [.int 1, .int d]) (rest := [.long (x_make 1 a), .int 47]) cx hw hA (c_make l G 1 d) ml_X11_260 st_X0_make in_X0 co_X0_make hd_X0_make rfl ⟨Nat.le_of_ble_eq_true rfl, Nat.le_of_ble_eq_true rfl⟩ hl.1 rfl (Nat.le_of_ble_eq_true rfl) dX11_op_17 ⟨Nat.le_of_ble_eq_true rfl, Nat.le_of_ble_eq_true rfl⟩ (fun r34 H locs hr34 hw => ?_)
    subst hr34
    refine r_callS0L (As := [.int 47, .long (x_make 1 a), .long (x_make 1 d)]) (rest := []) cx hw hA (f_ap47 l G a d) ml_X11_264 st_X0_apply in_X0 co_X0_apply hd_X0_apply rfl ⟨Nat.le_of_ble_eq_true rfl, Nat.le_of_ble_eq_true rfl⟩ hl.1 rfl (Nat.le_of_ble_eq_true rfl) dX11_op_20 ⟨Nat.le_of_ble_eq_true rfl, Nat.le_of_ble_eq_true rfl⟩ (fun r36 H locs hr36 hw => ?_)
    subst hr36
    refine lv_lstore (lv' := [(4, .long (x_make 1 (x_ap47 a d))), (0, .ref h0), (1, .int a), (2, .int 47), (3, .int d)]) hx hb dX11_op_23 hl (by decide) rfl (fun ls hl => ?_)
    refine lv_lload hx hb dX11_op_25 (lv_at hl 0 rfl) ?_
    refine r_callS0I (As := [.long (x_make 1 (x_ap47 a d))]) (rest := []) cx hw hA (f_bitsF l G (x_ap47 a d)) ml_X11_268 st_X0_bits in_X0 co_X0_bits hd_X0_bits rfl ⟨Nat.le_of_ble_eq_true rfl, Nat.le_of_ble_eq_true rfl⟩ hl.1 rfl (Nat.le_of_ble_eq_true rfl) dX11_op_27 ⟨Nat.le_of_ble_eq_true rfl, Nat.le_of_ble_eq_true rfl⟩ (fun r38 H locs hr38 hw => ?_)
    subst hr38
    have hw : Wd G A [] s.heap _ _ := hw.sub [] rfl rfl
    exact r_iret cx hr hlk () (by first | rfl | (simp [fop]; done) | (unfold fop; decide)) hw (Nat.le_of_ble_eq_true rfl) (Nat.le_of_ble_eq_true rfl) dX11_op_30
  rcases hr2 with hr2 | hr2
  · obtain ⟨c39, hr2⟩ := hr2
    subst hr2
    subst c39
    refine lv_if_ne (tgt := 9) hx hb dX11_op_4 (by decide) (fun _ => ?_) (fun c9 => absurd c9 (by decide))
    refine lv_iload_n hx hb dX11_op_9 rfl (lv_at hl 2 rfl) ?_
    refine lv_iconst (v := 1) hx hb dX11_op_10 (by decide) ?_
    refine lv_iload_n hx hb dX11_op_11 rfl (lv_at hl 1 rfl) ?_
    refine r_callS0L (As := [.int 1, .int a]) (rest := [.int 37]) cx hw hA (c_make l G 1 a) ml_X11_260 st_X0_make in_X0 co_X0_make hd_X0_make rfl ⟨Nat.le_of_ble_eq_true rfl, Nat.le_of_ble_eq_true rfl⟩ hl.1 rfl (Nat.le_of_ble_eq_true rfl) dX11_op_12 ⟨Nat.le_of_ble_eq_true rfl, Nat.le_of_ble_eq_true rfl⟩ (fun r41 H locs hr41 hw => ?_)
    subst hr41
    refine lv_iconst (v := 1) hx hb dX11_op_15 (by decide) ?_
    refine lv_iload_n hx hb dX11_op_16 rfl (lv_at hl 3 rfl) ?_
    refine r_callS0L (As := [.int 1, .int d]) (rest := [.long (x_make 1 a), .int 37]) cx hw hA (c_make l G 1 d) ml_X11_260 st_X0_make in_X0 co_X0_make hd_X0_make rfl ⟨Nat.le_of_ble_eq_true rfl, Nat.le_of_ble_eq_true rfl⟩ hl.1 rfl (Nat.le_of_ble_eq_true rfl) dX11_op_17 ⟨Nat.le_of_ble_eq_true rfl, Nat.le_of_ble_eq_true rfl⟩ (fun r43 H locs hr43 hw => ?_)
    subst hr43
    refine r_callS0L (As := [.int 37, .long (x_make 1 a), .long (x_make 1 d)]) (rest := []) cx hw hA (f_ap37 l G a d) ml_X11_264 st_X0_apply in_X0 co_X0_apply hd_X0_apply rfl ⟨Nat.le_of_ble_eq_true rfl, Nat.le_of_ble_eq_true rfl⟩ hl.1 rfl (Nat.le_of_ble_eq_true rfl) dX11_op_20 ⟨Nat.le_of_ble_eq_true rfl, Nat.le_of_ble_eq_true rfl⟩ (fun r45 H locs hr45 hw => ?_)
    subst hr45
    refine lv_lstore (lv' := [(4, .long (x_make 0 (x_ap37 a d))), (0, .ref h0), (1, .int a), (2, .int 37), (3, .int d)]) hx hb dX11_op_23 hl (by decide) rfl (fun ls hl => ?_)
    refine lv_lload hx hb dX11_op_25 (lv_at hl 0 rfl) ?_
    refine r_callS0I (As := [.long (x_make 0 (x_ap37 a d))]) (rest := []) cx hw hA (f_bits0 l G (x_ap37 a d)) ml_X11_268 st_X0_bits in_X0 co_X0_bits hd_X0_bits rfl ⟨Nat.le_of_ble_eq_true rfl, Nat.le_of_ble_eq_true rfl⟩ hl.1 rfl (Nat.le_of_ble_eq_true rfl) dX11_op_27 ⟨Nat.le_of_ble_eq_true rfl, Nat.le_of_ble_eq_true rfl⟩ (fun r47 H locs hr47 hw => ?_)
    subst hr47
    have hw : Wd G A [] s.heap _ _ := hw.sub [] rfl rfl
    exact r_iret cx hr hlk () (by first | rfl | (simp [fop]; done) | (unfold fop; decide)) hw (Nat.le_of_ble_eq_true rfl) (Nat.le_of_ble_eq_true rfl) dX11_op_30
  rcases hr2 with hr2 | hr2
  · obtain ⟨c48, hr2⟩ := hr2
    subst hr2
    subst c48
    refine lv_if_ne (tgt := 9) hx hb dX11_op_4 (by decide) (fun _ => ?_) (fun c9 => absurd c9 (by decide))
    refine lv_iload_n hx hb dX11_op_9 rfl (lv_at hl 2 rfl) ?_
    refine lv_iconst (v := 1) hx hb dX11_op_10 (by decide) ?_
    refine lv_iload_n hx hb dX11_op_11 rfl (lv_at hl 1 rfl) ?_
    refine r_callS0L (As := [.int 1, .int a]) (rest := [.int 60]) cx hw hA (c_make l G 1 a) ml_X11_260 st_X0_make in_X0 co_X0_make hd_X0_make rfl ⟨Nat.le_of_ble_eq_true rfl, Nat.le_of_ble_eq_true rfl⟩ hl.1 rfl (Nat.le_of_ble_eq_true rfl) dX11_op_12 ⟨Nat.le_of_ble_eq_true rfl, Nat.le_of_ble_eq_true rfl⟩ (fun r50 H locs hr50 hw => ?_)
    subst hr50
    refine lv_iconst (v := 1) hx hb dX11_op_15 (by decide) ?_
    refine lv_iload_n hx hb dX11_op_16 rfl (lv_at hl 3 rfl) ?_
    refine r_callS0L (As := [.int 1, .int d]) (rest := [.long (x_make 1 a), .int 60]) cx hw hA (c_make l G 1 d) ml_X11_260 st_X0_make in_X0 co_X0_make hd_X0_make rfl ⟨Nat.le_of_ble_eq_true rfl, Nat.le_of_ble_eq_true rfl⟩ hl.1 rfl (Nat.le_of_ble_eq_true rfl) dX11_op_17 ⟨Nat.le_of_ble_eq_true rfl, Nat.le_of_ble_eq_true rfl⟩ (fun r52 H locs hr52 hw => ?_)
    subst hr52
    refine r_callS0L (As := [.int 60, .long (x_make 1 a), .long (x_make 1 d)]) (rest := []) cx hw hA (f_ap60 l G a d) ml_X11_264 st_X0_apply in_X0 co_X0_apply hd_X0_apply rfl ⟨Nat.le_of_ble_eq_true rfl, Nat.le_of_ble_eq_true rfl⟩ hl.1 rfl (Nat.le_of_ble_eq_true rfl) dX11_op_20 ⟨Nat.le_of_ble_eq_true rfl, Nat.le_of_ble_eq_true rfl⟩ (fun r54 H locs hr54 hw => ?_)
    subst hr54
    refine lv_lstore (lv' := [(4, .long (x_make 0 (x_ap60 a d))), (0, .ref h0), (1, .int a), (2, .int 60), (3, .int d)]) hx hb dX11_op_23 hl (by decide) rfl (fun ls hl => ?_)
    refine lv_lload hx hb dX11_op_25 (lv_at hl 0 rfl) ?_
    refine r_callS0I (As := [.long (x_make 0 (x_ap60 a d))]) (rest := []) cx hw hA (f_bits0 l G (x_ap60 a d)) ml_X11_268 st_X0_bits in_X0 co_X0_bits hd_X0_bits rfl ⟨Nat.le_of_ble_eq_true rfl, Nat.le_of_ble_eq_true rfl⟩ hl.1 rfl (Nat.le_of_ble_eq_true rfl) dX11_op_27 ⟨Nat.le_of_ble_eq_true rfl, Nat.le_of_ble_eq_true rfl⟩ (fun r56 H locs hr56 hw => ?_)
    subst hr56
    have hw : Wd G A [] s.heap _ _ := hw.sub [] rfl rfl
    exact r_iret cx hr hlk () (by first | rfl | (simp [fop]; done) | (unfold fop; decide)) hw (Nat.le_of_ble_eq_true rfl) (Nat.le_of_ble_eq_true rfl) dX11_op_30
  rcases hr2 with hr2 | hr2
  · obtain ⟨c57, hr2⟩ := hr2
    subst hr2
    subst c57
    refine lv_if_ne (tgt := 9) hx hb dX11_op_4 (by decide) (fun _ => ?_) (fun c9 => absurd c9 (by decide))
    refine lv_iload_n hx hb dX11_op_9 rfl (lv_at hl 2 rfl) ?_
    refine lv_iconst (v := 1) hx hb dX11_op_10 (by decide) ?_
    refine lv_iload_n hx hb dX11_op_11 rfl (lv_at hl 1 rfl) ?_
    refine r_callS0L (As := [.int 1, .int a]) (rest := [.int 61]) cx hw hA (c_make l G 1 a) ml_X11_260 st_X0_make in_X0 co_X0_make hd_X0_make rfl ⟨Nat.le_of_ble_eq_true rfl, Nat.le_of_ble_eq_true rfl⟩ hl.1 rfl (Nat.le_of_ble_eq_true rfl) dX11_op_12 ⟨Nat.le_of_ble_eq_true rfl, Nat.le_of_ble_eq_true rfl⟩ (fun r59 H locs hr59 hw => ?_)
    subst hr59
    refine lv_iconst (v := 1) hx hb dX11_op_15 (by decide) ?_
    refine lv_iload_n hx hb dX11_op_16 rfl (lv_at hl 3 rfl) ?_
    refine r_callS0L (As := [.int 1, .int d]) (rest := [.long (x_make 1 a), .int 61]) cx hw hA (c_make l G 1 d) ml_X11_260 st_X0_make in_X0 co_X0_make hd_X0_make rfl ⟨Nat.le_of_ble_eq_true rfl, Nat.le_of_ble_eq_true rfl⟩ hl.1 rfl (Nat.le_of_ble_eq_true rfl) dX11_op_17 ⟨Nat.le_of_ble_eq_true rfl, Nat.le_of_ble_eq_true rfl⟩ (fun r61 H locs hr61 hw => ?_)
    subst hr61
    refine r_callS0L (As := [.int 61, .long (x_make 1 a), .long (x_make 1 d)]) (rest := []) cx hw hA (f_ap61 l G a d) ml_X11_264 st_X0_apply in_X0 co_X0_apply hd_X0_apply rfl ⟨Nat.le_of_ble_eq_true rfl, Nat.le_of_ble_eq_true rfl⟩ hl.1 rfl (Nat.le_of_ble_eq_true rfl) dX11_op_20 ⟨Nat.le_of_ble_eq_true rfl, Nat.le_of_ble_eq_true rfl⟩ (fun r63 H locs hr63 hw => ?_)
    subst hr63
    refine lv_lstore (lv' := [(4, .long (x_make 0 (x_ap61 a d))), (0, .ref h0), (1, .int a), (2, .int 61), (3, .int d)]) hx hb dX11_op_23 hl (by decide) rfl (fun ls hl => ?_)
    refine lv_lload hx hb dX11_op_25 (lv_at hl 0 rfl) ?_
    refine r_callS0I (As := [.long (x_make 0 (x_ap61 a d))]) (rest := []) cx hw hA (f_bits0 l G (x_ap61 a d)) ml_X11_268 st_X0_bits in_X0 co_X0_bits hd_X0_bits rfl ⟨Nat.le_of_ble_eq_true rfl, Nat.le_of_ble_eq_true rfl⟩ hl.1 rfl (Nat.le_of_ble_eq_true rfl) dX11_op_27 ⟨Nat.le_of_ble_eq_true rfl, Nat.le_of_ble_eq_true rfl⟩ (fun r65 H locs hr65 hw => ?_)
    subst hr65
    have hw : Wd G A [] s.heap _ _ := hw.sub [] rfl rfl
    exact r_iret cx hr hlk () (by first | rfl | (simp [fop]; done) | (unfold fop; decide)) hw (Nat.le_of_ble_eq_true rfl) (Nat.le_of_ble_eq_true rfl) dX11_op_30
  obtain ⟨c66, c67, c68, c69, c70, c71, c72, hr2⟩ := hr2
  subst hr2
  refine lv_if_ne (tgt := 9) hx hb dX11_op_4 (by decide) (fun c9 => absurd (by decide) c9) (fun _ => ?_)
  refine lv_iconst (v := 0) hx hb dX11_op_7 (by decide) ?_
  have hw : Wd G A [] s.heap _ _ := hw.sub [] rfl rfl
  exact r_iret cx hr hlk () (by unfold fop; rw [if_neg c66, if_neg c67, if_neg c68, if_neg c69, if_neg c70, if_neg c71, if_neg c72]) hw (Nat.le_of_ble_eq_true rfl) (Nat.le_of_ble_eq_true rfl) dX11_op_8
