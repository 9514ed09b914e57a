section Join
variable {p : Program} {l : Launch} {e : Env} {R : Room} {s : State} {m : MethodId} {args : Array Value} {below : List Frame} {meth : Method} {c : Code} {H : Heap} {locs : List Loc} {cells slots : Nat} {Q : State → Prop} {pc pcJ nL : Nat} {ls : Array Slot} {rest : List Value}
theorem jn1 {α : Type} {E : α} {lv : α → List (Nat × Value)} {sk : α → List Value} (k : (∀ (j : α) (ls' : Array Slot), j = E → lv_has ls' nL (lv j) → W p l e R s m args below meth c H locs cells slots Q (F0 m pcJ ls' (sk j))) → W p l e R s m args below meth c H locs cells slots Q (F0 m pc ls rest)) (K : ∀ (j : α) (ls' : Array Slot), j = E → lv_has ls' nL (lv j) → W p l e R s m args below meth c H locs cells slots Q (F0 m pcJ ls' (sk j))) : W p l e R s m args below meth c H locs cells slots Q (F0 m pc ls rest) := k K
theorem jn2 {α β : Type} {E1 : α} {E2 : β} {lv : α → β → List (Nat × Value)} {sk : α → β → List Value} (k : (∀ (j : α) (j2 : β) (ls' : Array Slot), j = E1 → j2 = E2 → lv_has ls' nL (lv j j2) → W p l e R s m args below meth c H locs cells slots Q (F0 m pcJ ls' (sk j j2))) → W p l e R s m args below meth c H locs cells slots Q (F0 m pc ls rest)) (K : ∀ (j : α) (j2 : β) (ls' : Array Slot), j = E1 → j2 = E2 → lv_has ls' nL (lv j j2) → W p l e R s m args below meth c H locs cells slots Q (F0 m pcJ ls' (sk j j2))) : W p l e R s m args below meth c H locs cells slots Q (F0 m pc ls rest) := k K
end Join

theorem x_isNan_ex : ∃ f : Int32 → Int32, ∀ (x : Int32), f x = (if (x &&& (2147483647 : Int32)) ≤ (2139095040 : Int32) then (0) else (1)) := ⟨fun (x : Int32) => (if (x &&& (2147483647 : Int32)) ≤ (2139095040 : Int32) then (0) else (1)), fun _ => rfl⟩
noncomputable def x_isNan : Int32 → Int32 := Classical.choose x_isNan_ex
theorem x_isNan_eq (x : Int32) : x_isNan x = (if (x &&& (2147483647 : Int32)) ≤ (2139095040 : Int32) then (0) else (1)) := Classical.choose_spec x_isNan_ex x
set_option maxHeartbeats 4000000 in
set_option maxRecDepth 100000 in
theorem f_isNan (l : Launch) (G : Gt) (x : Int32) : Mt l yX0_isNan cX0_isNan 1 (some .boolean) ({ frames := 0, cells := 0, slots := 0, locals := 0 } : Room) G [.int x] [] (qI G (fun (r : Int32) (w : Unit) => r = x_isNan x) (fun w => [])) := by
  refine Mt.of (own := RX0) (cc := cX0_isNan) (by decide) rfl (Nat.le_of_ble_eq_true rfl) ?_
  intro p e s m below meth c A ls cx hr hlk hmn hA hl hw
  have hx := cx.1
  have hb := cx.2.1
  have hl : lv_has ls 1 [(0, .int x)] := hl
  refine lv_iload_n hx hb dX0_isNan_0 rfl (lv_at hl 0 rfl) ?_
  refine lv_ldc hx hb cx.2.2.2.1 (cx.2.2.2.2.1 _ cs_X0_58) dX0_isNan_1 ?_
  refine lv_iand hx hb dX0_isNan_3 ?_
  refine lv_topi (fun v1 ev1 => ?_)
  refine lv_ldc hx hb cx.2.2.2.1 (cx.2.2.2.2.1 _ cs_X0_71) dX0_isNan_4 ?_
  refine lv_icmp_le (tgt := 13) hx hb dX0_isNan_6 (by decide) (fun c2 => ?_) (fun c2 => ?_)
  · refine lv_iconst (v := 0) hx hb dX0_isNan_13 (by decide) ?_
    have hw : Wd G A [] s.heap _ _ := hw.sub [] rfl rfl
    exact r_zret cx hr rfl hlk () (by subst ev1; rw [x_isNan_eq, if_pos c2]) hw (Nat.le_of_ble_eq_true rfl) (Nat.le_of_ble_eq_true rfl) dX0_isNan_14
  · refine lv_iconst (v := 1) hx hb dX0_isNan_9 (by decide) ?_
    refine lv_goto (tgt := 14) hx hb dX0_isNan_10 (by decide) ?_
    have hw : Wd G A [] s.heap _ _ := hw.sub [] rfl rfl
    exact r_zret cx hr rfl hlk () (by subst ev1; rw [x_isNan_eq, if_neg c2]) hw (Nat.le_of_ble_eq_true rfl) (Nat.le_of_ble_eq_true rfl) dX0_isNan_14

theorem x_ordered_ex : ∃ f : Int32 → Int32, ∀ (x : Int32), f x = (if (0 : Int32) ≤ x then (x) else ((-(x &&& (2147483647 : Int32))))) := ⟨fun (x : Int32) => (if (0 : Int32) ≤ x then (x) else ((-(x &&& (2147483647 : Int32))))), fun _ => rfl⟩
noncomputable def x_ordered : Int32 → Int32 := Classical.choose x_ordered_ex
theorem x_ordered_eq (x : Int32) : x_ordered x = (if (0 : Int32) ≤ x then (x) else ((-(x &&& (2147483647 : Int32))))) := Classical.choose_spec x_ordered_ex x
set_option maxHeartbeats 4000000 in
set_option maxRecDepth 100000 in
theorem f_ordered (l : Launch) (G : Gt) (x : Int32) : Mt l yX0_ordered cX0_ordered 1 (some .int) ({ frames := 0, cells := 0, slots := 0, locals := 0 } : Room) G [.int x] [] (qI G (fun (r : Int32) (w : Unit) => r = x_ordered x) (fun w => [])) := by
  refine Mt.of (own := RX0) (cc := cX0_ordered) (by decide) rfl (Nat.le_of_ble_eq_true rfl) ?_
  intro p e s m below meth c A ls cx hr hlk hmn hA hl hw
  have hx := cx.1
  have hb := cx.2.1
  have hl : lv_has ls 1 [(0, .int x)] := hl
  refine lv_iload_n hx hb dX0_ordered_0 rfl (lv_at hl 0 rfl) ?_
  refine lv_if_ge (tgt := 12) hx hb dX0_ordered_1 (by decide) (fun c1 => ?_) (fun c1 => ?_)
  · refine lv_iload_n hx hb dX0_ordered_12 rfl (lv_at hl 0 rfl) ?_
    have hw : Wd G A [] s.heap _ _ := hw.sub [] rfl rfl
    exact r_iret cx hr hlk () (by rw [x_ordered_eq, if_pos c1]) hw (Nat.le_of_ble_eq_true rfl) (Nat.le_of_ble_eq_true rfl) dX0_ordered_13
  · refine lv_iload_n hx hb dX0_ordered_4 rfl (lv_at hl 0 rfl) ?_
    refine lv_ldc hx hb cx.2.2.2.1 (cx.2.2.2.2.1 _ cs_X0_58) dX0_ordered_5 ?_
    refine lv_iand hx hb dX0_ordered_7 ?_
    refine lv_topi (fun v2 ev2 => ?_)
    refine lv_ineg hx hb dX0_ordered_8 ?_
    refine lv_topi (fun v3 ev3 => ?_)
    refine lv_goto (tgt := 13) hx hb dX0_ordered_9 (by decide) ?_
    have hw : Wd G A [] s.heap _ _ := hw.sub [] rfl rfl
    exact r_iret cx hr hlk () (by subst ev2 ev3; rw [x_ordered_eq, if_neg c1]) hw (Nat.le_of_ble_eq_true rfl) (Nat.le_of_ble_eq_true rfl) dX0_ordered_13

theorem x_wholeOf_ex : ∃ f : Int32 → Int64, ∀ (x : Int32), f x = (if (x &&& (2139095040 : Int32)) = (0 : Int32) then ((x &&& (8388607 : Int32)).toInt64) else (((x &&& (8388607 : Int32)) ||| (8388608 : Int32)).toInt64)) := ⟨fun (x : Int32) => (if (x &&& (2139095040 : Int32)) = (0 : Int32) then ((x &&& (8388607 : Int32)).toInt64) else (((x &&& (8388607 : Int32)) ||| (8388608 : Int32)).toInt64)), fun _ => rfl⟩
noncomputable def x_wholeOf : Int32 → Int64 := Classical.choose x_wholeOf_ex
theorem x_wholeOf_eq (x : Int32) : x_wholeOf x = (if (x &&& (2139095040 : Int32)) = (0 : Int32) then ((x &&& (8388607 : Int32)).toInt64) else (((x &&& (8388607 : Int32)) ||| (8388608 : Int32)).toInt64)) := Classical.choose_spec x_wholeOf_ex x
set_option maxHeartbeats 4000000 in
set_option maxRecDepth 100000 in
theorem f_wholeOf (l : Launch) (G : Gt) (x : Int32) : Mt l yX0_wholeOf cX0_wholeOf 2 (some .long) ({ frames := 0, cells := 0, slots := 0, locals := 0 } : Room) G [.int x] [] (qL G (fun (r : Int64) (w : Unit) => r = x_wholeOf x) (fun w => [])) := by
  refine Mt.of (own := RX0) (cc := cX0_wholeOf) (by decide) rfl (Nat.le_of_ble_eq_true rfl) ?_
  intro p e s m below meth c A ls cx hr hlk hmn hA hl hw
  have hx := cx.1
  have hb := cx.2.1
  have hl : lv_has ls 2 [(0, .int x)] := hl
  refine lv_iload_n hx hb dX0_wholeOf_0 rfl (lv_at hl 0 rfl) ?_
  refine lv_ldc hx hb cx.2.2.2.1 (cx.2.2.2.2.1 _ cs_X0_75) dX0_wholeOf_1 ?_
  refine lv_iand hx hb dX0_wholeOf_3 ?_
  refine lv_topi (fun v1 ev1 => ?_)
  refine lv_istore_n (lv' := [(1, .int v1), (0, .int x)]) hx hb dX0_wholeOf_4 rfl hl (by decide) rfl (fun ls hl => ?_)
  refine lv_iload_n hx hb dX0_wholeOf_5 rfl (lv_at hl 1 rfl) ?_
  refine lv_ldc hx hb cx.2.2.2.1 (cx.2.2.2.2.1 _ cs_X0_71) dX0_wholeOf_6 ?_
  refine lv_iand hx hb dX0_wholeOf_8 ?_
  refine lv_topi (fun v2 ev2 => ?_)
  refine lv_if_ne (tgt := 17) hx hb dX0_wholeOf_9 (by decide) (fun c3 => ?_) (fun c3 => ?_)
  · refine lv_iload_n hx hb dX0_wholeOf_17 rfl (lv_at hl 0 rfl) ?_
    refine lv_ldc hx hb cx.2.2.2.1 (cx.2.2.2.2.1 _ cs_X0_76) dX0_wholeOf_18 ?_
    refine lv_ior hx hb dX0_wholeOf_20 ?_
    refine lv_topi (fun v4 ev4 => ?_)
    refine lv_i2l hx hb dX0_wholeOf_21 rfl ?_
    refine lv_topl (fun v5 ev5 => ?_)
    have hw : Wd G A [] s.heap _ _ := hw.sub [] rfl rfl
    exact r_lret cx hr hlk () (by subst ev1 ev2 ev4 ev5; rw [x_wholeOf_eq, if_neg c3]) hw (Nat.le_of_ble_eq_true rfl) (Nat.le_of_ble_eq_true rfl) dX0_wholeOf_22
  · refine lv_iload_n hx hb dX0_wholeOf_12 rfl (lv_at hl 0 rfl) ?_
    refine lv_i2l hx hb dX0_wholeOf_13 rfl ?_
    refine lv_topl (fun v6 ev6 => ?_)
    refine lv_goto (tgt := 22) hx hb dX0_wholeOf_14 (by decide) ?_
    have hw : Wd G A [] s.heap _ _ := hw.sub [] rfl rfl
    exact r_lret cx hr hlk () (by subst ev1 ev2 ev6; rw [x_wholeOf_eq, if_pos c3]) hw (Nat.le_of_ble_eq_true rfl) (Nat.le_of_ble_eq_true rfl) dX0_wholeOf_22

theorem x_lastBitOf_ex : ∃ f : Int32 → Int32, ∀ (x : Int32), f x = (if ((x &&& (2139095040 : Int32)).toUInt32 >>> ((23 : Int32).toUInt32 &&& Int32.toUInt32 31)).toInt32 = (0 : Int32) then (-149) else ((((x &&& (2139095040 : Int32)).toUInt32 >>> ((23 : Int32).toUInt32 &&& Int32.toUInt32 31)).toInt32 - (150 : Int32)))) := ⟨fun (x : Int32) => (if ((x &&& (2139095040 : Int32)).toUInt32 >>> ((23 : Int32).toUInt32 &&& Int32.toUInt32 31)).toInt32 = (0 : Int32) then (-149) else ((((x &&& (2139095040 : Int32)).toUInt32 >>> ((23 : Int32).toUInt32 &&& Int32.toUInt32 31)).toInt32 - (150 : Int32)))), fun _ => rfl⟩
noncomputable def x_lastBitOf : Int32 → Int32 := Classical.choose x_lastBitOf_ex
theorem x_lastBitOf_eq (x : Int32) : x_lastBitOf x = (if ((x &&& (2139095040 : Int32)).toUInt32 >>> ((23 : Int32).toUInt32 &&& Int32.toUInt32 31)).toInt32 = (0 : Int32) then (-149) else ((((x &&& (2139095040 : Int32)).toUInt32 >>> ((23 : Int32).toUInt32 &&& Int32.toUInt32 31)).toInt32 - (150 : Int32)))) := Classical.choose_spec x_lastBitOf_ex x
set_option maxHeartbeats 4000000 in
set_option maxRecDepth 100000 in
theorem f_lastBitOf (l : Launch) (G : Gt) (x : Int32) : Mt l yX0_lastBitOf cX0_lastBitOf 2 (some .int) ({ frames := 0, cells := 0, slots := 0, locals := 0 } : Room) G [.int x] [] (qI G (fun (r : Int32) (w : Unit) => r = x_lastBitOf x) (fun w => [])) := by
  refine Mt.of (own := RX0) (cc := cX0_lastBitOf) (by decide) rfl (Nat.le_of_ble_eq_true rfl) ?_
  intro p e s m below meth c A ls cx hr hlk hmn hA hl hw
  have hx := cx.1
  have hb := cx.2.1
  have hl : lv_has ls 2 [(0, .int x)] := hl
  refine lv_iload_n hx hb dX0_lastBitOf_0 rfl (lv_at hl 0 rfl) ?_
  refine lv_ldc hx hb cx.2.2.2.1 (cx.2.2.2.2.1 _ cs_X0_71) dX0_lastBitOf_1 ?_
  refine lv_iand hx hb dX0_lastBitOf_3 ?_
  refine lv_topi (fun v1 ev1 => ?_)
  refine lv_bipush (v := 23) hx hb dX0_lastBitOf_4 (by decide) ?_
  refine lv_iushr hx hb dX0_lastBitOf_6 rfl ?_
  refine lv_topi (fun v2 ev2 => ?_)
  refine lv_istore_n (lv' := [(1, .int v2), (0, .int x)]) hx hb dX0_lastBitOf_7 rfl hl (by decide) rfl (fun ls hl => ?_)
  refine lv_iload_n hx hb dX0_lastBitOf_8 rfl (lv_at hl 0 rfl) ?_
  refine lv_if_ne (tgt := 16) hx hb dX0_lastBitOf_9 (by decide) (fun c3 => ?_) (fun c3 => ?_)
  · refine lv_iload_n hx hb dX0_lastBitOf_16 rfl (lv_at hl 0 rfl) ?_
    refine lv_sipush (v := 150) hx hb dX0_lastBitOf_17 (by decide) ?_
    refine lv_isub hx hb dX0_lastBitOf_20 ?_
    refine lv_topi (fun v4 ev4 => ?_)
    have hw : Wd G A [] s.heap _ _ := hw.sub [] rfl rfl
    exact r_iret cx hr hlk () (by subst ev1 ev2 ev4; rw [x_lastBitOf_eq, if_neg c3]) hw (Nat.le_of_ble_eq_true rfl) (Nat.le_of_ble_eq_true rfl) dX0_lastBitOf_21
  · refine lv_iconst (v := 1) hx hb dX0_lastBitOf_12 (by decide) ?_
    refine lv_goto (tgt := 17) hx hb dX0_lastBitOf_13 (by decide) ?_
    refine lv_sipush (v := 150) hx hb dX0_lastBitOf_17 (by decide) ?_
    refine lv_isub hx hb dX0_lastBitOf_20 ?_
    refine r_topi (v := (-149)) (by decide +kernel) ?_
    have hw : Wd G A [] s.heap _ _ := hw.sub [] rfl rfl
    exact r_iret cx hr hlk () (by subst ev1 ev2; rw [x_lastBitOf_eq, if_pos c3]) hw (Nat.le_of_ble_eq_true rfl) (Nat.le_of_ble_eq_true rfl) dX0_lastBitOf_21

theorem x_isBelow_ex : ∃ f : Int32 → Int32 → Int32, ∀ (x : Int32) (y : Int32), f x y = (if (x_isNan x) = (0 : Int32) then (if (x_isNan y) = (0 : Int32) then (if (x_ordered y) ≤ (x_ordered x) then (0) else (1)) else (0)) else (0)) := ⟨fun (x : Int32) (y : Int32) => (if (x_isNan x) = (0 : Int32) then (if (x_isNan y) = (0 : Int32) then (if (x_ordered y) ≤ (x_ordered x) then (0) else (1)) else (0)) else (0)), fun _ _ => rfl⟩
noncomputable def x_isBelow : Int32 → Int32 → Int32 := Classical.choose x_isBelow_ex
theorem x_isBelow_eq (x : Int32) (y : Int32) : x_isBelow x y = (if (x_isNan x) = (0 : Int32) then (if (x_isNan y) = (0 : Int32) then (if (x_ordered y) ≤ (x_ordered x) then (0) else (1)) else (0)) else (0)) := Classical.choose_spec x_isBelow_ex x y
set_option maxHeartbeats 4000000 in
set_option maxRecDepth 100000 in
theorem f_isBelow (l : Launch) (G : Gt) (x : Int32) (y : Int32) : Mt l yX0_isBelow cX0_isBelow 2 (some .boolean) ({ frames := 1, cells := 0, slots := 0, locals := 20 } : Room) G [.int x, .int y] [] (qI G (fun (r : Int32) (w : Unit) => r = x_isBelow x y) (fun w => [])) := by
  refine Mt.of (own := RX0) (cc := cX0_isBelow) (by decide) rfl (Nat.le_of_ble_eq_true rfl) ?_
  intro p e s m below meth c A ls cx hr hlk hmn hA hl hw
  have hx := cx.1
  have hb := cx.2.1
  have hl : lv_has ls 2 [(0, .int x), (1, .int y)] := hl
  refine lv_iload_n hx hb dX0_isBelow_0 rfl (lv_at hl 0 rfl) ?_
  refine r_callS0I (As := [.int x]) (rest := []) cx hw hA (f_isNan l G x) ml_X0_36 st_X0_isNan in_X0 co_X0_isNan hd_X0_isNan rfl ⟨Nat.le_of_ble_eq_true rfl, Nat.le_of_ble_eq_true rfl⟩ hl.1 rfl (Nat.le_of_ble_eq_true rfl) dX0_isBelow_1 ⟨Nat.le_of_ble_eq_true rfl, Nat.le_of_ble_eq_true rfl⟩ (fun r2 H locs hr2 hw => ?_)
  refine lv_if_ne (tgt := 29) hx hb dX0_isBelow_4 (by decide) (fun c3 => ?_) (fun c3 => ?_)
  · refine lv_iconst (v := 0) hx hb dX0_isBelow_29 (by decide) ?_
    have hw : Wd G A [] s.heap _ _ := hw.sub [] rfl rfl
    exact r_zret cx hr rfl hlk () (by subst hr2; rw [x_isBelow_eq, if_neg c3]) hw (Nat.le_of_ble_eq_true rfl) (Nat.le_of_ble_eq_true rfl) dX0_isBelow_30
  · refine lv_iload_n hx hb dX0_isBelow_7 rfl (lv_at hl 1 rfl) ?_
    refine r_callS0I (As := [.int y]) (rest := []) cx hw hA (f_isNan l G y) ml_X0_36 st_X0_isNan in_X0 co_X0_isNan hd_X0_isNan rfl ⟨Nat.le_of_ble_eq_true rfl, Nat.le_of_ble_eq_true rfl⟩ hl.1 rfl (Nat.le_of_ble_eq_true rfl) dX0_isBelow_8 ⟨Nat.le_of_ble_eq_true rfl, Nat.le_of_ble_eq_true rfl⟩ (fun r5 H locs hr5 hw => ?_)
    refine lv_if_ne (tgt := 29) hx hb dX0_isBelow_11 (by decide) (fun c6 => ?_) (fun c6 => ?_)
    · refine lv_iconst (v := 0) hx hb dX0_isBelow_29 (by decide) ?_
      have hw : Wd G A [] s.heap _ _ := hw.sub [] rfl rfl
      exact r_zret cx hr rfl hlk () (by subst hr2 hr5; rw [x_isBelow_eq, if_pos c3, if_neg c6]) hw (Nat.le_of_ble_eq_true rfl) (Nat.le_of_ble_eq_true rfl) dX0_isBelow_30
    · refine lv_iload_n hx hb dX0_isBelow_14 rfl (lv_at hl 0 rfl) ?_
      refine r_callS0I (As := [.int x]) (rest := []) cx hw hA (f_ordered l G x) ml_X0_72 st_X0_ordered in_X0 co_X0_ordered hd_X0_ordered rfl ⟨Nat.le_of_ble_eq_true rfl, Nat.le_of_ble_eq_true rfl⟩ hl.1 rfl (Nat.le_of_ble_eq_true rfl) dX0_isBelow_15 ⟨Nat.le_of_ble_eq_true rfl, Nat.le_of_ble_eq_true rfl⟩ (fun r8 H locs hr8 hw => ?_)
      refine lv_iload_n hx hb dX0_isBelow_18 rfl (lv_at hl 1 rfl) ?_
      refine r_callS0I (As := [.int y]) (rest := [.int r8]) cx hw hA (f_ordered l G y) ml_X0_72 st_X0_ordered in_X0 co_X0_ordered hd_X0_ordered rfl ⟨Nat.le_of_ble_eq_true rfl, Nat.le_of_ble_eq_true rfl⟩ hl.1 rfl (Nat.le_of_ble_eq_true rfl) dX0_isBelow_19 ⟨Nat.le_of_ble_eq_true rfl, Nat.le_of_ble_eq_true rfl⟩ (fun r10 H locs hr10 hw => ?_)
      refine lv_icmp_ge (tgt := 29) hx hb dX0_isBelow_22 (by decide) (fun c11 => ?_) (fun c11 => ?_)
      · refine lv_iconst (v := 0) hx hb dX0_isBelow_29 (by decide) ?_
        have hw : Wd G A [] s.heap _ _ := hw.sub [] rfl rfl
        exact r_zret cx hr rfl hlk () (by subst hr2 hr5 hr8 hr10; rw [x_isBelow_eq, if_pos c3, if_pos c6, if_pos c11]) hw (Nat.le_of_ble_eq_true rfl) (Nat.le_of_ble_eq_true rfl) dX0_isBelow_30
      · refine lv_iconst (v := 1) hx hb dX0_isBelow_25 (by decide) ?_
        refine lv_goto (tgt := 30) hx hb dX0_isBelow_26 (by decide) ?_
        have hw : Wd G A [] s.heap _ _ := hw.sub [] rfl rfl
        exact r_zret cx hr rfl hlk () (by subst hr2 hr5 hr8 hr10; rw [x_isBelow_eq, if_pos c3, if_pos c6, if_neg c11]) hw (Nat.le_of_ble_eq_true rfl) (Nat.le_of_ble_eq_true rfl) dX0_isBelow_30

theorem x_isEqual_ex : ∃ f : Int32 → Int32 → Int32, ∀ (x : Int32) (y : Int32), f x y = (if (x_isNan x) = (0 : Int32) then (if (x_isNan y) = (0 : Int32) then (if (x_ordered x) = (x_ordered y) then (1) else (0)) else (0)) else (0)) := ⟨fun (x : Int32) (y : Int32) => (if (x_isNan x) = (0 : Int32) then (if (x_isNan y) = (0 : Int32) then (if (x_ordered x) = (x_ordered y) then (1) else (0)) else (0)) else (0)), fun _ _ => rfl⟩
noncomputable def x_isEqual : Int32 → Int32 → Int32 := Classical.choose x_isEqual_ex
theorem x_isEqual_eq (x : Int32) (y : Int32) : x_isEqual x y = (if (x_isNan x) = (0 : Int32) then (if (x_isNan y) = (0 : Int32) then (if (x_ordered x) = (x_ordered y) then (1) else (0)) else (0)) else (0)) := Classical.choose_spec x_isEqual_ex x y
set_option maxHeartbeats 4000000 in
set_option maxRecDepth 100000 in
theorem f_isEqual (l : Launch) (G : Gt) (x : Int32) (y : Int32) : Mt l yX0_isEqual cX0_isEqual 2 (some .boolean) ({ frames := 1, cells := 0, slots := 0, locals := 20 } : Room) G [.int x, .int y] [] (qI G (fun (r : Int32) (w : Unit) => r = x_isEqual x y) (fun w => [])) := by
  refine Mt.of (own := RX0) (cc := cX0_isEqual) (by decide) rfl (Nat.le_of_ble_eq_true rfl) ?_
  intro p e s m below meth c A ls cx hr hlk hmn hA hl hw
  have hx := cx.1
  have hb := cx.2.1
  have hl : lv_has ls 2 [(0, .int x), (1, .int y)] := hl
  refine lv_iload_n hx hb dX0_isEqual_0 rfl (lv_at hl 0 rfl) ?_
  refine r_callS0I (As := [.int x]) (rest := []) cx hw hA (f_isNan l G x) ml_X0_36 st_X0_isNan in_X0 co_X0_isNan hd_X0_isNan rfl ⟨Nat.le_of_ble_eq_true rfl, Nat.le_of_ble_eq_true rfl⟩ hl.1 rfl (Nat.le_of_ble_eq_true rfl) dX0_isEqual_1 ⟨Nat.le_of_ble_eq_true rfl, Nat.le_of_ble_eq_true rfl⟩ (fun r2 H locs hr2 hw => ?_)
  refine lv_if_ne (tgt := 29) hx hb dX0_isEqual_4 (by decide) (fun c3 => ?_) (fun c3 => ?_)
  · refine lv_iconst (v := 0) hx hb dX0_isEqual_29 (by decide) ?_
    have hw : Wd G A [] s.heap _ _ := hw.sub [] rfl rfl
    exact r_zret cx hr rfl hlk () (by subst hr2; rw [x_isEqual_eq, if_neg c3]) hw (Nat.le_of_ble_eq_true rfl) (Nat.le_of_ble_eq_true rfl) dX0_isEqual_30
  · refine lv_iload_n hx hb dX0_isEqual_7 rfl (lv_at hl 1 rfl) ?_
    refine r_callS0I (As := [.int y]) (rest := []) cx hw hA (f_isNan l G y) ml_X0_36 st_X0_isNan in_X0 co_X0_isNan hd_X0_isNan rfl ⟨Nat.le_of_ble_eq_true rfl, Nat.le_of_ble_eq_true rfl⟩ hl.1 rfl (Nat.le_of_ble_eq_true rfl) dX0_isEqual_8 ⟨Nat.le_of_ble_eq_true rfl, Nat.le_of_ble_eq_true rfl⟩ (fun r5 H locs hr5 hw => ?_)
    refine lv_if_ne (tgt := 29) hx hb dX0_isEqual_11 (by decide) (fun c6 => ?_) (fun c6 => ?_)
    · refine lv_iconst (v := 0) hx hb dX0_isEqual_29 (by decide) ?_
      have hw : Wd G A [] s.heap _ _ := hw.sub [] rfl rfl
      exact r_zret cx hr rfl hlk () (by subst hr2 hr5; rw [x_isEqual_eq, if_pos c3, if_neg c6]) hw (Nat.le_of_ble_eq_true rfl) (Nat.le_of_ble_eq_true rfl) dX0_isEqual_30
    · refine lv_iload_n hx hb dX0_isEqual_14 rfl (lv_at hl 0 rfl) ?_
      refine r_callS0I (As := [.int x]) (rest := []) cx hw hA (f_ordered l G x) ml_X0_72 st_X0_ordered in_X0 co_X0_ordered hd_X0_ordered rfl ⟨Nat.le_of_ble_eq_true rfl, Nat.le_of_ble_eq_true rfl⟩ hl.1 rfl (Nat.le_of_ble_eq_true rfl) dX0_isEqual_15 ⟨Nat.le_of_ble_eq_true rfl, Nat.le_of_ble_eq_true rfl⟩ (fun r8 H locs hr8 hw => ?_)
      refine lv_iload_n hx hb dX0_isEqual_18 rfl (lv_at hl 1 rfl) ?_
      refine r_callS0I (As := [.int y]) (rest := [.int r8]) cx hw hA (f_ordered l G y) ml_X0_72 st_X0_ordered in_X0 co_X0_ordered hd_X0_ordered rfl ⟨Nat.le_of_ble_eq_true rfl, Nat.le_of_ble_eq_true rfl⟩ hl.1 rfl (Nat.le_of_ble_eq_true rfl) dX0_isEqual_19 ⟨Nat.le_of_ble_eq_true rfl, Nat.le_of_ble_eq_true rfl⟩ (fun r10 H locs hr10 hw => ?_)
      refine lv_icmp_ne (tgt := 29) hx hb dX0_isEqual_22 (by decide) (fun c11 => ?_) (fun c11 => ?_)
      · refine lv_iconst (v := 0) hx hb dX0_isEqual_29 (by decide) ?_
        have hw : Wd G A [] s.heap _ _ := hw.sub [] rfl rfl
        exact r_zret cx hr rfl hlk () (by subst hr2 hr5 hr8 hr10; rw [x_isEqual_eq, if_pos c3, if_pos c6, if_neg c11]) hw (Nat.le_of_ble_eq_true rfl) (Nat.le_of_ble_eq_true rfl) dX0_isEqual_30
      · refine lv_iconst (v := 1) hx hb dX0_isEqual_25 (by decide) ?_
        refine lv_goto (tgt := 30) hx hb dX0_isEqual_26 (by decide) ?_
        have hw : Wd G A [] s.heap _ _ := hw.sub [] rfl rfl
        exact r_zret cx hr rfl hlk () (by subst hr2 hr5 hr8 hr10; rw [x_isEqual_eq, if_pos c3, if_pos c6, if_pos c11]) hw (Nat.le_of_ble_eq_true rfl) (Nat.le_of_ble_eq_true rfl) dX0_isEqual_30

theorem x_rest_ex : ∃ f : Int32 → Int32 → Int32, ∀ (a : Int32) (b : Int32), f a b = (if b = (0 : Int32) then (0) else (if b = (-1 : Int32) then (0) else ((a - a / b * b)))) := ⟨fun (a : Int32) (b : Int32) => (if b = (0 : Int32) then (0) else (if b = (-1 : Int32) then (0) else ((a - a / b * b)))), fun _ _ => rfl⟩
noncomputable def x_rest : Int32 → Int32 → Int32 := Classical.choose x_rest_ex
theorem x_rest_eq (a : Int32) (b : Int32) : x_rest a b = (if b = (0 : Int32) then (0) else (if b = (-1 : Int32) then (0) else ((a - a / b * b)))) := Classical.choose_spec x_rest_ex a b
set_option maxHeartbeats 4000000 in
set_option maxRecDepth 100000 in
theorem f_rest (l : Launch) (G : Gt) (a : Int32) (b : Int32) : Mt l yX0_rest cX0_rest 2 (some .int) ({ frames := 0, cells := 0, slots := 0, locals := 0 } : Room) G [.int a, .int b] [] (qI G (fun (r : Int32) (w : Unit) => r = x_rest a b) (fun w => [])) := by
  refine Mt.of (own := RX0) (cc := cX0_rest) (by decide) rfl (Nat.le_of_ble_eq_true rfl) ?_
  intro p e s m below meth c A ls cx hr hlk hmn hA hl hw
  have hx := cx.1
  have hb := cx.2.1
  have hl : lv_has ls 2 [(0, .int a), (1, .int b)] := hl
  refine lv_iload_n hx hb dX0_rest_0 rfl (lv_at hl 1 rfl) ?_
  refine lv_if_eq (tgt := 9) hx hb dX0_rest_1 (by decide) (fun c1 => ?_) (fun c1 => ?_)
  · refine lv_iconst (v := 0) hx hb dX0_rest_9 (by decide) ?_
    refine lv_goto (tgt := 16) hx hb dX0_rest_10 (by decide) ?_
    have hw : Wd G A [] s.heap _ _ := hw.sub [] rfl rfl
    exact r_iret cx hr hlk () (by rw [x_rest_eq, if_pos c1]) hw (Nat.le_of_ble_eq_true rfl) (Nat.le_of_ble_eq_true rfl) dX0_rest_16
  · refine lv_iload_n hx hb dX0_rest_4 rfl (lv_at hl 1 rfl) ?_
    refine lv_iconst (v := (-1)) hx hb dX0_rest_5 (by decide) ?_
    refine lv_icmp_ne (tgt := 13) hx hb dX0_rest_6 (by decide) (fun c2 => ?_) (fun c2 => ?_)
    · refine lv_iload_n hx hb dX0_rest_13 rfl (lv_at hl 0 rfl) ?_
      refine lv_iload_n hx hb dX0_rest_14 rfl (lv_at hl 1 rfl) ?_
      refine lv_irem hx hb dX0_rest_15 c1 ?_
      refine lv_topi (fun v3 ev3 => ?_)
      have hw : Wd G A [] s.heap _ _ := hw.sub [] rfl rfl
      exact r_iret cx hr hlk () (by subst ev3; rw [x_rest_eq, if_neg c1, if_neg c2]) hw (Nat.le_of_ble_eq_true rfl) (Nat.le_of_ble_eq_true rfl) dX0_rest_16
    · refine lv_iconst (v := 0) hx hb dX0_rest_9 (by decide) ?_
      refine lv_goto (tgt := 16) hx hb dX0_rest_10 (by decide) ?_
      have hw : Wd G A [] s.heap _ _ := hw.sub [] rfl rfl
      exact r_iret cx hr hlk () (by rw [x_rest_eq, if_neg c1, if_pos c2]) hw (Nat.le_of_ble_eq_true rfl) (Nat.le_of_ble_eq_true rfl) dX0_rest_16

set_option maxHeartbeats 4000000 in
set_option maxRecDepth 100000 in
theorem f_kindF (l : Launch) (G : Gt) (k : Int32) : Mt l yX0_kind cX0_kind 2 (some .int) ({ frames := 0, cells := 0, slots := 0, locals := 0 } : Room) G [.long (x_make 1 k)] [] (qI G (fun (r : Int32) (w : Unit) => r = 1) (fun w => [])) := by
  refine Mt.of (own := RX0) (cc := cX0_kind) (by decide) rfl (Nat.le_of_ble_eq_true rfl) ?_
  intro p e s m below meth c A ls cx hr hlk hmn hA hl hw
  have hx := cx.1
  have hb := cx.2.1
  have hl : lv_has ls 2 [(0, .long (x_make 1 k))] := hl
  refine lv_lload_n hx hb dX0_kind_0 rfl (lv_at hl 0 rfl) ?_
  refine lv_bipush (v := 32) hx hb dX0_kind_1 (by decide) ?_
  refine lv_lushr hx hb dX0_kind_3 rfl ?_
  refine lv_topl (fun v1 ev1 => ?_)
  refine lv_l2i hx hb dX0_kind_4 rfl ?_
  refine lv_topi (fun v2 ev2 => ?_)
  have hw : Wd G A [] s.heap _ _ := hw.sub [] rfl rfl
  exact r_iret cx hr hlk () (by subst_vars; exact x_kind_make k) hw (Nat.le_of_ble_eq_true rfl) (Nat.le_of_ble_eq_true rfl) dX0_kind_5

set_option maxHeartbeats 4000000 in
set_option maxRecDepth 100000 in
theorem f_bitsF (l : Launch) (G : Gt) (k : Int32) : Mt l yX0_bits cX0_bits 2 (some .int) ({ frames := 0, cells := 0, slots := 0, locals := 0 } : Room) G [.long (x_make 1 k)] [] (qI G (fun (r : Int32) (w : Unit) => r = k) (fun w => [])) := by
  refine Mt.of (own := RX0) (cc := cX0_bits) (by decide) rfl (Nat.le_of_ble_eq_true rfl) ?_
  intro p e s m below meth c A ls cx hr hlk hmn hA hl hw
  have hx := cx.1
  have hb := cx.2.1
  have hl : lv_has ls 2 [(0, .long (x_make 1 k))] := hl
  refine lv_lload_n hx hb dX0_bits_0 rfl (lv_at hl 0 rfl) ?_
  refine lv_l2i hx hb dX0_bits_1 rfl ?_
  refine lv_topi (fun v1 ev1 => ?_)
  have hw : Wd G A [] s.heap _ _ := hw.sub [] rfl rfl
  exact r_iret cx hr hlk () (by subst_vars; exact x_bits_make k) hw (Nat.le_of_ble_eq_true rfl) (Nat.le_of_ble_eq_true rfl) dX0_bits_2

theorem x_floatBits_ex : ∃ f : Int32 → Int32, ∀ (k : Int32), f k = (if (x_isNan k) = (0 : Int32) then (k) else (2143289344)) := ⟨fun (k : Int32) => (if (x_isNan k) = (0 : Int32) then (k) else (2143289344)), fun _ => rfl⟩
noncomputable def x_floatBits : Int32 → Int32 := Classical.choose x_floatBits_ex
theorem x_floatBits_eq (k : Int32) : x_floatBits k = (if (x_isNan k) = (0 : Int32) then (k) else (2143289344)) := Classical.choose_spec x_floatBits_ex k
set_option maxHeartbeats 4000000 in
set_option maxRecDepth 100000 in
theorem f_floatBits (l : Launch) (G : Gt) (k : Int32) : Mt l yX0_floatBits cX0_floatBits 5 (some .int) ({ frames := 1, cells := 0, slots := 0, locals := 21 } : Room) G [.long (x_make 1 k)] [] (qI G (fun (r : Int32) (w : Unit) => r = x_floatBits k) (fun w => [])) := by
  refine Mt.of (own := RX0) (cc := cX0_floatBits) (by decide) rfl (Nat.le_of_ble_eq_true rfl) ?_
  intro p e s m below meth c A ls cx hr hlk hmn hA hl hw
  have hx := cx.1
  have hb := cx.2.1
  have hl : lv_has ls 5 [(0, .long (x_make 1 k))] := hl
  refine lv_lload_n hx hb dX0_floatBits_0 rfl (lv_at hl 0 rfl) ?_
  refine r_callS0I (As := [.long (x_make 1 k)]) (rest := []) cx hw hA (f_bitsF l G k) ml_X0_26 st_X0_bits in_X0 co_X0_bits hd_X0_bits rfl ⟨Nat.le_of_ble_eq_true rfl, Nat.le_of_ble_eq_true rfl⟩ hl.1 rfl (Nat.le_of_ble_eq_true rfl) dX0_floatBits_1 ⟨Nat.le_of_ble_eq_true rfl, Nat.le_of_ble_eq_true rfl⟩ (fun r2 H locs hr2 hw => ?_)
  have h9 := Eq.symm hr2
  subst h9
  refine lv_istore_n (lv' := [(2, .int k), (0, .long (x_make 1 k))]) hx hb dX0_floatBits_4 rfl hl (by decide) rfl (fun ls hl => ?_)
  refine lv_lload_n hx hb dX0_floatBits_5 rfl (lv_at hl 1 rfl) ?_
  refine r_callS0I (As := [.long (x_make 1 k)]) (rest := []) cx hw hA (f_kindF l G k) ml_X0_23 st_X0_kind in_X0 co_X0_kind hd_X0_kind rfl ⟨Nat.le_of_ble_eq_true rfl, Nat.le_of_ble_eq_true rfl⟩ hl.1 rfl (Nat.le_of_ble_eq_true rfl) dX0_floatBits_6 ⟨Nat.le_of_ble_eq_true rfl, Nat.le_of_ble_eq_true rfl⟩ (fun r4 H locs hr4 hw => ?_)
  subst hr4
  refine lv_iconst (v := 1) hx hb dX0_floatBits_9 (by decide) ?_
  refine lv_icmp_ne (tgt := 27) hx hb dX0_floatBits_10 (by decide) (fun c9 => absurd (by decide) c9) (fun _ => ?_)
  refine lv_iload_n hx hb dX0_floatBits_13 rfl (lv_at hl 0 rfl) ?_
  refine r_callS0I (As := [.int k]) (rest := []) cx hw hA (f_isNan l G k) ml_X0_36 st_X0_isNan in_X0 co_X0_isNan hd_X0_isNan rfl ⟨Nat.le_of_ble_eq_true rfl, Nat.le_of_ble_eq_true rfl⟩ hl.1 rfl (Nat.le_of_ble_eq_true rfl) dX0_floatBits_14 ⟨Nat.le_of_ble_eq_true rfl, Nat.le_of_ble_eq_true rfl⟩ (fun r6 H locs hr6 hw => ?_)
  refine lv_if_eq (tgt := 25) hx hb dX0_floatBits_17 (by decide) (fun c7 => ?_) (fun c7 => ?_)
  · refine lv_iload_n hx hb dX0_floatBits_25 rfl (lv_at hl 0 rfl) ?_
    have hw : Wd G A [] s.heap _ _ := hw.sub [] rfl rfl
    exact r_iret cx hr hlk () (by subst hr6; rw [x_floatBits_eq, if_pos c7]) hw (Nat.le_of_ble_eq_true rfl) (Nat.le_of_ble_eq_true rfl) dX0_floatBits_26
  · refine lv_ldc hx hb cx.2.2.2.1 (cx.2.2.2.2.1 _ cs_X0_47) dX0_floatBits_20 ?_
    refine lv_goto (tgt := 26) hx hb dX0_floatBits_22 (by decide) ?_
    have hw : Wd G A [] s.heap _ _ := hw.sub [] rfl rfl
    exact r_iret cx hr hlk () (by subst hr6; rw [x_floatBits_eq, if_neg c7]) hw (Nat.le_of_ble_eq_true rfl) (Nat.le_of_ble_eq_true rfl) dX0_floatBits_26

theorem x_nlz32_j1a_ex : ∃ f : Int32 → Int32, ∀ (x : Int32), f x = (if x < (65536 : Int32) then (x) else ((x.toUInt32 >>> ((16 : Int32).toUInt32 &&& Int32.toUInt32 31)).toInt32)) := ⟨fun (x : Int32) => (if x < (65536 : Int32) then (x) else ((x.toUInt32 >>> ((16 : Int32).toUInt32 &&& Int32.toUInt32 31)).toInt32)), fun _ => rfl⟩
noncomputable def x_nlz32_j1a : Int32 → Int32 := Classical.choose x_nlz32_j1a_ex
theorem x_nlz32_j1a_eq (x : Int32) : x_nlz32_j1a x = (if x < (65536 : Int32) then (x) else ((x.toUInt32 >>> ((16 : Int32).toUInt32 &&& Int32.toUInt32 31)).toInt32)) := Classical.choose_spec x_nlz32_j1a_ex x
theorem x_nlz32_j1b_ex : ∃ f : Int32 → Int32, ∀ (x : Int32), f x = (if x < (65536 : Int32) then (31 : Int32) else (15 : Int32)) := ⟨fun (x : Int32) => (if x < (65536 : Int32) then (31 : Int32) else (15 : Int32)), fun _ => rfl⟩
noncomputable def x_nlz32_j1b : Int32 → Int32 := Classical.choose x_nlz32_j1b_ex
theorem x_nlz32_j1b_eq (x : Int32) : x_nlz32_j1b x = (if x < (65536 : Int32) then (31 : Int32) else (15 : Int32)) := Classical.choose_spec x_nlz32_j1b_ex x
theorem x_nlz32_j2a_ex : ∃ f : Int32 → Int32, ∀ (x : Int32), f x = (if (x_nlz32_j1a x) < (256 : Int32) then ((x_nlz32_j1a x)) else (((x_nlz32_j1a x).toUInt32 >>> ((8 : Int32).toUInt32 &&& Int32.toUInt32 31)).toInt32)) := ⟨fun (x : Int32) => (if (x_nlz32_j1a x) < (256 : Int32) then ((x_nlz32_j1a x)) else (((x_nlz32_j1a x).toUInt32 >>> ((8 : Int32).toUInt32 &&& Int32.toUInt32 31)).toInt32)), fun _ => rfl⟩
noncomputable def x_nlz32_j2a : Int32 → Int32 := Classical.choose x_nlz32_j2a_ex
theorem x_nlz32_j2a_eq (x : Int32) : x_nlz32_j2a x = (if (x_nlz32_j1a x) < (256 : Int32) then ((x_nlz32_j1a x)) else (((x_nlz32_j1a x).toUInt32 >>> ((8 : Int32).toUInt32 &&& Int32.toUInt32 31)).toInt32)) := Classical.choose_spec x_nlz32_j2a_ex x
theorem x_nlz32_j2b_ex : ∃ f : Int32 → Int32, ∀ (x : Int32), f x = (if (x_nlz32_j1a x) < (256 : Int32) then ((x_nlz32_j1b x)) else (((x_nlz32_j1b x) + (-8)))) := ⟨fun (x : Int32) => (if (x_nlz32_j1a x) < (256 : Int32) then ((x_nlz32_j1b x)) else (((x_nlz32_j1b x) + (-8)))), fun _ => rfl⟩
noncomputable def x_nlz32_j2b : Int32 → Int32 := Classical.choose x_nlz32_j2b_ex
theorem x_nlz32_j2b_eq (x : Int32) : x_nlz32_j2b x = (if (x_nlz32_j1a x) < (256 : Int32) then ((x_nlz32_j1b x)) else (((x_nlz32_j1b x) + (-8)))) := Classical.choose_spec x_nlz32_j2b_ex x
theorem x_nlz32_j3a_ex : ∃ f : Int32 → Int32, ∀ (x : Int32), f x = (if (x_nlz32_j2a x) < (16 : Int32) then ((x_nlz32_j2a x)) else (((x_nlz32_j2a x).toUInt32 >>> ((4 : Int32).toUInt32 &&& Int32.toUInt32 31)).toInt32)) := ⟨fun (x : Int32) => (if (x_nlz32_j2a x) < (16 : Int32) then ((x_nlz32_j2a x)) else (((x_nlz32_j2a x).toUInt32 >>> ((4 : Int32).toUInt32 &&& Int32.toUInt32 31)).toInt32)), fun _ => rfl⟩
noncomputable def x_nlz32_j3a : Int32 → Int32 := Classical.choose x_nlz32_j3a_ex
theorem x_nlz32_j3a_eq (x : Int32) : x_nlz32_j3a x = (if (x_nlz32_j2a x) < (16 : Int32) then ((x_nlz32_j2a x)) else (((x_nlz32_j2a x).toUInt32 >>> ((4 : Int32).toUInt32 &&& Int32.toUInt32 31)).toInt32)) := Classical.choose_spec x_nlz32_j3a_ex x
theorem x_nlz32_j3b_ex : ∃ f : Int32 → Int32, ∀ (x : Int32), f x = (if (x_nlz32_j2a x) < (16 : Int32) then ((x_nlz32_j2b x)) else (((x_nlz32_j2b x) + (-4)))) := ⟨fun (x : Int32) => (if (x_nlz32_j2a x) < (16 : Int32) then ((x_nlz32_j2b x)) else (((x_nlz32_j2b x) + (-4)))), fun _ => rfl⟩
noncomputable def x_nlz32_j3b : Int32 → Int32 := Classical.choose x_nlz32_j3b_ex
theorem x_nlz32_j3b_eq (x : Int32) : x_nlz32_j3b x = (if (x_nlz32_j2a x) < (16 : Int32) then ((x_nlz32_j2b x)) else (((x_nlz32_j2b x) + (-4)))) := Classical.choose_spec x_nlz32_j3b_ex x
theorem x_nlz32_j4a_ex : ∃ f : Int32 → Int32, ∀ (x : Int32), f x = (if (x_nlz32_j3a x) < (4 : Int32) then ((x_nlz32_j3a x)) else (((x_nlz32_j3a x).toUInt32 >>> ((2 : Int32).toUInt32 &&& Int32.toUInt32 31)).toInt32)) := ⟨fun (x : Int32) => (if (x_nlz32_j3a x) < (4 : Int32) then ((x_nlz32_j3a x)) else (((x_nlz32_j3a x).toUInt32 >>> ((2 : Int32).toUInt32 &&& Int32.toUInt32 31)).toInt32)), fun _ => rfl⟩
noncomputable def x_nlz32_j4a : Int32 → Int32 := Classical.choose x_nlz32_j4a_ex
theorem x_nlz32_j4a_eq (x : Int32) : x_nlz32_j4a x = (if (x_nlz32_j3a x) < (4 : Int32) then ((x_nlz32_j3a x)) else (((x_nlz32_j3a x).toUInt32 >>> ((2 : Int32).toUInt32 &&& Int32.toUInt32 31)).toInt32)) := Classical.choose_spec x_nlz32_j4a_ex x
theorem x_nlz32_j4b_ex : ∃ f : Int32 → Int32, ∀ (x : Int32), f x = (if (x_nlz32_j3a x) < (4 : Int32) then ((x_nlz32_j3b x)) else (((x_nlz32_j3b x) + (-2)))) := ⟨fun (x : Int32) => (if (x_nlz32_j3a x) < (4 : Int32) then ((x_nlz32_j3b x)) else (((x_nlz32_j3b x) + (-2)))), fun _ => rfl⟩
noncomputable def x_nlz32_j4b : Int32 → Int32 := Classical.choose x_nlz32_j4b_ex
theorem x_nlz32_j4b_eq (x : Int32) : x_nlz32_j4b x = (if (x_nlz32_j3a x) < (4 : Int32) then ((x_nlz32_j3b x)) else (((x_nlz32_j3b x) + (-2)))) := Classical.choose_spec x_nlz32_j4b_ex x
theorem x_nlz32_ex : ∃ f : Int32 → Int32, ∀ (x : Int32), f x = (if (0 : Int32) < x then (((x_nlz32_j4b x) - ((x_nlz32_j4a x).toUInt32 >>> ((1 : Int32).toUInt32 &&& Int32.toUInt32 31)).toInt32)) else (if x = (0 : Int32) then (32) else (0))) := ⟨fun (x : Int32) => (if (0 : Int32) < x then (((x_nlz32_j4b x) - ((x_nlz32_j4a x).toUInt32 >>> ((1 : Int32).toUInt32 &&& Int32.toUInt32 31)).toInt32)) else (if x = (0 : Int32) then (32) else (0))), fun _ => rfl⟩
noncomputable def x_nlz32 : Int32 → Int32 := Classical.choose x_nlz32_ex
theorem x_nlz32_eq (x : Int32) : x_nlz32 x = (if (0 : Int32) < x then (((x_nlz32_j4b x) - ((x_nlz32_j4a x).toUInt32 >>> ((1 : Int32).toUInt32 &&& Int32.toUInt32 31)).toInt32)) else (if x = (0 : Int32) then (32) else (0))) := Classical.choose_spec x_nlz32_ex x
set_option maxHeartbeats 4000000 in
set_option maxRecDepth 100000 in
theorem f_nlz32 (l : Launch) (G : Gt) (x : Int32) : Mt l yJ6_numberOfLeadingZeros_0f7a4 cJ6_numberOfLeadingZeros_0f7a4 2 (some .int) ({ frames := 0, cells := 0, slots := 0, locals := 0 } : Room) G [.int x] [] (qI G (fun (r : Int32) (w : Unit) => r = x_nlz32 x) (fun w => [])) := by
  refine Mt.of (own := RJ6) (cc := cJ6_numberOfLeadingZeros_0f7a4) (by decide) rfl (Nat.le_of_ble_eq_true rfl) ?_
  intro p e s m below meth c A ls cx hr hlk hmn hA hl hw
  have hx := cx.1
  have hb := cx.2.1
  have hl : lv_has ls 2 [(0, .int x)] := hl
  refine lv_iload_n hx hb dJ6_numberOfLeadingZeros_0f7a4_0 rfl (lv_at hl 0 rfl) ?_
  refine lv_if_gt (tgt := 15) hx hb dJ6_numberOfLeadingZeros_0f7a4_1 (by decide) (fun c1 => ?_) (fun c1 => ?_)
  · refine lv_bipush (v := 31) hx hb dJ6_numberOfLeadingZeros_0f7a4_15 (by decide) ?_
    refine lv_istore_n (lv' := [(1, .int 31), (0, .int x)]) hx hb dJ6_numberOfLeadingZeros_0f7a4_17 rfl hl (by decide) rfl (fun ls hl => ?_)
    refine jn2 (E1 := (x_nlz32_j1a x)) (E2 := (x_nlz32_j1b x)) (pcJ := 33) (nL := 2) (lv := fun j1a j1b => [(0, .int j1a), (1, .int j1b)]) (sk := fun j1a j1b => []) (fun K1 => ?_) ?_
    · refine lv_iload_n hx hb dJ6_numberOfLeadingZeros_0f7a4_18 rfl (lv_at hl 1 rfl) ?_
      refine lv_ldcw hx hb cx.2.2.2.1 (cx.2.2.2.2.1 _ cs_J6_264) dJ6_numberOfLeadingZeros_0f7a4_19 ?_
      refine lv_icmp_lt (tgt := 33) hx hb dJ6_numberOfLeadingZeros_0f7a4_22 (by decide) (fun c2 => ?_) (fun c2 => ?_)
      · exact K1 x (31 : Int32) ls (by rw [x_nlz32_j1a_eq, if_pos c2]) (by rw [x_nlz32_j1b_eq, if_pos c2]) (lv_sub hl [1, 0] rfl)
      · refine lv_iinc (v := 15) (lv' := [(1, .int 15), (0, .int x)]) hx hb dJ6_numberOfLeadingZeros_0f7a4_25 hl (k := 0) rfl (by decide +kernel) (by decide) rfl (fun ls hl => ?_)
        refine lv_iload_n hx hb dJ6_numberOfLeadingZeros_0f7a4_28 rfl (lv_at hl 1 rfl) ?_
        refine lv_bipush (v := 16) hx hb dJ6_numberOfLeadingZeros_0f7a4_29 (by decide) ?_
        refine lv_iushr hx hb dJ6_numberOfLeadingZeros_0f7a4_31 rfl ?_
        refine lv_topi (fun v3 ev3 => ?_)
        refine lv_istore_n (lv' := [(0, .int v3), (1, .int 15)]) hx hb dJ6_numberOfLeadingZeros_0f7a4_32 rfl hl (by decide) rfl (fun ls hl => ?_)
        exact K1 v3 (15 : Int32) ls (by subst ev3; rw [x_nlz32_j1a_eq, if_neg c2]) (by subst ev3; rw [x_nlz32_j1b_eq, if_neg c2]) (lv_sub hl [0, 1] rfl)
    · intro j1a j1b ls ej1a ej1b hl
      refine jn2 (E1 := (x_nlz32_j2a x)) (E2 := (x_nlz32_j2b x)) (pcJ := 48) (nL := 2) (lv := fun j2a j2b => [(0, .int j2a), (1, .int j2b)]) (sk := fun j2a j2b => []) (fun K2 => ?_) ?_
      · refine lv_iload_n hx hb dJ6_numberOfLeadingZeros_0f7a4_33 rfl (lv_at hl 0 rfl) ?_
        refine lv_sipush (v := 256) hx hb dJ6_numberOfLeadingZeros_0f7a4_34 (by decide) ?_
        refine lv_icmp_lt (tgt := 48) hx hb dJ6_numberOfLeadingZeros_0f7a4_37 (by decide) (fun c4 => ?_) (fun c4 => ?_)
        · exact K2 j1a j1b ls (by subst ej1a ej1b; rw [x_nlz32_j2a_eq, if_pos c4]) (by subst ej1a ej1b; rw [x_nlz32_j2b_eq, if_pos c4]) (lv_sub hl [0, 1] rfl)
        · obtain ⟨v5, ev5⟩ : ∃ y : Int32, y = j1b + (-8) := ⟨_, rfl⟩
          refine lv_iinc (v := v5) (lv' := [(1, .int v5), (0, .int j1a)]) hx hb dJ6_numberOfLeadingZeros_0f7a4_40 hl (k := 1) rfl (by rw [ev5]; rfl) (by decide) rfl (fun ls hl => ?_)
          refine lv_iload_n hx hb dJ6_numberOfLeadingZeros_0f7a4_43 rfl (lv_at hl 1 rfl) ?_
          refine lv_bipush (v := 8) hx hb dJ6_numberOfLeadingZeros_0f7a4_44 (by decide) ?_
          refine lv_iushr hx hb dJ6_numberOfLeadingZeros_0f7a4_46 rfl ?_
          refine lv_topi (fun v6 ev6 => ?_)
          refine lv_istore_n (lv' := [(0, .int v6), (1, .int v5)]) hx hb dJ6_numberOfLeadingZeros_0f7a4_47 rfl hl (by decide) rfl (fun ls hl => ?_)
          exact K2 v6 v5 ls (by subst ej1a ej1b ev5 ev6; rw [x_nlz32_j2a_eq, if_neg c4]) (by subst ej1a ej1b ev5 ev6; rw [x_nlz32_j2b_eq, if_neg c4]) (lv_sub hl [0, 1] rfl)
      · intro j2a j2b ls ej2a ej2b hl
        refine jn2 (E1 := (x_nlz32_j3a x)) (E2 := (x_nlz32_j3b x)) (pcJ := 61) (nL := 2) (lv := fun j3a j3b => [(0, .int j3a), (1, .int j3b)]) (sk := fun j3a j3b => []) (fun K3 => ?_) ?_
        · refine lv_iload_n hx hb dJ6_numberOfLeadingZeros_0f7a4_48 rfl (lv_at hl 0 rfl) ?_
          refine lv_bipush (v := 16) hx hb dJ6_numberOfLeadingZeros_0f7a4_49 (by decide) ?_
          refine lv_icmp_lt (tgt := 61) hx hb dJ6_numberOfLeadingZeros_0f7a4_51 (by decide) (fun c7 => ?_) (fun c7 => ?_)
          · exact K3 j2a j2b ls (by subst ej1a ej1b ej2a ej2b; rw [x_nlz32_j3a_eq, if_pos c7]) (by subst ej1a ej1b ej2a ej2b; rw [x_nlz32_j3b_eq, if_pos c7]) (lv_sub hl [0, 1] rfl)
          · obtain ⟨v8, ev8⟩ : ∃ y : Int32, y = j2b + (-4) := ⟨_, rfl⟩
            refine lv_iinc (v := v8) (lv' := [(1, .int v8), (0, .int j2a)]) hx hb dJ6_numberOfLeadingZeros_0f7a4_54 hl (k := 1) rfl (by rw [ev8]; rfl) (by decide) rfl (fun ls hl => ?_)
            refine lv_iload_n hx hb dJ6_numberOfLeadingZeros_0f7a4_57 rfl (lv_at hl 1 rfl) ?_
            refine lv_iconst (v := 4) hx hb dJ6_numberOfLeadingZeros_0f7a4_58 (by decide) ?_
            refine lv_iushr hx hb dJ6_numberOfLeadingZeros_0f7a4_59 rfl ?_
            refine lv_topi (fun v9 ev9 => ?_)
            refine lv_istore_n (lv' := [(0, .int v9), (1, .int v8)]) hx hb dJ6_numberOfLeadingZeros_0f7a4_60 rfl hl (by decide) rfl (fun ls hl => ?_)
            exact K3 v9 v8 ls (by subst ej1a ej1b ej2a ej2b ev8 ev9; rw [x_nlz32_j3a_eq, if_neg c7]) (by subst ej1a ej1b ej2a ej2b ev8 ev9; rw [x_nlz32_j3b_eq, if_neg c7]) (lv_sub hl [0, 1] rfl)
        · intro j3a j3b ls ej3a ej3b hl
          refine jn2 (E1 := (x_nlz32_j4a x)) (E2 := (x_nlz32_j4b x)) (pcJ := 73) (nL := 2) (lv := fun j4a j4b => [(0, .int j4a), (1, .int j4b)]) (sk := fun j4a j4b => []) (fun K4 => ?_) ?_
          · refine lv_iload_n hx hb dJ6_numberOfLeadingZeros_0f7a4_61 rfl (lv_at hl 0 rfl) ?_
            refine lv_iconst (v := 4) hx hb dJ6_numberOfLeadingZeros_0f7a4_62 (by decide) ?_
            refine lv_icmp_lt (tgt := 73) hx hb dJ6_numberOfLeadingZeros_0f7a4_63 (by decide) (fun c10 => ?_) (fun c10 => ?_)
            · exact K4 j3a j3b ls (by subst ej1a ej1b ej2a ej2b ej3a ej3b; rw [x_nlz32_j4a_eq, if_pos c10]) (by subst ej1a ej1b ej2a ej2b ej3a ej3b; rw [x_nlz32_j4b_eq, if_pos c10]) (lv_sub hl [0, 1] rfl)
            · obtain ⟨v11, ev11⟩ : ∃ y : Int32, y = j3b + (-2) := ⟨_, rfl⟩
              refine lv_iinc (v := v11) (lv' := [(1, .int v11), (0, .int j3a)]) hx hb dJ6_numberOfLeadingZeros_0f7a4_66 hl (k := 1) rfl (by rw [ev11]; rfl) (by decide) rfl (fun ls hl => ?_)
              refine lv_iload_n hx hb dJ6_numberOfLeadingZeros_0f7a4_69 rfl (lv_at hl 1 rfl) ?_
              refine lv_iconst (v := 2) hx hb dJ6_numberOfLeadingZeros_0f7a4_70 (by decide) ?_
              refine lv_iushr hx hb dJ6_numberOfLeadingZeros_0f7a4_71 rfl ?_
              refine lv_topi (fun v12 ev12 => ?_)
              refine lv_istore_n (lv' := [(0, .int v12), (1, .int v11)]) hx hb dJ6_numberOfLeadingZeros_0f7a4_72 rfl hl (by decide) rfl (fun ls hl => ?_)
              exact K4 v12 v11 ls (by subst ej1a ej1b ej2a ej2b ej3a ej3b ev11 ev12; rw [x_nlz32_j4a_eq, if_neg c10]) (by subst ej1a ej1b ej2a ej2b ej3a ej3b ev11 ev12; rw [x_nlz32_j4b_eq, if_neg c10]) (lv_sub hl [0, 1] rfl)
          · intro j4a j4b ls ej4a ej4b hl
            refine lv_iload_n hx hb dJ6_numberOfLeadingZeros_0f7a4_73 rfl (lv_at hl 1 rfl) ?_
            refine lv_iload_n hx hb dJ6_numberOfLeadingZeros_0f7a4_74 rfl (lv_at hl 0 rfl) ?_
            refine lv_iconst (v := 1) hx hb dJ6_numberOfLeadingZeros_0f7a4_75 (by decide) ?_
            refine lv_iushr hx hb dJ6_numberOfLeadingZeros_0f7a4_76 rfl ?_
            refine lv_topi (fun v13 ev13 => ?_)
            refine lv_isub hx hb dJ6_numberOfLeadingZeros_0f7a4_77 ?_
            refine lv_topi (fun v14 ev14 => ?_)
            have hw : Wd G A [] s.heap _ _ := hw.sub [] rfl rfl
            exact r_iret cx hr hlk () (by subst ej1a ej1b ej2a ej2b ej3a ej3b ej4a ej4b ev13 ev14; rw [x_nlz32_eq, if_pos c1]) hw (Nat.le_of_ble_eq_true rfl) (Nat.le_of_ble_eq_true rfl) dJ6_numberOfLeadingZeros_0f7a4_78
  · refine lv_iload_n hx hb dJ6_numberOfLeadingZeros_0f7a4_4 rfl (lv_at hl 0 rfl) ?_
    refine lv_if_ne (tgt := 13) hx hb dJ6_numberOfLeadingZeros_0f7a4_5 (by decide) (fun c15 => ?_) (fun c15 => ?_)
    · refine lv_iconst (v := 0) hx hb dJ6_numberOfLeadingZeros_0f7a4_13 (by decide) ?_
      have hw : Wd G A [] s.heap _ _ := hw.sub [] rfl rfl
      exact r_iret cx hr hlk () (by rw [x_nlz32_eq, if_neg c1, if_neg c15]) hw (Nat.le_of_ble_eq_true rfl) (Nat.le_of_ble_eq_true rfl) dJ6_numberOfLeadingZeros_0f7a4_14
    · refine lv_bipush (v := 32) hx hb dJ6_numberOfLeadingZeros_0f7a4_8 (by decide) ?_
      refine lv_goto (tgt := 14) hx hb dJ6_numberOfLeadingZeros_0f7a4_10 (by decide) ?_
      have hw : Wd G A [] s.heap _ _ := hw.sub [] rfl rfl
      exact r_iret cx hr hlk () (by rw [x_nlz32_eq, if_neg c1, if_pos c15]) hw (Nat.le_of_ble_eq_true rfl) (Nat.le_of_ble_eq_true rfl) dJ6_numberOfLeadingZeros_0f7a4_14

theorem x_nlz64_ex : ∃ f : Int64 → Int32, ∀ (x : Int64), f x = (if (x.toUInt64 >>> ((32 : Int32).toInt64.toUInt64 &&& Int64.toUInt64 63)).toInt64.toInt32 = (0 : Int32) then (((32 : Int32) + (x_nlz32 x.toInt32))) else ((x_nlz32 (x.toUInt64 >>> ((32 : Int32).toInt64.toUInt64 &&& Int64.toUInt64 63)).toInt64.toInt32))) := ⟨fun (x : Int64) => (if (x.toUInt64 >>> ((32 : Int32).toInt64.toUInt64 &&& Int64.toUInt64 63)).toInt64.toInt32 = (0 : Int32) then (((32 : Int32) + (x_nlz32 x.toInt32))) else ((x_nlz32 (x.toUInt64 >>> ((32 : Int32).toInt64.toUInt64 &&& Int64.toUInt64 63)).toInt64.toInt32))), fun _ => rfl⟩
noncomputable def x_nlz64 : Int64 → Int32 := Classical.choose x_nlz64_ex
theorem x_nlz64_eq (x : Int64) : x_nlz64 x = (if (x.toUInt64 >>> ((32 : Int32).toInt64.toUInt64 &&& Int64.toUInt64 63)).toInt64.toInt32 = (0 : Int32) then (((32 : Int32) + (x_nlz32 x.toInt32))) else ((x_nlz32 (x.toUInt64 >>> ((32 : Int32).toInt64.toUInt64 &&& Int64.toUInt64 63)).toInt64.toInt32))) := Classical.choose_spec x_nlz64_ex x
set_option maxHeartbeats 4000000 in
set_option maxRecDepth 100000 in
theorem f_nlz64 (l : Launch) (G : Gt) (x : Int64) : Mt l yJ13_numberOfLeadingZeros_95d88 cJ13_numberOfLeadingZeros_95d88 3 (some .int) ({ frames := 1, cells := 0, slots := 0, locals := 21 } : Room) G [.long x] [] (qI G (fun (r : Int32) (w : Unit) => r = x_nlz64 x) (fun w => [])) := by
  refine Mt.of (own := RJ13) (cc := cJ13_numberOfLeadingZeros_95d88) (by decide) rfl (Nat.le_of_ble_eq_true rfl) ?_
  intro p e s m below meth c A ls cx hr hlk hmn hA hl hw
  have hx := cx.1
  have hb := cx.2.1
  have hl : lv_has ls 3 [(0, .long x)] := hl
  refine lv_lload_n hx hb dJ13_numberOfLeadingZeros_95d88_0 rfl (lv_at hl 0 rfl) ?_
  refine lv_bipush (v := 32) hx hb dJ13_numberOfLeadingZeros_95d88_1 (by decide) ?_
  refine lv_lushr hx hb dJ13_numberOfLeadingZeros_95d88_3 rfl ?_
  refine lv_topl (fun v1 ev1 => ?_)
  refine lv_l2i hx hb dJ13_numberOfLeadingZeros_95d88_4 rfl ?_
  refine lv_topi (fun v2 ev2 => ?_)
  refine lv_istore_n (lv' := [(2, .int v2), (0, .long x)]) hx hb dJ13_numberOfLeadingZeros_95d88_5 rfl hl (by decide) rfl (fun ls hl => ?_)
  refine lv_iload_n hx hb dJ13_numberOfLeadingZeros_95d88_6 rfl (lv_at hl 0 rfl) ?_
  refine lv_if_ne (tgt := 21) hx hb dJ13_numberOfLeadingZeros_95d88_7 (by decide) (fun c3 => ?_) (fun c3 => ?_)
  · refine lv_iload_n hx hb dJ13_numberOfLeadingZeros_95d88_21 rfl (lv_at hl 0 rfl) ?_
    refine r_callS0I (As := [.int v2]) (rest := []) cx hw hA (f_nlz32 l G v2) ml_J13_308 st_J6_numberOfLeadingZeros_0f7a4 in_J6 co_J6_numberOfLeadingZeros_0f7a4 hd_J6_numberOfLeadingZeros_0f7a4 rfl ⟨Nat.le_of_ble_eq_true rfl, Nat.le_of_ble_eq_true rfl⟩ hl.1 rfl (Nat.le_of_ble_eq_true rfl) dJ13_numberOfLeadingZeros_95d88_22 ⟨Nat.le_of_ble_eq_true rfl, Nat.le_of_ble_eq_true rfl⟩ (fun r5 H locs hr5 hw => ?_)
    have hw : Wd G A [] s.heap _ _ := hw.sub [] rfl rfl
    exact r_iret cx hr hlk () (by subst ev1 ev2 hr5; rw [x_nlz64_eq, if_neg c3]) hw (Nat.le_of_ble_eq_true rfl) (Nat.le_of_ble_eq_true rfl) dJ13_numberOfLeadingZeros_95d88_25
  · refine lv_bipush (v := 32) hx hb dJ13_numberOfLeadingZeros_95d88_10 (by decide) ?_
    refine lv_lload_n hx hb dJ13_numberOfLeadingZeros_95d88_12 rfl (lv_at hl 1 rfl) ?_
    refine lv_l2i hx hb dJ13_numberOfLeadingZeros_95d88_13 rfl ?_
    refine lv_topi (fun v6 ev6 => ?_)
    refine r_callS0I (As := [.int v6]) (rest := [.int 32]) cx hw hA (f_nlz32 l G v6) ml_J13_308 st_J6_numberOfLeadingZeros_0f7a4 in_J6 co_J6_numberOfLeadingZeros_0f7a4 hd_J6_numberOfLeadingZeros_0f7a4 rfl ⟨Nat.le_of_ble_eq_true rfl, Nat.le_of_ble_eq_true rfl⟩ hl.1 rfl (Nat.le_of_ble_eq_true rfl) dJ13_numberOfLeadingZeros_95d88_14 ⟨Nat.le_of_ble_eq_true rfl, Nat.le_of_ble_eq_true rfl⟩ (fun r8 H locs hr8 hw => ?_)
    refine lv_iadd hx hb dJ13_numberOfLeadingZeros_95d88_17 ?_
    refine lv_topi (fun v9 ev9 => ?_)
    refine lv_goto (tgt := 25) hx hb dJ13_numberOfLeadingZeros_95d88_18 (by decide) ?_
    have hw : Wd G A [] s.heap _ _ := hw.sub [] rfl rfl
    exact r_iret cx hr hlk () (by subst ev1 ev2 ev6 hr8 ev9; rw [x_nlz64_eq, if_pos c3]) hw (Nat.le_of_ble_eq_true rfl) (Nat.le_of_ble_eq_true rfl) dJ13_numberOfLeadingZeros_95d88_25

set_option maxHeartbeats 4000000 in
set_option maxRecDepth 100000 in
theorem f_bits0 (l : Launch) (G : Gt) (k : Int32) : Mt l yX0_bits cX0_bits 2 (some .int) ({ frames := 0, cells := 0, slots := 0, locals := 0 } : Room) G [.long (x_make 0 k)] [] (qI G (fun (r : Int32) (w : Unit) => r = k) (fun w => [])) := by
  refine Mt.of (own := RX0) (cc := cX0_bits) (by decide) rfl (Nat.le_of_ble_eq_true rfl) ?_
  intro p e s m below meth c A ls cx hr hlk hmn hA hl hw
  have hx := cx.1
  have hb := cx.2.1
  have hl : lv_has ls 2 [(0, .long (x_make 0 k))] := hl
  refine lv_lload_n hx hb dX0_bits_0 rfl (lv_at hl 0 rfl) ?_
  refine lv_l2i hx hb dX0_bits_1 rfl ?_
  refine lv_topi (fun v1 ev1 => ?_)
  have hw : Wd G A [] s.heap _ _ := hw.sub [] rfl rfl
  exact r_iret cx hr hlk () (by subst_vars; exact x_bits_make0 k) hw (Nat.le_of_ble_eq_true rfl) (Nat.le_of_ble_eq_true rfl) dX0_bits_2
