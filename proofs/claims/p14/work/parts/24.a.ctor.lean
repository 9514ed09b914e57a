set_option maxHeartbeats 4000000 in
set_option maxRecDepth 100000 in
theorem c_Pat30 (l : Launch) (G : Gt) (h0 : Nat) : Mt l yX2_init cX2_init 2 none ({ frames := 1, cells := 2, slots := 60, locals := 12 } : Room) G [.ref h0, .int 30] [(h0, ob 1 [.null, .null, .int 0, .int 0])] (qV G (fun (w : Nat → Nat) => True) (fun w => [(h0, ob 1 [.ref (w 0), .ref (w 1), .int 0, .int 0]), (w 0, aJ G 30 (fun _ => 0)), (w 1, aJ G 30 (fun _ => 0))])) := by
  refine Mt.of (own := RX2) (cc := cX2_init) (by decide) rfl (Nat.le_of_ble_eq_true rfl) ?_
  intro p e s m below meth c A ls cx hr hlk hmn hA hl hw
  have hx := cx.1
  have hb := cx.2.1
  have hl : lv_has ls 2 [(0, .ref h0), (1, .int 30)] := hl
  refine lv_aload_n hx hb dX2_init_0 rfl (lv_at hl 0 rfl) ?_
  refine r_objInit cx ml_X2_3 hl.1 dX2_init_1 (Nat.le_of_ble_eq_true rfl) (Nat.le_of_ble_eq_true rfl) ?_
  refine lv_aload_n hx hb dX2_init_4 rfl (lv_at hl 0 rfl) ?_
  refine lv_iload_n hx hb dX2_init_5 rfl (lv_at hl 1 rfl) ?_
  refine r_newJ cx hw hA (N' := 30) (by decide +kernel) (by decide +kernel) (Nat.le_of_ble_eq_true rfl) (Nat.le_of_ble_eq_true rfl) (Nat.le_of_ble_eq_true rfl) dX2_init_6 (fun q1 H hw => ?_)
  have hw : Wd G A [(h0, ob 1 [.null, .null, .int 0, .int 0]), (q1, aJ G 30 (fun _ => 0))] s.heap _ _ := hw
  refine r_putF cx hw inX2 (ci := 1) rfl tyX2_ok nmX2 hmn 0 rfl 0 (by decide) fl_X2_9 rfl rfl rfl rfl (Nat.le_of_ble_eq_true rfl) (ws' := [(h0, ob 1 [.ref q1, .null, .int 0, .int 0]), (q1, aJ G 30 (fun _ => 0))]) rfl dX2_init_8 (fun H locs hw => ?_)
  refine lv_aload_n hx hb dX2_init_11 rfl (lv_at hl 0 rfl) ?_
  refine lv_iload_n hx hb dX2_init_12 rfl (lv_at hl 1 rfl) ?_
  refine r_newJ cx hw hA (N' := 30) (by decide +kernel) (by decide +kernel) (Nat.le_of_ble_eq_true rfl) (Nat.le_of_ble_eq_true rfl) (Nat.le_of_ble_eq_true rfl) dX2_init_13 (fun q2 H hw => ?_)
  have hw : Wd G A [(h0, ob 1 [.ref q1, .null, .int 0, .int 0]), (q1, aJ G 30 (fun _ => 0)), (q2, aJ G 30 (fun _ => 0))] s.heap _ _ := hw
  refine r_putF cx hw inX2 (ci := 1) rfl tyX2_ok nmX2 hmn 0 rfl 1 (by decide) fl_X2_15 rfl rfl rfl rfl (Nat.le_of_ble_eq_true rfl) (ws' := [(h0, ob 1 [.ref q1, .ref q2, .int 0, .int 0]), (q1, aJ G 30 (fun _ => 0)), (q2, aJ G 30 (fun _ => 0))]) rfl dX2_init_15 (fun H locs hw => ?_)
  refine lv_aload_n hx hb dX2_init_18 rfl (lv_at hl 0 rfl) ?_
  refine lv_iconst (v := 0) hx hb dX2_init_19 (by decide) ?_
  refine r_put cx hw inX2 (ci := 1) rfl tyX2_ok nmX2 0 rfl 2 (by decide) fl_X2_18 rfl rfl rfl (Nat.le_of_ble_eq_true rfl) (ws' := [(h0, ob 1 [.ref q1, .ref q2, .int 0, .int 0]), (q1, aJ G 30 (fun _ => 0)), (q2, aJ G 30 (fun _ => 0))]) rfl dX2_init_20 (fun H locs hw => ?_)
  refine lv_aload_n hx hb dX2_init_23 rfl (lv_at hl 0 rfl) ?_
  refine lv_iconst (v := 0) hx hb dX2_init_24 (by decide) ?_
  refine r_put cx hw inX2 (ci := 1) rfl tyX2_ok nmX2 0 rfl 3 (by decide) fl_X2_22 rfl rfl rfl (Nat.le_of_ble_eq_true rfl) (ws' := [(h0, ob 1 [.ref q1, .ref q2, .int 0, .int 0]), (q1, aJ G 30 (fun _ => 0)), (q2, aJ G 30 (fun _ => 0))]) rfl dX2_init_25 (fun H locs hw => ?_)
  have hw : Wd G A [(h0, ob 1 [.ref q1, .ref q2, .int 0, .int 0]), (q1, aJ G 30 (fun _ => 0)), (q2, aJ G 30 (fun _ => 0))] s.heap _ _ := hw.sub [0, 1, 2] rfl rfl
  exact r_vret cx hr hlk (fun k => [q1, q2].getD k 0) trivial hw (Nat.le_of_ble_eq_true rfl) (Nat.le_of_ble_eq_true rfl) dX2_init_28

set_option maxHeartbeats 4000000 in
set_option maxRecDepth 100000 in
theorem c_Pat40 (l : Launch) (G : Gt) (h0 : Nat) : Mt l yX2_init cX2_init 2 none ({ frames := 1, cells := 2, slots := 80, locals := 12 } : Room) G [.ref h0, .int 40] [(h0, ob 1 [.null, .null, .int 0, .int 0])] (qV G (fun (w : Nat → Nat) => True) (fun w => [(h0, ob 1 [.ref (w 0), .ref (w 1), .int 0, .int 0]), (w 0, aJ G 40 (fun _ => 0)), (w 1, aJ G 40 (fun _ => 0))])) := by
  refine Mt.of (own := RX2) (cc := cX2_init) (by decide) rfl (Nat.le_of_ble_eq_true rfl) ?_
  intro p e s m below meth c A ls cx hr hlk hmn hA hl hw
  have hx := cx.1
  have hb := cx.2.1
  have hl : lv_has ls 2 [(0, .ref h0), (1, .int 40)] := hl
  refine lv_aload_n hx hb dX2_init_0 rfl (lv_at hl 0 rfl) ?_
  refine r_objInit cx ml_X2_3 hl.1 dX2_init_1 (Nat.le_of_ble_eq_true rfl) (Nat.le_of_ble_eq_true rfl) ?_
  refine lv_aload_n hx hb dX2_init_4 rfl (lv_at hl 0 rfl) ?_
  refine lv_iload_n hx hb dX2_init_5 rfl (lv_at hl 1 rfl) ?_
  refine r_newJ cx hw hA (N' := 40) (by decide +kernel) (by decide +kernel) (Nat.le_of_ble_eq_true rfl) (Nat.le_of_ble_eq_true rfl) (Nat.le_of_ble_eq_true rfl) dX2_init_6 (fun q1 H hw => ?_)
  have hw : Wd G A [(h0, ob 1 [.null, .null, .int 0, .int 0]), (q1, aJ G 40 (fun _ => 0))] s.heap _ _ := hw
  refine r_putF cx hw inX2 (ci := 1) rfl tyX2_ok nmX2 hmn 0 rfl 0 (by decide) fl_X2_9 rfl rfl rfl rfl (Nat.le_of_ble_eq_true rfl) (ws' := [(h0, ob 1 [.ref q1, .null, .int 0, .int 0]), (q1, aJ G 40 (fun _ => 0))]) rfl dX2_init_8 (fun H locs hw => ?_)
  refine lv_aload_n hx hb dX2_init_11 rfl (lv_at hl 0 rfl) ?_
  refine lv_iload_n hx hb dX2_init_12 rfl (lv_at hl 1 rfl) ?_
  refine r_newJ cx hw hA (N' := 40) (by decide +kernel) (by decide +kernel) (Nat.le_of_ble_eq_true rfl) (Nat.le_of_ble_eq_true rfl) (Nat.le_of_ble_eq_true rfl) dX2_init_13 (fun q2 H hw => ?_)
  have hw : Wd G A [(h0, ob 1 [.ref q1, .null, .int 0, .int 0]), (q1, aJ G 40 (fun _ => 0)), (q2, aJ G 40 (fun _ => 0))] s.heap _ _ := hw
  refine r_putF cx hw inX2 (ci := 1) rfl tyX2_ok nmX2 hmn 0 rfl 1 (by decide) fl_X2_15 rfl rfl rfl rfl (Nat.le_of_ble_eq_true rfl) (ws' := [(h0, ob 1 [.ref q1, .ref q2, .int 0, .int 0]), (q1, aJ G 40 (fun _ => 0)), (q2, aJ G 40 (fun _ => 0))]) rfl dX2_init_15 (fun H locs hw => ?_)
  refine lv_aload_n hx hb dX2_init_18 rfl (lv_at hl 0 rfl) ?_
  refine lv_iconst (v := 0) hx hb dX2_init_19 (by decide) ?_
  refine r_put cx hw inX2 (ci := 1) rfl tyX2_ok nmX2 0 rfl 2 (by decide) fl_X2_18 rfl rfl rfl (Nat.le_of_ble_eq_true rfl) (ws' := [(h0, ob 1 [.ref q1, .ref q2, .int 0, .int 0]), (q1, aJ G 40 (fun _ => 0)), (q2, aJ G 40 (fun _ => 0))]) rfl dX2_init_20 (fun H locs hw => ?_)
  refine lv_aload_n hx hb dX2_init_23 rfl (lv_at hl 0 rfl) ?_
  refine lv_iconst (v := 0) hx hb dX2_init_24 (by decide) ?_
  refine r_put cx hw inX2 (ci := 1) rfl tyX2_ok nmX2 0 rfl 3 (by decide) fl_X2_22 rfl rfl rfl (Nat.le_of_ble_eq_true rfl) (ws' := [(h0, ob 1 [.ref q1, .ref q2, .int 0, .int 0]), (q1, aJ G 40 (fun _ => 0)), (q2, aJ G 40 (fun _ => 0))]) rfl dX2_init_25 (fun H locs hw => ?_)
  have hw : Wd G A [(h0, ob 1 [.ref q1, .ref q2, .int 0, .int 0]), (q1, aJ G 40 (fun _ => 0)), (q2, aJ G 40 (fun _ => 0))] s.heap _ _ := hw.sub [0, 1, 2] rfl rfl
  exact r_vret cx hr hlk (fun k => [q1, q2].getD k 0) trivial hw (Nat.le_of_ble_eq_true rfl) (Nat.le_of_ble_eq_true rfl) dX2_init_28

set_option maxHeartbeats 4000000 in
set_option maxRecDepth 100000 in
theorem c_Pat200 (l : Launch) (G : Gt) (h0 : Nat) : Mt l yX2_init cX2_init 2 none ({ frames := 1, cells := 2, slots := 400, locals := 12 } : Room) G [.ref h0, .int 200] [(h0, ob 1 [.null, .null, .int 0, .int 0])] (qV G (fun (w : Nat → Nat) => True) (fun w => [(h0, ob 1 [.ref (w 0), .ref (w 1), .int 0, .int 0]), (w 0, aJ G 200 (fun _ => 0)), (w 1, aJ G 200 (fun _ => 0))])) := by
  refine Mt.of (own := RX2) (cc := cX2_init) (by decide) rfl (Nat.le_of_ble_eq_true rfl) ?_
  intro p e s m below meth c A ls cx hr hlk hmn hA hl hw
  have hx := cx.1
  have hb := cx.2.1
  have hl : lv_has ls 2 [(0, .ref h0), (1, .int 200)] := hl
  refine lv_aload_n hx hb dX2_init_0 rfl (lv_at hl 0 rfl) ?_
  refine r_objInit cx ml_X2_3 hl.1 dX2_init_1 (Nat.le_of_ble_eq_true rfl) (Nat.le_of_ble_eq_true rfl) ?_
  refine lv_aload_n hx hb dX2_init_4 rfl (lv_at hl 0 rfl) ?_
  refine lv_iload_n hx hb dX2_init_5 rfl (lv_at hl 1 rfl) ?_
  refine r_newJ cx hw hA (N' := 200) (by decide +kernel) (by decide +kernel) (Nat.le_of_ble_eq_true rfl) (Nat.le_of_ble_eq_true rfl) (Nat.le_of_ble_eq_true rfl) dX2_init_6 (fun q1 H hw => ?_)
  have hw : Wd G A [(h0, ob 1 [.null, .null, .int 0, .int 0]), (q1, aJ G 200 (fun _ => 0))] s.heap _ _ := hw
  refine r_putF cx hw inX2 (ci := 1) rfl tyX2_ok nmX2 hmn 0 rfl 0 (by decide) fl_X2_9 rfl rfl rfl rfl (Nat.le_of_ble_eq_true rfl) (ws' := [(h0, ob 1 [.ref q1, .null, .int 0, .int 0]), (q1, aJ G 200 (fun _ => 0))]) rfl dX2_init_8 (fun H locs hw => ?_)
  refine lv_aload_n hx hb dX2_init_11 rfl (lv_at hl 0 rfl) ?_
  refine lv_iload_n hx hb dX2_init_12 rfl (lv_at hl 1 rfl) ?_
  refine r_newJ cx hw hA (N' := 200) (by decide +kernel) (by decide +kernel) (Nat.le_of_ble_eq_true rfl) (Nat.le_of_ble_eq_true rfl) (Nat.le_of_ble_eq_true rfl) dX2_init_13 (fun q2 H hw => ?_)
  have hw : Wd G A [(h0, ob 1 [.ref q1, .null, .int 0, .int 0]), (q1, aJ G 200 (fun _ => 0)), (q2, aJ G 200 (fun _ => 0))] s.heap _ _ := hw
  refine r_putF cx hw inX2 (ci := 1) rfl tyX2_ok nmX2 hmn 0 rfl 1 (by decide) fl_X2_15 rfl rfl rfl rfl (Nat.le_of_ble_eq_true rfl) (ws' := [(h0, ob 1 [.ref q1, .ref q2, .int 0, .int 0]), (q1, aJ G 200 (fun _ => 0)), (q2, aJ G 200 (fun _ => 0))]) rfl dX2_init_15 (fun H locs hw => ?_)
  refine lv_aload_n hx hb dX2_init_18 rfl (lv_at hl 0 rfl) ?_
  refine lv_iconst (v := 0) hx hb dX2_init_19 (by decide) ?_
  refine r_put cx hw inX2 (ci := 1) rfl tyX2_ok nmX2 0 rfl 2 (by decide) fl_X2_18 rfl rfl rfl (Nat.le_of_ble_eq_true rfl) (ws' := [(h0, ob 1 [.ref q1, .ref q2, .int 0, .int 0]), (q1, aJ G 200 (fun _ => 0)), (q2, aJ G 200 (fun _ => 0))]) rfl dX2_init_20 (fun H locs hw => ?_)
  refine lv_aload_n hx hb dX2_init_23 rfl (lv_at hl 0 rfl) ?_
  refine lv_iconst (v := 0) hx hb dX2_init_24 (by decide) ?_
  refine r_put cx hw inX2 (ci := 1) rfl tyX2_ok nmX2 0 rfl 3 (by decide) fl_X2_22 rfl rfl rfl (Nat.le_of_ble_eq_true rfl) (ws' := [(h0, ob 1 [.ref q1, .ref q2, .int 0, .int 0]), (q1, aJ G 200 (fun _ => 0)), (q2, aJ G 200 (fun _ => 0))]) rfl dX2_init_25 (fun H locs hw => ?_)
  have hw : Wd G A [(h0, ob 1 [.ref q1, .ref q2, .int 0, .int 0]), (q1, aJ G 200 (fun _ => 0)), (q2, aJ G 200 (fun _ => 0))] s.heap _ _ := hw.sub [0, 1, 2] rfl rfl
  exact r_vret cx hr hlk (fun k => [q1, q2].getD k 0) trivial hw (Nat.le_of_ble_eq_true rfl) (Nat.le_of_ble_eq_true rfl) dX2_init_28

set_option maxHeartbeats 4000000 in
set_option maxRecDepth 100000 in
theorem c_Prog (l : Launch) (G : Gt) (h0 : Nat) : Mt l yX3_init cX3_init 2 none ({ frames := 1, cells := 6, slots := 7992, locals := 12 } : Room) G [.ref h0] [(h0, ob 2 [.int 0, .int 0, .int 0, .null, .null, .null, .null, .null, .null])] (qV G (fun (w : Nat → Nat) => True) (fun w => [(h0, ob 2 [.int 0, .int 0, .int 0, .ref (w 0), .ref (w 1), .ref (w 2), .ref (w 3), .ref (w 4), .ref (w 5)]), (w 0, aI G 432 (fun _ => 0)), (w 1, aI G 72 (fun _ => 0)), (w 2, aI G 72 (fl_fill (-1) 0 72)), (w 3, aI G 2472 (fun _ => 0)), (w 4, aI G 2472 (fun _ => 0)), (w 5, aI G 2472 (fun _ => 0))])) := by
  refine Mt.of (own := RX3) (cc := cX3_init) (by decide) rfl (Nat.le_of_ble_eq_true rfl) ?_
  intro p e s m below meth c A ls cx hr hlk hmn hA hl hw
  have hx := cx.1
  have hb := cx.2.1
  have hl : lv_has ls 2 [(0, .ref h0)] := hl
  refine lv_aload_n hx hb dX3_init_0 rfl (lv_at hl 0 rfl) ?_
  refine r_objInit cx ml_X3_5 hl.1 dX3_init_1 (Nat.le_of_ble_eq_true rfl) (Nat.le_of_ble_eq_true rfl) ?_
  refine lv_aload_n hx hb dX3_init_4 rfl (lv_at hl 0 rfl) ?_
  refine lv_sipush (v := 432) hx hb dX3_init_5 (by decide) ?_
  refine r_newI cx hw hA (N' := 432) (by decide +kernel) (by decide +kernel) (Nat.le_of_ble_eq_true rfl) (Nat.le_of_ble_eq_true rfl) (Nat.le_of_ble_eq_true rfl) dX3_init_8 (fun q1 H hw => ?_)
  have hw : Wd G A [(h0, ob 2 [.int 0, .int 0, .int 0, .null, .null, .null, .null, .null, .null]), (q1, aI G 432 (fun _ => 0))] s.heap _ _ := hw
  refine r_putF cx hw inX3 (ci := 2) rfl tyX3_ok nmX3 hmn 0 rfl 3 (by decide) fl_X3_11 rfl rfl rfl rfl (Nat.le_of_ble_eq_true rfl) (ws' := [(h0, ob 2 [.int 0, .int 0, .int 0, .ref q1, .null, .null, .null, .null, .null]), (q1, aI G 432 (fun _ => 0))]) rfl dX3_init_10 (fun H locs hw => ?_)
  refine lv_aload_n hx hb dX3_init_13 rfl (lv_at hl 0 rfl) ?_
  refine lv_bipush (v := 72) hx hb dX3_init_14 (by decide) ?_
  refine r_newI cx hw hA (N' := 72) (by decide +kernel) (by decide +kernel) (Nat.le_of_ble_eq_true rfl) (Nat.le_of_ble_eq_true rfl) (Nat.le_of_ble_eq_true rfl) dX3_init_16 (fun q2 H hw => ?_)
  have hw : Wd G A [(h0, ob 2 [.int 0, .int 0, .int 0, .ref q1, .null, .null, .null, .null, .null]), (q1, aI G 432 (fun _ => 0)), (q2, aI G 72 (fun _ => 0))] s.heap _ _ := hw
  refine r_putF cx hw inX3 (ci := 2) rfl tyX3_ok nmX3 hmn 0 rfl 4 (by decide) fl_X3_15 rfl rfl rfl rfl (Nat.le_of_ble_eq_true rfl) (ws' := [(h0, ob 2 [.int 0, .int 0, .int 0, .ref q1, .ref q2, .null, .null, .null, .null]), (q1, aI G 432 (fun _ => 0)), (q2, aI G 72 (fun _ => 0))]) rfl dX3_init_18 (fun H locs hw => ?_)
  refine lv_aload_n hx hb dX3_init_21 rfl (lv_at hl 0 rfl) ?_
  refine lv_bipush (v := 72) hx hb dX3_init_22 (by decide) ?_
  refine r_newI cx hw hA (N' := 72) (by decide +kernel) (by decide +kernel) (Nat.le_of_ble_eq_true rfl) (Nat.le_of_ble_eq_true rfl) (Nat.le_of_ble_eq_true rfl) dX3_init_24 (fun q3 H hw => ?_)
  have hw : Wd G A [(h0, ob 2 [.int 0, .int 0, .int 0, .ref q1, .ref q2, .null, .null, .null, .null]), (q1, aI G 432 (fun _ => 0)), (q2, aI G 72 (fun _ => 0)), (q3, aI G 72 (fun _ => 0))] s.heap _ _ := hw
  refine r_putF cx hw inX3 (ci := 2) rfl tyX3_ok nmX3 hmn 0 rfl 5 (by decide) fl_X3_18 rfl rfl rfl rfl (Nat.le_of_ble_eq_true rfl) (ws' := [(h0, ob 2 [.int 0, .int 0, .int 0, .ref q1, .ref q2, .ref q3, .null, .null, .null]), (q1, aI G 432 (fun _ => 0)), (q2, aI G 72 (fun _ => 0)), (q3, aI G 72 (fun _ => 0))]) rfl dX3_init_26 (fun H locs hw => ?_)
  refine lv_aload_n hx hb dX3_init_29 rfl (lv_at hl 0 rfl) ?_
  refine lv_sipush (v := 2472) hx hb dX3_init_30 (by decide) ?_
  refine r_newI cx hw hA (N' := 2472) (by decide +kernel) (by decide +kernel) (Nat.le_of_ble_eq_true rfl) (Nat.le_of_ble_eq_true rfl) (Nat.le_of_ble_eq_true rfl) dX3_init_33 (fun q4 H hw => ?_)
  have hw : Wd G A [(h0, ob 2 [.int 0, .int 0, .int 0, .ref q1, .ref q2, .ref q3, .null, .null, .null]), (q1, aI G 432 (fun _ => 0)), (q2, aI G 72 (fun _ => 0)), (q3, aI G 72 (fun _ => 0)), (q4, aI G 2472 (fun _ => 0))] s.heap _ _ := hw
  refine r_putF cx hw inX3 (ci := 2) rfl tyX3_ok nmX3 hmn 0 rfl 6 (by decide) fl_X3_21 rfl rfl rfl rfl (Nat.le_of_ble_eq_true rfl) (ws' := [(h0, ob 2 [.int 0, .int 0, .int 0, .ref q1, .ref q2, .ref q3, .ref q4, .null, .null]), (q1, aI G 432 (fun _ => 0)), (q2, aI G 72 (fun _ => 0)), (q3, aI G 72 (fun _ => 0)), (q4, aI G 2472 (fun _ => 0))]) rfl dX3_init_35 (fun H locs hw => ?_)
  refine lv_aload_n hx hb dX3_init_38 rfl (lv_at hl 0 rfl) ?_
  refine lv_sipush (v := 2472) hx hb dX3_init_39 (by decide) ?_
  refine r_newI cx hw hA (N' := 2472) (by decide +kernel) (by decide +kernel) (Nat.le_of_ble_eq_true rfl) (Nat.le_of_ble_eq_true rfl) (Nat.le_of_ble_eq_true rfl) dX3_init_42 (fun q5 H hw => ?_)
  have hw : Wd G A [(h0, ob 2 [.int 0, .int 0, .int 0, .ref q1, .ref q2, .ref q3, .ref q4, .null, .null]), (q1, aI G 432 (fun _ => 0)), (q2, aI G 72 (fun _ => 0)), (q3, aI G 72 (fun _ => 0)), (q4, aI G 2472 (fun _ => 0)), (q5, aI G 2472 (fun _ => 0))] s.heap _ _ := hw
  refine r_putF cx hw inX3 (ci := 2) rfl tyX3_ok nmX3 hmn 0 rfl 7 (by decide) fl_X3_24 rfl rfl rfl rfl (Nat.le_of_ble_eq_true rfl) (ws' := [(h0, ob 2 [.int 0, .int 0, .int 0, .ref q1, .ref q2, .ref q3, .ref q4, .ref q5, .null]), (q1, aI G 432 (fun _ => 0)), (q2, aI G 72 (fun _ => 0)), (q3, aI G 72 (fun _ => 0)), (q4, aI G 2472 (fun _ => 0)), (q5, aI G 2472 (fun _ => 0))]) rfl dX3_init_44 (fun H locs hw => ?_)
  refine lv_aload_n hx hb dX3_init_47 rfl (lv_at hl 0 rfl) ?_
  refine lv_sipush (v := 2472) hx hb dX3_init_48 (by decide) ?_
  refine r_newI cx hw hA (N' := 2472) (by decide +kernel) (by decide +kernel) (Nat.le_of_ble_eq_true rfl) (Nat.le_of_ble_eq_true rfl) (Nat.le_of_ble_eq_true rfl) dX3_init_51 (fun q6 H hw => ?_)
  have hw : Wd G A [(h0, ob 2 [.int 0, .int 0, .int 0, .ref q1, .ref q2, .ref q3, .ref q4, .ref q5, .null]), (q1, aI G 432 (fun _ => 0)), (q2, aI G 72 (fun _ => 0)), (q3, aI G 72 (fun _ => 0)), (q4, aI G 2472 (fun _ => 0)), (q5, aI G 2472 (fun _ => 0)), (q6, aI G 2472 (fun _ => 0))] s.heap _ _ := hw
  refine r_putF cx hw inX3 (ci := 2) rfl tyX3_ok nmX3 hmn 0 rfl 8 (by decide) fl_X3_27 rfl rfl rfl rfl (Nat.le_of_ble_eq_true rfl) (ws' := [(h0, ob 2 [.int 0, .int 0, .int 0, .ref q1, .ref q2, .ref q3, .ref q4, .ref q5, .ref q6]), (q1, aI G 432 (fun _ => 0)), (q2, aI G 72 (fun _ => 0)), (q3, aI G 72 (fun _ => 0)), (q4, aI G 2472 (fun _ => 0)), (q5, aI G 2472 (fun _ => 0)), (q6, aI G 2472 (fun _ => 0))]) rfl dX3_init_53 (fun H locs hw => ?_)
  refine lv_aload_n hx hb dX3_init_56 rfl (lv_at hl 0 rfl) ?_
  refine lv_iconst (v := 0) hx hb dX3_init_57 (by decide) ?_
  refine r_put cx hw inX3 (ci := 2) rfl tyX3_ok nmX3 0 rfl 0 (by decide) fl_X3_30 rfl rfl rfl (Nat.le_of_ble_eq_true rfl) (ws' := [(h0, ob 2 [.int 0, .int 0, .int 0, .ref q1, .ref q2, .ref q3, .ref q4, .ref q5, .ref q6]), (q1, aI G 432 (fun _ => 0)), (q2, aI G 72 (fun _ => 0)), (q3, aI G 72 (fun _ => 0)), (q4, aI G 2472 (fun _ => 0)), (q5, aI G 2472 (fun _ => 0)), (q6, aI G 2472 (fun _ => 0))]) rfl dX3_init_58 (fun H locs hw => ?_)
  refine lv_aload_n hx hb dX3_init_61 rfl (lv_at hl 0 rfl) ?_
  refine lv_iconst (v := 0) hx hb dX3_init_62 (by decide) ?_
  refine r_put cx hw inX3 (ci := 2) rfl tyX3_ok nmX3 0 rfl 1 (by decide) fl_X3_34 rfl rfl rfl (Nat.le_of_ble_eq_true rfl) (ws' := [(h0, ob 2 [.int 0, .int 0, .int 0, .ref q1, .ref q2, .ref q3, .ref q4, .ref q5, .ref q6]), (q1, aI G 432 (fun _ => 0)), (q2, aI G 72 (fun _ => 0)), (q3, aI G 72 (fun _ => 0)), (q4, aI G 2472 (fun _ => 0)), (q5, aI G 2472 (fun _ => 0)), (q6, aI G 2472 (fun _ => 0))]) rfl dX3_init_63 (fun H locs hw => ?_)
  refine lv_aload_n hx hb dX3_init_66 rfl (lv_at hl 0 rfl) ?_
  refine lv_iconst (v := 0) hx hb dX3_init_67 (by decide) ?_
  refine r_put cx hw inX3 (ci := 2) rfl tyX3_ok nmX3 0 rfl 2 (by decide) fl_X3_37 rfl rfl rfl (Nat.le_of_ble_eq_true rfl) (ws' := [(h0, ob 2 [.int 0, .int 0, .int 0, .ref q1, .ref q2, .ref q3, .ref q4, .ref q5, .ref q6]), (q1, aI G 432 (fun _ => 0)), (q2, aI G 72 (fun _ => 0)), (q3, aI G 72 (fun _ => 0)), (q4, aI G 2472 (fun _ => 0)), (q5, aI G 2472 (fun _ => 0)), (q6, aI G 2472 (fun _ => 0))]) rfl dX3_init_68 (fun H locs hw => ?_)
  refine lv_iconst (v := 0) hx hb dX3_init_71 (by decide) ?_
  refine lv_istore_n (lv' := [(1, .int 0), (0, .ref h0)]) hx hb dX3_init_72 rfl hl (by decide) rfl (fun ls hl => ?_)
  refine r_loop (N := 72) (fun k H locs ls => lv_has ls 2 [(1, .int (nI k)), (0, .ref h0)] ∧ Wd G A [(h0, ob 2 [.int 0, .int 0, .int 0, .ref q1, .ref q2, .ref q3, .ref q4, .ref q5, .ref q6]), (q1, aI G 432 (fun _ => 0)), (q2, aI G 72 (fun _ => 0)), (q3, aI G 72 (fl_fill (-1) 0 k)), (q4, aI G 2472 (fun _ => 0)), (q5, aI G 2472 (fun _ => 0)), (q6, aI G 2472 (fun _ => 0))] s.heap H locs) ?_ ?_ 0 (Nat.zero_le _) _ _ _ ⟨lv_sub hl [0, 1] rfl, (by rw [fl_fill_0]; exact hw)⟩
  · intro H locs ls h9
    obtain ⟨hl, hw⟩ := h9
    have hl : lv_has ls 2 [(1, .int 72), (0, .ref h0)] := hl
    have hw : Wd G A [(h0, ob 2 [.int 0, .int 0, .int 0, .ref q1, .ref q2, .ref q3, .ref q4, .ref q5, .ref q6]), (q1, aI G 432 (fun _ => 0)), (q2, aI G 72 (fun _ => 0)), (q3, aI G 72 (fl_fill (-1) 0 72)), (q4, aI G 2472 (fun _ => 0)), (q5, aI G 2472 (fun _ => 0)), (q6, aI G 2472 (fun _ => 0))] s.heap _ _ := hw
    refine lv_iload_n hx hb dX3_init_73 rfl (lv_at hl 0 rfl) ?_
    refine lv_bipush (v := 72) hx hb dX3_init_74 (by decide) ?_
    refine lv_icmp_ge (tgt := 92) hx hb dX3_init_76 (by decide) (fun _ => ?_) (fun c9 => absurd (by decide) c9)
    have hw : Wd G A [(h0, ob 2 [.int 0, .int 0, .int 0, .ref q1, .ref q2, .ref q3, .ref q4, .ref q5, .ref q6]), (q1, aI G 432 (fun _ => 0)), (q2, aI G 72 (fun _ => 0)), (q3, aI G 72 (fl_fill (-1) 0 72)), (q4, aI G 2472 (fun _ => 0)), (q5, aI G 2472 (fun _ => 0)), (q6, aI G 2472 (fun _ => 0))] s.heap _ _ := hw.sub [0, 1, 2, 3, 4, 5, 6] rfl rfl
    exact r_vret cx hr hlk (fun k => [q1, q2, q3, q4, q5, q6].getD k 0) trivial hw (Nat.le_of_ble_eq_true rfl) (Nat.le_of_ble_eq_true rfl) dX3_init_92
  · intro k H locs ls hk h9 ih
    obtain ⟨hl, hw⟩ := h9
    refine lv_iload_n hx hb dX3_init_73 rfl (lv_at hl 0 rfl) ?_
    refine lv_bipush (v := 72) hx hb dX3_init_74 (by decide) ?_
    refine lv_icmp_ge (tgt := 92) hx hb dX3_init_76 (by decide) (fun c9 => absurd c9 (nI_ge hk (by decide))) (fun _ => ?_)
    refine lv_aload_n hx hb dX3_init_79 rfl (lv_at hl 1 rfl) ?_
    refine r_get cx hw inX3 (ci := 2) rfl 0 rfl 5 (by decide) fl_X3_18 rfl dX3_init_80 ?_
    refine lv_iload_n hx hb dX3_init_83 rfl (lv_at hl 0 rfl) ?_
    refine lv_iconst (v := (-1)) hx hb dX3_init_84 (by decide) ?_
    refine r_iast cx hw 3 rfl (vp_in_nI hk (by decide)) (ws' := [(h0, ob 2 [.int 0, .int 0, .int 0, .ref q1, .ref q2, .ref q3, .ref q4, .ref q5, .ref q6]), (q1, aI G 432 (fun _ => 0)), (q2, aI G 72 (fun _ => 0)), (q3, aI G 72 (fl_fill (-1) 0 (k + 1))), (q4, aI G 2472 (fun _ => 0)), (q5, aI G 2472 (fun _ => 0)), (q6, aI G 2472 (fun _ => 0))]) (by rw [nI_clamp (Nat.lt_trans hk (by decide))]; simp only [fl_fill_succ]; rfl) dX3_init_85 (fun H locs hw => ?_)
    refine lv_iinc (v := nI (k + 1)) (lv' := [(1, .int (nI (k + 1))), (0, .ref h0)]) hx hb dX3_init_86 hl (k := 0) rfl (nI_1 k) (by decide) rfl (fun ls hl => ?_)
    refine lv_goto (tgt := 73) hx hb dX3_init_89 (by decide) ?_
    exact ih H locs ls ⟨lv_sub hl [0, 1] rfl, hw.sub [0, 1, 2, 3, 4, 5, 6] rfl rfl⟩

set_option maxHeartbeats 4000000 in
set_option maxRecDepth 100000 in
theorem c_Reader (l : Launch) (G : Gt) (h0 : Nat) (t0 : Nat) (p0 : Nat) : Mt l yX4_init cX4_init 3 none ({ frames := 1, cells := 1, slots := 32, locals := 12 } : Room) G [.ref h0, .ref t0, .ref p0] [(h0, ob 3 [.null, .int 0, .int 0, .int 0, .null, .null, .int 0])] (qV G (fun (w : Nat → Nat) => True) (fun w => [(h0, ob 3 [.ref t0, .int 0, .int 0, .int (-1), .ref p0, .ref (w 0), .int 0]), (w 0, aI G 32 (fun _ => 0))])) := by
  refine Mt.of (own := RX4) (cc := cX4_init) (by decide) rfl (Nat.le_of_ble_eq_true rfl) ?_
  intro p e s m below meth c A ls cx hr hlk hmn hA hl hw
  have hx := cx.1
  have hb := cx.2.1
  have hl : lv_has ls 3 [(0, .ref h0), (1, .ref t0), (2, .ref p0)] := hl
  refine lv_aload_n hx hb dX4_init_0 rfl (lv_at hl 0 rfl) ?_
  refine r_objInit cx ml_X4_3 hl.1 dX4_init_1 (Nat.le_of_ble_eq_true rfl) (Nat.le_of_ble_eq_true rfl) ?_
  refine lv_aload_n hx hb dX4_init_4 rfl (lv_at hl 0 rfl) ?_
  refine lv_aload_n hx hb dX4_init_5 rfl (lv_at hl 1 rfl) ?_
  refine r_putF cx hw inX4 (ci := 3) rfl tyX4_ok nmX4 hmn 0 rfl 0 (by decide) fl_X4_9 rfl rfl rfl rfl (Nat.le_of_ble_eq_true rfl) (ws' := [(h0, ob 3 [.ref t0, .int 0, .int 0, .int 0, .null, .null, .int 0])]) rfl dX4_init_6 (fun H locs hw => ?_)
  refine lv_aload_n hx hb dX4_init_9 rfl (lv_at hl 0 rfl) ?_
  refine lv_iconst (v := 0) hx hb dX4_init_10 (by decide) ?_
  refine r_put cx hw inX4 (ci := 3) rfl tyX4_ok nmX4 0 rfl 1 (by decide) fl_X4_15 rfl rfl rfl (Nat.le_of_ble_eq_true rfl) (ws' := [(h0, ob 3 [.ref t0, .int 0, .int 0, .int 0, .null, .null, .int 0])]) rfl dX4_init_11 (fun H locs hw => ?_)
  refine lv_aload_n hx hb dX4_init_14 rfl (lv_at hl 0 rfl) ?_
  refine lv_iconst (v := 0) hx hb dX4_init_15 (by decide) ?_
  refine r_put cx hw inX4 (ci := 3) rfl tyX4_ok nmX4 0 rfl 2 (by decide) fl_X4_19 rfl rfl rfl (Nat.le_of_ble_eq_true rfl) (ws' := [(h0, ob 3 [.ref t0, .int 0, .int 0, .int 0, .null, .null, .int 0])]) rfl dX4_init_16 (fun H locs hw => ?_)
  refine lv_aload_n hx hb dX4_init_19 rfl (lv_at hl 0 rfl) ?_
  refine lv_iconst (v := (-1)) hx hb dX4_init_20 (by decide) ?_
  refine r_put cx hw inX4 (ci := 3) rfl tyX4_ok nmX4 0 rfl 3 (by decide) fl_X4_22 rfl rfl rfl (Nat.le_of_ble_eq_true rfl) (ws' := [(h0, ob 3 [.ref t0, .int 0, .int 0, .int (-1), .null, .null, .int 0])]) rfl dX4_init_21 (fun H locs hw => ?_)
  refine lv_aload_n hx hb dX4_init_24 rfl (lv_at hl 0 rfl) ?_
  refine lv_aload_n hx hb dX4_init_25 rfl (lv_at hl 2 rfl) ?_
  refine r_put cx hw inX4 (ci := 3) rfl tyX4_ok nmX4 0 rfl 4 (by decide) fl_X4_25 rfl rfl rfl (Nat.le_of_ble_eq_true rfl) (ws' := [(h0, ob 3 [.ref t0, .int 0, .int 0, .int (-1), .ref p0, .null, .int 0])]) rfl dX4_init_26 (fun H locs hw => ?_)
  refine lv_aload_n hx hb dX4_init_29 rfl (lv_at hl 0 rfl) ?_
  refine lv_bipush (v := 32) hx hb dX4_init_30 (by decide) ?_
  refine r_newI cx hw hA (N' := 32) (by decide +kernel) (by decide +kernel) (Nat.le_of_ble_eq_true rfl) (Nat.le_of_ble_eq_true rfl) (Nat.le_of_ble_eq_true rfl) dX4_init_32 (fun q1 H hw => ?_)
  have hw : Wd G A [(h0, ob 3 [.ref t0, .int 0, .int 0, .int (-1), .ref p0, .null, .int 0]), (q1, aI G 32 (fun _ => 0))] s.heap _ _ := hw
  refine r_putF cx hw inX4 (ci := 3) rfl tyX4_ok nmX4 hmn 0 rfl 5 (by decide) fl_X4_31 rfl rfl rfl rfl (Nat.le_of_ble_eq_true rfl) (ws' := [(h0, ob 3 [.ref t0, .int 0, .int 0, .int (-1), .ref p0, .ref q1, .int 0]), (q1, aI G 32 (fun _ => 0))]) rfl dX4_init_34 (fun H locs hw => ?_)
  refine lv_aload_n hx hb dX4_init_37 rfl (lv_at hl 0 rfl) ?_
  refine lv_iconst (v := 0) hx hb dX4_init_38 (by decide) ?_
  refine r_put cx hw inX4 (ci := 3) rfl tyX4_ok nmX4 0 rfl 6 (by decide) fl_X4_34 rfl rfl rfl (Nat.le_of_ble_eq_true rfl) (ws' := [(h0, ob 3 [.ref t0, .int 0, .int 0, .int (-1), .ref p0, .ref q1, .int 0]), (q1, aI G 32 (fun _ => 0))]) rfl dX4_init_39 (fun H locs hw => ?_)
  have hw : Wd G A [(h0, ob 3 [.ref t0, .int 0, .int 0, .int (-1), .ref p0, .ref q1, .int 0]), (q1, aI G 32 (fun _ => 0))] s.heap _ _ := hw.sub [0, 1] rfl rfl
  exact r_vret cx hr hlk (fun k => [q1].getD k 0) trivial hw (Nat.le_of_ble_eq_true rfl) (Nat.le_of_ble_eq_true rfl) dX4_init_42

set_option maxHeartbeats 4000000 in
set_option maxRecDepth 100000 in
theorem c_Store (l : Launch) (G : Gt) (h0 : Nat) : Mt l yX8_init cX8_init 1 none ({ frames := 1, cells := 8, slots := 124567, locals := 12 } : Room) G [.ref h0] [(h0, ob 7 [.null, .null, .null, .null, .null, .int 0, .null, .int 0, .null, .null, .int 0])] (qV G (fun (w : Nat → Nat) => True) (fun w => [(h0, ob 7 [.ref (w 0), .ref (w 1), .ref (w 2), .ref (w 3), .ref (w 4), .int 0, .ref (w 5), .int 0, .ref (w 6), .ref (w 7), .int 0]), (w 0, aJ G 30200 (fun _ => 0)), (w 1, aJ G 30200 (fun _ => 0)), (w 2, aI G 30200 (fun _ => 0)), (w 3, aI G 30200 (fun _ => 0)), (w 4, aJ G 264 (fun _ => 0)), (w 5, aJ G 2480 (fun _ => 0)), (w 6, aJ G 992 (fun _ => 0)), (w 7, aI G 31 (fun _ => 0))])) := by
  refine Mt.of (own := RX8) (cc := cX8_init) (by decide) rfl (Nat.le_of_ble_eq_true rfl) ?_
  intro p e s m below meth c A ls cx hr hlk hmn hA hl hw
  have hx := cx.1
  have hb := cx.2.1
  have hl : lv_has ls 1 [(0, .ref h0)] := hl
  refine lv_aload_n hx hb dX8_init_0 rfl (lv_at hl 0 rfl) ?_
  refine r_objInit cx ml_X8_5 hl.1 dX8_init_1 (Nat.le_of_ble_eq_true rfl) (Nat.le_of_ble_eq_true rfl) ?_
  refine lv_aload_n hx hb dX8_init_4 rfl (lv_at hl 0 rfl) ?_
  refine lv_sipush (v := 30200) hx hb dX8_init_5 (by decide) ?_
  refine r_newJ cx hw hA (N' := 30200) (by decide +kernel) (by decide +kernel) (Nat.le_of_ble_eq_true rfl) (Nat.le_of_ble_eq_true rfl) (Nat.le_of_ble_eq_true rfl) dX8_init_8 (fun q1 H hw => ?_)
  have hw : Wd G A [(h0, ob 7 [.null, .null, .null, .null, .null, .int 0, .null, .int 0, .null, .null, .int 0]), (q1, aJ G 30200 (fun _ => 0))] s.heap _ _ := hw
  refine r_putF cx hw inX8 (ci := 7) rfl tyX8_ok nmX8 hmn 0 rfl 0 (by decide) fl_X8_13 rfl rfl rfl rfl (Nat.le_of_ble_eq_true rfl) (ws' := [(h0, ob 7 [.ref q1, .null, .null, .null, .null, .int 0, .null, .int 0, .null, .null, .int 0]), (q1, aJ G 30200 (fun _ => 0))]) rfl dX8_init_10 (fun H locs hw => ?_)
  refine lv_aload_n hx hb dX8_init_13 rfl (lv_at hl 0 rfl) ?_
  refine lv_sipush (v := 30200) hx hb dX8_init_14 (by decide) ?_
  refine r_newJ cx hw hA (N' := 30200) (by decide +kernel) (by decide +kernel) (Nat.le_of_ble_eq_true rfl) (Nat.le_of_ble_eq_true rfl) (Nat.le_of_ble_eq_true rfl) dX8_init_17 (fun q2 H hw => ?_)
  have hw : Wd G A [(h0, ob 7 [.ref q1, .null, .null, .null, .null, .int 0, .null, .int 0, .null, .null, .int 0]), (q1, aJ G 30200 (fun _ => 0)), (q2, aJ G 30200 (fun _ => 0))] s.heap _ _ := hw
  refine r_putF cx hw inX8 (ci := 7) rfl tyX8_ok nmX8 hmn 0 rfl 1 (by decide) fl_X8_17 rfl rfl rfl rfl (Nat.le_of_ble_eq_true rfl) (ws' := [(h0, ob 7 [.ref q1, .ref q2, .null, .null, .null, .int 0, .null, .int 0, .null, .null, .int 0]), (q1, aJ G 30200 (fun _ => 0)), (q2, aJ G 30200 (fun _ => 0))]) rfl dX8_init_19 (fun H locs hw => ?_)
  refine lv_aload_n hx hb dX8_init_22 rfl (lv_at hl 0 rfl) ?_
  refine lv_sipush (v := 30200) hx hb dX8_init_23 (by decide) ?_
  refine r_newI cx hw hA (N' := 30200) (by decide +kernel) (by decide +kernel) (Nat.le_of_ble_eq_true rfl) (Nat.le_of_ble_eq_true rfl) (Nat.le_of_ble_eq_true rfl) dX8_init_26 (fun q3 H hw => ?_)
  have hw : Wd G A [(h0, ob 7 [.ref q1, .ref q2, .null, .null, .null, .int 0, .null, .int 0, .null, .null, .int 0]), (q1, aJ G 30200 (fun _ => 0)), (q2, aJ G 30200 (fun _ => 0)), (q3, aI G 30200 (fun _ => 0))] s.heap _ _ := hw
  refine r_putF cx hw inX8 (ci := 7) rfl tyX8_ok nmX8 hmn 0 rfl 2 (by decide) fl_X8_20 rfl rfl rfl rfl (Nat.le_of_ble_eq_true rfl) (ws' := [(h0, ob 7 [.ref q1, .ref q2, .ref q3, .null, .null, .int 0, .null, .int 0, .null, .null, .int 0]), (q1, aJ G 30200 (fun _ => 0)), (q2, aJ G 30200 (fun _ => 0)), (q3, aI G 30200 (fun _ => 0))]) rfl dX8_init_28 (fun H locs hw => ?_)
  refine lv_aload_n hx hb dX8_init_31 rfl (lv_at hl 0 rfl) ?_
  refine lv_sipush (v := 30200) hx hb dX8_init_32 (by decide) ?_
  refine r_newI cx hw hA (N' := 30200) (by decide +kernel) (by decide +kernel) (Nat.le_of_ble_eq_true rfl) (Nat.le_of_ble_eq_true rfl) (Nat.le_of_ble_eq_true rfl) dX8_init_35 (fun q4 H hw => ?_)
  have hw : Wd G A [(h0, ob 7 [.ref q1, .ref q2, .ref q3, .null, .null, .int 0, .null, .int 0, .null, .null, .int 0]), (q1, aJ G 30200 (fun _ => 0)), (q2, aJ G 30200 (fun _ => 0)), (q3, aI G 30200 (fun _ => 0)), (q4, aI G 30200 (fun _ => 0))] s.heap _ _ := hw
  refine r_putF cx hw inX8 (ci := 7) rfl tyX8_ok nmX8 hmn 0 rfl 3 (by decide) fl_X8_24 rfl rfl rfl rfl (Nat.le_of_ble_eq_true rfl) (ws' := [(h0, ob 7 [.ref q1, .ref q2, .ref q3, .ref q4, .null, .int 0, .null, .int 0, .null, .null, .int 0]), (q1, aJ G 30200 (fun _ => 0)), (q2, aJ G 30200 (fun _ => 0)), (q3, aI G 30200 (fun _ => 0)), (q4, aI G 30200 (fun _ => 0))]) rfl dX8_init_37 (fun H locs hw => ?_)
  refine lv_aload_n hx hb dX8_init_40 rfl (lv_at hl 0 rfl) ?_
  refine lv_sipush (v := 264) hx hb dX8_init_41 (by decide) ?_
  refine r_newJ cx hw hA (N' := 264) (by decide +kernel) (by decide +kernel) (Nat.le_of_ble_eq_true rfl) (Nat.le_of_ble_eq_true rfl) (Nat.le_of_ble_eq_true rfl) dX8_init_44 (fun q5 H hw => ?_)
  have hw : Wd G A [(h0, ob 7 [.ref q1, .ref q2, .ref q3, .ref q4, .null, .int 0, .null, .int 0, .null, .null, .int 0]), (q1, aJ G 30200 (fun _ => 0)), (q2, aJ G 30200 (fun _ => 0)), (q3, aI G 30200 (fun _ => 0)), (q4, aI G 30200 (fun _ => 0)), (q5, aJ G 264 (fun _ => 0))] s.heap _ _ := hw
  refine r_putF cx hw inX8 (ci := 7) rfl tyX8_ok nmX8 hmn 0 rfl 4 (by decide) fl_X8_29 rfl rfl rfl rfl (Nat.le_of_ble_eq_true rfl) (ws' := [(h0, ob 7 [.ref q1, .ref q2, .ref q3, .ref q4, .ref q5, .int 0, .null, .int 0, .null, .null, .int 0]), (q1, aJ G 30200 (fun _ => 0)), (q2, aJ G 30200 (fun _ => 0)), (q3, aI G 30200 (fun _ => 0)), (q4, aI G 30200 (fun _ => 0)), (q5, aJ G 264 (fun _ => 0))]) rfl dX8_init_46 (fun H locs hw => ?_)
  refine lv_aload_n hx hb dX8_init_49 rfl (lv_at hl 0 rfl) ?_
  refine lv_sipush (v := 2480) hx hb dX8_init_50 (by decide) ?_
  refine r_newJ cx hw hA (N' := 2480) (by decide +kernel) (by decide +kernel) (Nat.le_of_ble_eq_true rfl) (Nat.le_of_ble_eq_true rfl) (Nat.le_of_ble_eq_true rfl) dX8_init_53 (fun q6 H hw => ?_)
  have hw : Wd G A [(h0, ob 7 [.ref q1, .ref q2, .ref q3, .ref q4, .ref q5, .int 0, .null, .int 0, .null, .null, .int 0]), (q1, aJ G 30200 (fun _ => 0)), (q2, aJ G 30200 (fun _ => 0)), (q3, aI G 30200 (fun _ => 0)), (q4, aI G 30200 (fun _ => 0)), (q5, aJ G 264 (fun _ => 0)), (q6, aJ G 2480 (fun _ => 0))] s.heap _ _ := hw
  refine r_putF cx hw inX8 (ci := 7) rfl tyX8_ok nmX8 hmn 0 rfl 6 (by decide) fl_X8_32 rfl rfl rfl rfl (Nat.le_of_ble_eq_true rfl) (ws' := [(h0, ob 7 [.ref q1, .ref q2, .ref q3, .ref q4, .ref q5, .int 0, .ref q6, .int 0, .null, .null, .int 0]), (q1, aJ G 30200 (fun _ => 0)), (q2, aJ G 30200 (fun _ => 0)), (q3, aI G 30200 (fun _ => 0)), (q4, aI G 30200 (fun _ => 0)), (q5, aJ G 264 (fun _ => 0)), (q6, aJ G 2480 (fun _ => 0))]) rfl dX8_init_55 (fun H locs hw => ?_)
  refine lv_aload_n hx hb dX8_init_58 rfl (lv_at hl 0 rfl) ?_
  refine lv_sipush (v := 992) hx hb dX8_init_59 (by decide) ?_
  refine r_newJ cx hw hA (N' := 992) (by decide +kernel) (by decide +kernel) (Nat.le_of_ble_eq_true rfl) (Nat.le_of_ble_eq_true rfl) (Nat.le_of_ble_eq_true rfl) dX8_init_62 (fun q7 H hw => ?_)
  have hw : Wd G A [(h0, ob 7 [.ref q1, .ref q2, .ref q3, .ref q4, .ref q5, .int 0, .ref q6, .int 0, .null, .null, .int 0]), (q1, aJ G 30200 (fun _ => 0)), (q2, aJ G 30200 (fun _ => 0)), (q3, aI G 30200 (fun _ => 0)), (q4, aI G 30200 (fun _ => 0)), (q5, aJ G 264 (fun _ => 0)), (q6, aJ G 2480 (fun _ => 0)), (q7, aJ G 992 (fun _ => 0))] s.heap _ _ := hw
  refine r_putF cx hw inX8 (ci := 7) rfl tyX8_ok nmX8 hmn 0 rfl 8 (by decide) fl_X8_35 rfl rfl rfl rfl (Nat.le_of_ble_eq_true rfl) (ws' := [(h0, ob 7 [.ref q1, .ref q2, .ref q3, .ref q4, .ref q5, .int 0, .ref q6, .int 0, .ref q7, .null, .int 0]), (q1, aJ G 30200 (fun _ => 0)), (q2, aJ G 30200 (fun _ => 0)), (q3, aI G 30200 (fun _ => 0)), (q4, aI G 30200 (fun _ => 0)), (q5, aJ G 264 (fun _ => 0)), (q6, aJ G 2480 (fun _ => 0)), (q7, aJ G 992 (fun _ => 0))]) rfl dX8_init_64 (fun H locs hw => ?_)
  refine lv_aload_n hx hb dX8_init_67 rfl (lv_at hl 0 rfl) ?_
  refine lv_bipush (v := 31) hx hb dX8_init_68 (by decide) ?_
  refine r_newI cx hw hA (N' := 31) (by decide +kernel) (by decide +kernel) (Nat.le_of_ble_eq_true rfl) (Nat.le_of_ble_eq_true rfl) (Nat.le_of_ble_eq_true rfl) dX8_init_70 (fun q8 H hw => ?_)
  have hw : Wd G A [(h0, ob 7 [.ref q1, .ref q2, .ref q3, .ref q4, .ref q5, .int 0, .ref q6, .int 0, .ref q7, .null, .int 0]), (q1, aJ G 30200 (fun _ => 0)), (q2, aJ G 30200 (fun _ => 0)), (q3, aI G 30200 (fun _ => 0)), (q4, aI G 30200 (fun _ => 0)), (q5, aJ G 264 (fun _ => 0)), (q6, aJ G 2480 (fun _ => 0)), (q7, aJ G 992 (fun _ => 0)), (q8, aI G 31 (fun _ => 0))] s.heap _ _ := hw
  refine r_putF cx hw inX8 (ci := 7) rfl tyX8_ok nmX8 hmn 0 rfl 9 (by decide) fl_X8_38 rfl rfl rfl rfl (Nat.le_of_ble_eq_true rfl) (ws' := [(h0, ob 7 [.ref q1, .ref q2, .ref q3, .ref q4, .ref q5, .int 0, .ref q6, .int 0, .ref q7, .ref q8, .int 0]), (q1, aJ G 30200 (fun _ => 0)), (q2, aJ G 30200 (fun _ => 0)), (q3, aI G 30200 (fun _ => 0)), (q4, aI G 30200 (fun _ => 0)), (q5, aJ G 264 (fun _ => 0)), (q6, aJ G 2480 (fun _ => 0)), (q7, aJ G 992 (fun _ => 0)), (q8, aI G 31 (fun _ => 0))]) rfl dX8_init_72 (fun H locs hw => ?_)
  refine lv_aload_n hx hb dX8_init_75 rfl (lv_at hl 0 rfl) ?_
  refine lv_iconst (v := 0) hx hb dX8_init_76 (by decide) ?_
  refine r_put cx hw inX8 (ci := 7) rfl tyX8_ok nmX8 0 rfl 5 (by decide) fl_X8_41 rfl rfl rfl (Nat.le_of_ble_eq_true rfl) (ws' := [(h0, ob 7 [.ref q1, .ref q2, .ref q3, .ref q4, .ref q5, .int 0, .ref q6, .int 0, .ref q7, .ref q8, .int 0]), (q1, aJ G 30200 (fun _ => 0)), (q2, aJ G 30200 (fun _ => 0)), (q3, aI G 30200 (fun _ => 0)), (q4, aI G 30200 (fun _ => 0)), (q5, aJ G 264 (fun _ => 0)), (q6, aJ G 2480 (fun _ => 0)), (q7, aJ G 992 (fun _ => 0)), (q8, aI G 31 (fun _ => 0))]) rfl dX8_init_77 (fun H locs hw => ?_)
  refine lv_aload_n hx hb dX8_init_80 rfl (lv_at hl 0 rfl) ?_
  refine lv_iconst (v := 0) hx hb dX8_init_81 (by decide) ?_
  refine r_put cx hw inX8 (ci := 7) rfl tyX8_ok nmX8 0 rfl 7 (by decide) fl_X8_45 rfl rfl rfl (Nat.le_of_ble_eq_true rfl) (ws' := [(h0, ob 7 [.ref q1, .ref q2, .ref q3, .ref q4, .ref q5, .int 0, .ref q6, .int 0, .ref q7, .ref q8, .int 0]), (q1, aJ G 30200 (fun _ => 0)), (q2, aJ G 30200 (fun _ => 0)), (q3, aI G 30200 (fun _ => 0)), (q4, aI G 30200 (fun _ => 0)), (q5, aJ G 264 (fun _ => 0)), (q6, aJ G 2480 (fun _ => 0)), (q7, aJ G 992 (fun _ => 0)), (q8, aI G 31 (fun _ => 0))]) rfl dX8_init_82 (fun H locs hw => ?_)
  refine lv_aload_n hx hb dX8_init_85 rfl (lv_at hl 0 rfl) ?_
  refine lv_iconst (v := 0) hx hb dX8_init_86 (by decide) ?_
  refine r_put cx hw inX8 (ci := 7) rfl tyX8_ok nmX8 0 rfl 10 (by decide) fl_X8_48 rfl rfl rfl (Nat.le_of_ble_eq_true rfl) (ws' := [(h0, ob 7 [.ref q1, .ref q2, .ref q3, .ref q4, .ref q5, .int 0, .ref q6, .int 0, .ref q7, .ref q8, .int 0]), (q1, aJ G 30200 (fun _ => 0)), (q2, aJ G 30200 (fun _ => 0)), (q3, aI G 30200 (fun _ => 0)), (q4, aI G 30200 (fun _ => 0)), (q5, aJ G 264 (fun _ => 0)), (q6, aJ G 2480 (fun _ => 0)), (q7, aJ G 992 (fun _ => 0)), (q8, aI G 31 (fun _ => 0))]) rfl dX8_init_87 (fun H locs hw => ?_)
  have hw : Wd G A [(h0, ob 7 [.ref q1, .ref q2, .ref q3, .ref q4, .ref q5, .int 0, .ref q6, .int 0, .ref q7, .ref q8, .int 0]), (q1, aJ G 30200 (fun _ => 0)), (q2, aJ G 30200 (fun _ => 0)), (q3, aI G 30200 (fun _ => 0)), (q4, aI G 30200 (fun _ => 0)), (q5, aJ G 264 (fun _ => 0)), (q6, aJ G 2480 (fun _ => 0)), (q7, aJ G 992 (fun _ => 0)), (q8, aI G 31 (fun _ => 0))] s.heap _ _ := hw.sub [0, 1, 2, 3, 4, 5, 6, 7, 8] rfl rfl
  exact r_vret cx hr hlk (fun k => [q1, q2, q3, q4, q5, q6, q7, q8].getD k 0) trivial hw (Nat.le_of_ble_eq_true rfl) (Nat.le_of_ble_eq_true rfl) dX8_init_90

set_option maxHeartbeats 4000000 in
set_option maxRecDepth 100000 in
theorem c_Text (l : Launch) (G : Gt) (h0 : Nat) : Mt l yX9_init cX9_init 1 none ({ frames := 1, cells := 1, slots := 40000, locals := 12 } : Room) G [.ref h0] [(h0, ob 8 [.null, .int 0])] (qV G (fun (w : Nat → Nat) => True) (fun w => [(h0, ob 8 [.ref (w 0), .int 0]), (w 0, aB G 40000 (fun _ => 0))])) := by
  refine Mt.of (own := RX9) (cc := cX9_init) (by decide) rfl (Nat.le_of_ble_eq_true rfl) ?_
  intro p e s m below meth c A ls cx hr hlk hmn hA hl hw
  have hx := cx.1
  have hb := cx.2.1
  have hl : lv_has ls 1 [(0, .ref h0)] := hl
  refine lv_aload_n hx hb dX9_init_0 rfl (lv_at hl 0 rfl) ?_
  refine r_objInit cx ml_X9_3 hl.1 dX9_init_1 (Nat.le_of_ble_eq_true rfl) (Nat.le_of_ble_eq_true rfl) ?_
  refine lv_aload_n hx hb dX9_init_4 rfl (lv_at hl 0 rfl) ?_
  refine lv_ldc hx hb cx.2.2.2.1 (cx.2.2.2.2.1 _ cs_X9_11) dX9_init_5 ?_
  refine r_newB cx hw hA (N' := 40000) (by decide +kernel) (by decide +kernel) (Nat.le_of_ble_eq_true rfl) (Nat.le_of_ble_eq_true rfl) (Nat.le_of_ble_eq_true rfl) dX9_init_7 (fun q1 H hw => ?_)
  have hw : Wd G A [(h0, ob 8 [.null, .int 0]), (q1, aB G 40000 (fun _ => 0))] s.heap _ _ := hw
  refine r_putF cx hw inX9 (ci := 8) rfl tyX9_ok nmX9 hmn 0 rfl 0 (by decide) fl_X9_12 rfl rfl rfl rfl (Nat.le_of_ble_eq_true rfl) (ws' := [(h0, ob 8 [.ref q1, .int 0]), (q1, aB G 40000 (fun _ => 0))]) rfl dX9_init_9 (fun H locs hw => ?_)
  refine lv_aload_n hx hb dX9_init_12 rfl (lv_at hl 0 rfl) ?_
  refine lv_iconst (v := 0) hx hb dX9_init_13 (by decide) ?_
  refine r_put cx hw inX9 (ci := 8) rfl tyX9_ok nmX9 0 rfl 1 (by decide) fl_X9_16 rfl rfl rfl (Nat.le_of_ble_eq_true rfl) (ws' := [(h0, ob 8 [.ref q1, .int 0]), (q1, aB G 40000 (fun _ => 0))]) rfl dX9_init_14 (fun H locs hw => ?_)
  have hw : Wd G A [(h0, ob 8 [.ref q1, .int 0]), (q1, aB G 40000 (fun _ => 0))] s.heap _ _ := hw.sub [0, 1] rfl rfl
  exact r_vret cx hr hlk (fun k => [q1].getD k 0) trivial hw (Nat.le_of_ble_eq_true rfl) (Nat.le_of_ble_eq_true rfl) dX9_init_17

set_option maxHeartbeats 4000000 in
set_option maxRecDepth 100000 in
theorem c_SRun (l : Launch) (G : Gt) (h0 : Nat) (a1 : Nat) (a2 : Nat) (a3 : Nat) : Mt l yX7_init cX7_init 4 none ({ frames := 1, cells := 2, slots := 13, locals := 12 } : Room) G [.ref h0, .ref a1, .ref a2, .ref a3] [(h0, ob 6 [.null, .null, .null, .null, .null, .int 0])] (qV G (fun (w : Nat → Nat) => True) (fun w => [(h0, ob 6 [.ref a1, .ref (w 0), .ref (w 1), .ref a2, .ref a3, .int (-1)]), (w 0, aJ G 8 (fun _ => 0)), (w 1, aJ G 5 (fun _ => 0))])) := by
  refine Mt.of (own := RX7) (cc := cX7_init) (by decide) rfl (Nat.le_of_ble_eq_true rfl) ?_
  intro p e s m below meth c A ls cx hr hlk hmn hA hl hw
  have hx := cx.1
  have hb := cx.2.1
  have hl : lv_has ls 4 [(0, .ref h0), (1, .ref a1), (2, .ref a2), (3, .ref a3)] := hl
  refine lv_aload_n hx hb dX7_init_0 rfl (lv_at hl 0 rfl) ?_
  refine r_objInit cx ml_X7_3 hl.1 dX7_init_1 (Nat.le_of_ble_eq_true rfl) (Nat.le_of_ble_eq_true rfl) ?_
  refine lv_aload_n hx hb dX7_init_4 rfl (lv_at hl 0 rfl) ?_
  refine lv_aload_n hx hb dX7_init_5 rfl (lv_at hl 1 rfl) ?_
  refine r_putF cx hw inX7 (ci := 6) rfl tyX7_ok nmX7 hmn 0 rfl 0 (by decide) fl_X7_9 rfl rfl rfl rfl (Nat.le_of_ble_eq_true rfl) (ws' := [(h0, ob 6 [.ref a1, .null, .null, .null, .null, .int 0])]) rfl dX7_init_6 (fun H locs hw => ?_)
  refine lv_aload_n hx hb dX7_init_9 rfl (lv_at hl 0 rfl) ?_
  refine lv_bipush (v := 8) hx hb dX7_init_10 (by decide) ?_
  refine r_newJ cx hw hA (N' := 8) (by decide +kernel) (by decide +kernel) (Nat.le_of_ble_eq_true rfl) (Nat.le_of_ble_eq_true rfl) (Nat.le_of_ble_eq_true rfl) dX7_init_12 (fun q1 H hw => ?_)
  have hw : Wd G A [(h0, ob 6 [.ref a1, .null, .null, .null, .null, .int 0]), (q1, aJ G 8 (fun _ => 0))] s.heap _ _ := hw
  refine r_putF cx hw inX7 (ci := 6) rfl tyX7_ok nmX7 hmn 0 rfl 1 (by decide) fl_X7_17 rfl rfl rfl rfl (Nat.le_of_ble_eq_true rfl) (ws' := [(h0, ob 6 [.ref a1, .ref q1, .null, .null, .null, .int 0]), (q1, aJ G 8 (fun _ => 0))]) rfl dX7_init_14 (fun H locs hw => ?_)
  refine lv_aload_n hx hb dX7_init_17 rfl (lv_at hl 0 rfl) ?_
  refine lv_iconst (v := 5) hx hb dX7_init_18 (by decide) ?_
  refine r_newJ cx hw hA (N' := 5) (by decide +kernel) (by decide +kernel) (Nat.le_of_ble_eq_true rfl) (Nat.le_of_ble_eq_true rfl) (Nat.le_of_ble_eq_true rfl) dX7_init_19 (fun q2 H hw => ?_)
  have hw : Wd G A [(h0, ob 6 [.ref a1, .ref q1, .null, .null, .null, .int 0]), (q1, aJ G 8 (fun _ => 0)), (q2, aJ G 5 (fun _ => 0))] s.heap _ _ := hw
  refine r_putF cx hw inX7 (ci := 6) rfl tyX7_ok nmX7 hmn 0 rfl 2 (by decide) fl_X7_23 rfl rfl rfl rfl (Nat.le_of_ble_eq_true rfl) (ws' := [(h0, ob 6 [.ref a1, .ref q1, .ref q2, .null, .null, .int 0]), (q1, aJ G 8 (fun _ => 0)), (q2, aJ G 5 (fun _ => 0))]) rfl dX7_init_21 (fun H locs hw => ?_)
  refine lv_aload_n hx hb dX7_init_24 rfl (lv_at hl 0 rfl) ?_
  refine lv_aload_n hx hb dX7_init_25 rfl (lv_at hl 2 rfl) ?_
  refine r_put cx hw inX7 (ci := 6) rfl tyX7_ok nmX7 0 rfl 3 (by decide) fl_X7_26 rfl rfl rfl (Nat.le_of_ble_eq_true rfl) (ws' := [(h0, ob 6 [.ref a1, .ref q1, .ref q2, .ref a2, .null, .int 0]), (q1, aJ G 8 (fun _ => 0)), (q2, aJ G 5 (fun _ => 0))]) rfl dX7_init_26 (fun H locs hw => ?_)
  refine lv_aload_n hx hb dX7_init_29 rfl (lv_at hl 0 rfl) ?_
  refine lv_aload_n hx hb dX7_init_30 rfl (lv_at hl 3 rfl) ?_
  refine r_put cx hw inX7 (ci := 6) rfl tyX7_ok nmX7 0 rfl 4 (by decide) fl_X7_30 rfl rfl rfl (Nat.le_of_ble_eq_true rfl) (ws' := [(h0, ob 6 [.ref a1, .ref q1, .ref q2, .ref a2, .ref a3, .int 0]), (q1, aJ G 8 (fun _ => 0)), (q2, aJ G 5 (fun _ => 0))]) rfl dX7_init_31 (fun H locs hw => ?_)
  refine lv_aload_n hx hb dX7_init_34 rfl (lv_at hl 0 rfl) ?_
  refine lv_iconst (v := (-1)) hx hb dX7_init_35 (by decide) ?_
  refine r_put cx hw inX7 (ci := 6) rfl tyX7_ok nmX7 0 rfl 5 (by decide) fl_X7_34 rfl rfl rfl (Nat.le_of_ble_eq_true rfl) (ws' := [(h0, ob 6 [.ref a1, .ref q1, .ref q2, .ref a2, .ref a3, .int (-1)]), (q1, aJ G 8 (fun _ => 0)), (q2, aJ G 5 (fun _ => 0))]) rfl dX7_init_36 (fun H locs hw => ?_)
  have hw : Wd G A [(h0, ob 6 [.ref a1, .ref q1, .ref q2, .ref a2, .ref a3, .int (-1)]), (q1, aJ G 8 (fun _ => 0)), (q2, aJ G 5 (fun _ => 0))] s.heap _ _ := hw.sub [0, 1, 2] rfl rfl
  exact r_vret cx hr hlk (fun k => [q1, q2].getD k 0) trivial hw (Nat.le_of_ble_eq_true rfl) (Nat.le_of_ble_eq_true rfl) dX7_init_39

set_option maxHeartbeats 4000000 in
set_option maxRecDepth 100000 in
theorem c_RRun (l : Launch) (G : Gt) (h0 : Nat) (a1 : Nat) (a2 : Nat) (a3 : Nat) : Mt l yX6_init cX6_init 4 none ({ frames := 1, cells := 4, slots := 11044, locals := 12 } : Room) G [.ref h0, .ref a1, .ref a2, .ref a3] [(h0, ob 5 [.null, .null, .null, .null, .null, .int 0, .int 0, .null, .null])] (qV G (fun (w : Nat → Nat) => True) (fun w => [(h0, ob 5 [.ref a1, .ref (w 0), .ref (w 1), .ref (w 2), .ref (w 3), .int 0, .int 0, .ref a2, .ref a3]), (w 0, aJ G 9548 (fun _ => 0)), (w 1, aJ G 8 (fun _ => 0)), (w 2, aI G 744 (fun _ => 0)), (w 3, aI G 744 (fun _ => 0))])) := by
  refine Mt.of (own := RX6) (cc := cX6_init) (by decide) rfl (Nat.le_of_ble_eq_true rfl) ?_
  intro p e s m below meth c A ls cx hr hlk hmn hA hl hw
  have hx := cx.1
  have hb := cx.2.1
  have hl : lv_has ls 4 [(0, .ref h0), (1, .ref a1), (2, .ref a2), (3, .ref a3)] := hl
  refine lv_aload_n hx hb dX6_init_0 rfl (lv_at hl 0 rfl) ?_
  refine r_objInit cx ml_X6_7 hl.1 dX6_init_1 (Nat.le_of_ble_eq_true rfl) (Nat.le_of_ble_eq_true rfl) ?_
  refine lv_aload_n hx hb dX6_init_4 rfl (lv_at hl 0 rfl) ?_
  refine lv_aload_n hx hb dX6_init_5 rfl (lv_at hl 1 rfl) ?_
  refine r_putF cx hw inX6 (ci := 5) rfl tyX6_ok nmX6 hmn 0 rfl 0 (by decide) fl_X6_13 rfl rfl rfl rfl (Nat.le_of_ble_eq_true rfl) (ws' := [(h0, ob 5 [.ref a1, .null, .null, .null, .null, .int 0, .int 0, .null, .null])]) rfl dX6_init_6 (fun H locs hw => ?_)
  refine lv_aload_n hx hb dX6_init_9 rfl (lv_at hl 0 rfl) ?_
  refine lv_sipush (v := 9548) hx hb dX6_init_10 (by decide) ?_
  refine r_newJ cx hw hA (N' := 9548) (by decide +kernel) (by decide +kernel) (Nat.le_of_ble_eq_true rfl) (Nat.le_of_ble_eq_true rfl) (Nat.le_of_ble_eq_true rfl) dX6_init_13 (fun q1 H hw => ?_)
  have hw : Wd G A [(h0, ob 5 [.ref a1, .null, .null, .null, .null, .int 0, .int 0, .null, .null]), (q1, aJ G 9548 (fun _ => 0))] s.heap _ _ := hw
  refine r_putF cx hw inX6 (ci := 5) rfl tyX6_ok nmX6 hmn 0 rfl 1 (by decide) fl_X6_19 rfl rfl rfl rfl (Nat.le_of_ble_eq_true rfl) (ws' := [(h0, ob 5 [.ref a1, .ref q1, .null, .null, .null, .int 0, .int 0, .null, .null]), (q1, aJ G 9548 (fun _ => 0))]) rfl dX6_init_15 (fun H locs hw => ?_)
  refine lv_aload_n hx hb dX6_init_18 rfl (lv_at hl 0 rfl) ?_
  refine lv_bipush (v := 8) hx hb dX6_init_19 (by decide) ?_
  refine r_newJ cx hw hA (N' := 8) (by decide +kernel) (by decide +kernel) (Nat.le_of_ble_eq_true rfl) (Nat.le_of_ble_eq_true rfl) (Nat.le_of_ble_eq_true rfl) dX6_init_21 (fun q2 H hw => ?_)
  have hw : Wd G A [(h0, ob 5 [.ref a1, .ref q1, .null, .null, .null, .int 0, .int 0, .null, .null]), (q1, aJ G 9548 (fun _ => 0)), (q2, aJ G 8 (fun _ => 0))] s.heap _ _ := hw
  refine r_putF cx hw inX6 (ci := 5) rfl tyX6_ok nmX6 hmn 0 rfl 2 (by decide) fl_X6_23 rfl rfl rfl rfl (Nat.le_of_ble_eq_true rfl) (ws' := [(h0, ob 5 [.ref a1, .ref q1, .ref q2, .null, .null, .int 0, .int 0, .null, .null]), (q1, aJ G 9548 (fun _ => 0)), (q2, aJ G 8 (fun _ => 0))]) rfl dX6_init_23 (fun H locs hw => ?_)
  refine lv_aload_n hx hb dX6_init_26 rfl (lv_at hl 0 rfl) ?_
  refine lv_sipush (v := 744) hx hb dX6_init_27 (by decide) ?_
  refine r_newI cx hw hA (N' := 744) (by decide +kernel) (by decide +kernel) (Nat.le_of_ble_eq_true rfl) (Nat.le_of_ble_eq_true rfl) (Nat.le_of_ble_eq_true rfl) dX6_init_30 (fun q3 H hw => ?_)
  have hw : Wd G A [(h0, ob 5 [.ref a1, .ref q1, .ref q2, .null, .null, .int 0, .int 0, .null, .null]), (q1, aJ G 9548 (fun _ => 0)), (q2, aJ G 8 (fun _ => 0)), (q3, aI G 744 (fun _ => 0))] s.heap _ _ := hw
  refine r_putF cx hw inX6 (ci := 5) rfl tyX6_ok nmX6 hmn 0 rfl 3 (by decide) fl_X6_26 rfl rfl rfl rfl (Nat.le_of_ble_eq_true rfl) (ws' := [(h0, ob 5 [.ref a1, .ref q1, .ref q2, .ref q3, .null, .int 0, .int 0, .null, .null]), (q1, aJ G 9548 (fun _ => 0)), (q2, aJ G 8 (fun _ => 0)), (q3, aI G 744 (fun _ => 0))]) rfl dX6_init_32 (fun H locs hw => ?_)
  refine lv_aload_n hx hb dX6_init_35 rfl (lv_at hl 0 rfl) ?_
  refine lv_sipush (v := 744) hx hb dX6_init_36 (by decide) ?_
  refine r_newI cx hw hA (N' := 744) (by decide +kernel) (by decide +kernel) (Nat.le_of_ble_eq_true rfl) (Nat.le_of_ble_eq_true rfl) (Nat.le_of_ble_eq_true rfl) dX6_init_39 (fun q4 H hw => ?_)
  have hw : Wd G A [(h0, ob 5 [.ref a1, .ref q1, .ref q2, .ref q3, .null, .int 0, .int 0, .null, .null]), (q1, aJ G 9548 (fun _ => 0)), (q2, aJ G 8 (fun _ => 0)), (q3, aI G 744 (fun _ => 0)), (q4, aI G 744 (fun _ => 0))] s.heap _ _ := hw
  refine r_putF cx hw inX6 (ci := 5) rfl tyX6_ok nmX6 hmn 0 rfl 4 (by decide) fl_X6_30 rfl rfl rfl rfl (Nat.le_of_ble_eq_true rfl) (ws' := [(h0, ob 5 [.ref a1, .ref q1, .ref q2, .ref q3, .ref q4, .int 0, .int 0, .null, .null]), (q1, aJ G 9548 (fun _ => 0)), (q2, aJ G 8 (fun _ => 0)), (q3, aI G 744 (fun _ => 0)), (q4, aI G 744 (fun _ => 0))]) rfl dX6_init_41 (fun H locs hw => ?_)
  refine lv_aload_n hx hb dX6_init_44 rfl (lv_at hl 0 rfl) ?_
  refine lv_aload_n hx hb dX6_init_45 rfl (lv_at hl 2 rfl) ?_
  refine r_put cx hw inX6 (ci := 5) rfl tyX6_ok nmX6 0 rfl 7 (by decide) fl_X6_33 rfl rfl rfl (Nat.le_of_ble_eq_true rfl) (ws' := [(h0, ob 5 [.ref a1, .ref q1, .ref q2, .ref q3, .ref q4, .int 0, .int 0, .ref a2, .null]), (q1, aJ G 9548 (fun _ => 0)), (q2, aJ G 8 (fun _ => 0)), (q3, aI G 744 (fun _ => 0)), (q4, aI G 744 (fun _ => 0))]) rfl dX6_init_46 (fun H locs hw => ?_)
  refine lv_aload_n hx hb dX6_init_49 rfl (lv_at hl 0 rfl) ?_
  refine lv_aload_n hx hb dX6_init_50 rfl (lv_at hl 3 rfl) ?_
  refine r_put cx hw inX6 (ci := 5) rfl tyX6_ok nmX6 0 rfl 8 (by decide) fl_X6_37 rfl rfl rfl (Nat.le_of_ble_eq_true rfl) (ws' := [(h0, ob 5 [.ref a1, .ref q1, .ref q2, .ref q3, .ref q4, .int 0, .int 0, .ref a2, .ref a3]), (q1, aJ G 9548 (fun _ => 0)), (q2, aJ G 8 (fun _ => 0)), (q3, aI G 744 (fun _ => 0)), (q4, aI G 744 (fun _ => 0))]) rfl dX6_init_51 (fun H locs hw => ?_)
  refine lv_aload_n hx hb dX6_init_54 rfl (lv_at hl 0 rfl) ?_
  refine lv_iconst (v := 0) hx hb dX6_init_55 (by decide) ?_
  refine r_put cx hw inX6 (ci := 5) rfl tyX6_ok nmX6 0 rfl 5 (by decide) fl_X6_41 rfl rfl rfl (Nat.le_of_ble_eq_true rfl) (ws' := [(h0, ob 5 [.ref a1, .ref q1, .ref q2, .ref q3, .ref q4, .int 0, .int 0, .ref a2, .ref a3]), (q1, aJ G 9548 (fun _ => 0)), (q2, aJ G 8 (fun _ => 0)), (q3, aI G 744 (fun _ => 0)), (q4, aI G 744 (fun _ => 0))]) rfl dX6_init_56 (fun H locs hw => ?_)
  refine lv_aload_n hx hb dX6_init_59 rfl (lv_at hl 0 rfl) ?_
  refine lv_iconst (v := 0) hx hb dX6_init_60 (by decide) ?_
  refine r_put cx hw inX6 (ci := 5) rfl tyX6_ok nmX6 0 rfl 6 (by decide) fl_X6_45 rfl rfl rfl (Nat.le_of_ble_eq_true rfl) (ws' := [(h0, ob 5 [.ref a1, .ref q1, .ref q2, .ref q3, .ref q4, .int 0, .int 0, .ref a2, .ref a3]), (q1, aJ G 9548 (fun _ => 0)), (q2, aJ G 8 (fun _ => 0)), (q3, aI G 744 (fun _ => 0)), (q4, aI G 744 (fun _ => 0))]) rfl dX6_init_61 (fun H locs hw => ?_)
  have hw : Wd G A [(h0, ob 5 [.ref a1, .ref q1, .ref q2, .ref q3, .ref q4, .int 0, .int 0, .ref a2, .ref a3]), (q1, aJ G 9548 (fun _ => 0)), (q2, aJ G 8 (fun _ => 0)), (q3, aI G 744 (fun _ => 0)), (q4, aI G 744 (fun _ => 0))] s.heap _ _ := hw.sub [0, 1, 2, 3, 4] rfl rfl
  exact r_vret cx hr hlk (fun k => [q1, q2, q3, q4].getD k 0) trivial hw (Nat.le_of_ble_eq_true rfl) (Nat.le_of_ble_eq_true rfl) dX6_init_64

