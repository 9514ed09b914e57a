set_option maxHeartbeats 4000000 in
set_option maxRecDepth 100000 in
theorem c_Pat30 (l : Launch) (G : Gt) (h0 : Nat) : Mt l yX2_init cX2_init 2 none ({ frames := 1, cells := 2, slots := 60, locals := 12 } : Room) G [.ref h0, .int 30] [(h0, ob 1 [.null, .null, .int 0, .int 0])] (qV G (fun (w : Nat → Nat) => True) (fun w => [(h0, ob 1 [.ref (w 0), .ref (w 1), .int 0, .int 0])])) := by
  refine Mt.of (own := RX2) (cc := cX2_init) (by decide) rfl (Nat.le_of_ble_eq_true rfl) ?_
  intro p e s m below meth c A ls cx hr hlk hmn hA hl hw
  have hx := cx.1
  have hb := cx.2.1
  have hl : lv_has ls 2 [(0, .ref h0), (1, .int 30)] := hl
  refine lv_aload_n hx hb dX2_init_0 rfl (lv_at hl 0 rfl) ?_
  refine r_objInit cx ml_X2_3 hl.1 dX2_init_1 (Nat.le_of_ble_eq_true rfl) (Nat.le_of_ble_eq_true rfl) ?_
  refine lv_aload_n hx hb dX2_init_4 rfl (lv_at hl 0 rfl) ?_
  refine lv_iload_n hx hb dX2_init_5 rfl (lv_at hl 1 rfl) ?_
  refine r_newJ cx hw hA (N' := 30) (by decide +kernel) (by decide +kernel) (Nat.le_of_ble_eq_true rfl) (Nat.le_of_ble_eq_true rfl) (Nat.le_of_ble_eq_true rfl) dX2_init_6 (fun q1 H hw => ?_)
  have hw : Wd G A [(h0, ob 1 [.null, .null, .int 0, .int 0]), (q1, aJ G 30 (fun _ => 0))] s.heap _ _ := hw
  refine r_putF cx hw inX2 (ci := 1) rfl tyX2_ok nmX2 hmn 0 rfl 0 (by decide) fl_X2_9 rfl rfl rfl rfl (Nat.le_of_ble_eq_true rfl) (ws' := [(h0, ob 1 [.ref q1, .null, .int 0, .int 0]), (q1, aJ G 30 (fun _ => 0))]) rfl dX2_init_8 (fun H locs hw => ?_)
  refine lv_aload_n hx hb dX2_init_11 rfl (lv_at hl 0 rfl) ?_
  refine lv_iload_n hx hb dX2_init_12 rfl (lv_at hl 1 rfl) ?_
  refine r_newJ cx hw hA (N' := 30) (by decide +kernel) (by decide +kernel) (Nat.le_of_ble_eq_true rfl) (Nat.le_of_ble_eq_true rfl) (Nat.le_of_ble_eq_true rfl) dX2_init_13 (fun q2 H hw => ?_)
  have hw : Wd G A [(h0, ob 1 [.ref q1, .null, .int 0, .int 0]), (q1, aJ G 30 (fun _ => 0)), (q2, aJ G 30 (fun _ => 0))] s.heap _ _ := hw
  refine r_putF cx hw inX2 (ci := 1) rfl tyX2_ok nmX2 hmn 0 rfl 1 (by decide) fl_X2_15 rfl rfl rfl rfl (Nat.le_of_ble_eq_true rfl) (ws' := [(h0, ob 1 [.ref q1, .ref q2, .int 0, .int 0]), (q1, aJ G 30 (fun _ => 0)), (q2, aJ G 30 (fun _ => 0))]) rfl dX2_init_15 (fun H locs hw => ?_)
  refine lv_aload_n hx hb dX2_init_18 rfl (lv_at hl 0 rfl) ?_
  refine lv_iconst (v := 0) hx hb dX2_init_19 (by decide) ?_
  refine r_put cx hw inX2 (ci := 1) rfl tyX2_ok nmX2 0 rfl 2 (by decide) fl_X2_18 rfl rfl rfl (Nat.le_of_ble_eq_true rfl) (ws' := [(h0, ob 1 [.ref q1, .ref q2, .int 0, .int 0]), (q1, aJ G 30 (fun _ => 0)), (q2, aJ G 30 (fun _ => 0))]) rfl dX2_init_20 (fun H locs hw => ?_)
  refine lv_aload_n hx hb dX2_init_23 rfl (lv_at hl 0 rfl) ?_
  refine lv_iconst (v := 0) hx hb dX2_init_24 (by decide) ?_
  refine r_put cx hw inX2 (ci := 1) rfl tyX2_ok nmX2 0 rfl 3 (by decide) fl_X2_22 rfl rfl rfl (Nat.le_of_ble_eq_true rfl) (ws' := [(h0, ob 1 [.ref q1, .ref q2, .int 0, .int 0]), (q1, aJ G 30 (fun _ => 0)), (q2, aJ G 30 (fun _ => 0))]) rfl dX2_init_25 (fun H locs hw => ?_)
  have hw : Wd G A [(h0, ob 1 [.ref q1, .ref q2, .int 0, .int 0])] s.heap _ _ := hw.sub [0] rfl rfl
  exact r_vret cx hr hlk (fun k => [q1, q2].getD k 0) trivial hw (Nat.le_of_ble_eq_true rfl) (Nat.le_of_ble_eq_true rfl) dX2_init_28

set_option maxHeartbeats 4000000 in
set_option maxRecDepth 100000 in
theorem c_Pat40 (l : Launch) (G : Gt) (h0 : Nat) : Mt l yX2_init cX2_init 2 none ({ frames := 1, cells := 2, slots := 80, locals := 12 } : Room) G [.ref h0, .int 40] [(h0, ob 1 [.null, .null, .int 0, .int 0])] (qV G (fun (w : Nat → Nat) => True) (fun w => [(h0, ob 1 [.ref (w 0), .ref (w 1), .int 0, .int 0])])) := by
  refine Mt.of (own := RX2) (cc := cX2_init) (by decide) rfl (Nat.le_of_ble_eq_true rfl) ?_
  intro p e s m below meth c A ls cx hr hlk hmn hA hl hw
  have hx := cx.1
  have hb := cx.2.1
  have hl : lv_has ls 2 [(0, .ref h0), (1, .int 40)] := hl
  refine lv_aload_n hx hb dX2_init_0 rfl (lv_at hl 0 rfl) ?_
  refine r_objInit cx ml_X2_3 hl.1 dX2_init_1 (Nat.le_of_ble_eq_true rfl) (Nat.le_of_ble_eq_true rfl) ?_
  refine lv_aload_n hx hb dX2_init_4 rfl (lv_at hl 0 rfl) ?_
  refine lv_iload_n hx hb dX2_init_5 rfl (lv_at hl 1 rfl) ?_
  refine r_newJ cx hw hA (N' := 40) (by decide +kernel) (by decide +kernel) (Nat.le_of_ble_eq_true rfl) (Nat.le_of_ble_eq_true rfl) (Nat.le_of_ble_eq_true rfl) dX2_init_6 (fun q1 H hw => ?_)
  have hw : Wd G A [(h0, ob 1 [.null, .null, .int 0, .int 0]), (q1, aJ G 40 (fun _ => 0))] s.heap _ _ := hw
  refine r_putF cx hw inX2 (ci := 1) rfl tyX2_ok nmX2 hmn 0 rfl 0 (by decide) fl_X2_9 rfl rfl rfl rfl (Nat.le_of_ble_eq_true rfl) (ws' := [(h0, ob 1 [.ref q1, .null, .int 0, .int 0]), (q1, aJ G 40 (fun _ => 0))]) rfl dX2_init_8 (fun H locs hw => ?_)
  refine lv_aload_n hx hb dX2_init_11 rfl (lv_at hl 0 rfl) ?_
  refine lv_iload_n hx hb dX2_init_12 rfl (lv_at hl 1 rfl) ?_
  refine r_newJ cx hw hA (N' := 40) (by decide +kernel) (by decide +kernel) (Nat.le_of_ble_eq_true rfl) (Nat.le_of_ble_eq_true rfl) (Nat.le_of_ble_eq_true rfl) dX2_init_13 (fun q2 H hw => ?_)
  have hw : Wd G A [(h0, ob 1 [.ref q1, .null, .int 0, .int 0]), (q1, aJ G 40 (fun _ => 0)), (q2, aJ G 40 (fun _ => 0))] s.heap _ _ := hw
  refine r_putF cx hw inX2 (ci := 1) rfl tyX2_ok nmX2 hmn 0 rfl 1 (by decide) fl_X2_15 rfl rfl rfl rfl (Nat.le_of_ble_eq_true rfl) (ws' := [(h0, ob 1 [.ref q1, .ref q2, .int 0, .int 0]), (q1, aJ G 40 (fun _ => 0)), (q2, aJ G 40 (fun _ => 0))]) rfl dX2_init_15 (fun H locs hw => ?_)
  refine lv_aload_n hx hb dX2_init_18 rfl (lv_at hl 0 rfl) ?_
  refine lv_iconst (v := 0) hx hb dX2_init_19 (by decide) ?_
  refine r_put cx hw inX2 (ci := 1) rfl tyX2_ok nmX2 0 rfl 2 (by decide) fl_X2_18 rfl rfl rfl (Nat.le_of_ble_eq_true rfl) (ws' := [(h0, ob 1 [.ref q1, .ref q2, .int 0, .int 0]), (q1, aJ G 40 (fun _ => 0)), (q2, aJ G 40 (fun _ => 0))]) rfl dX2_init_20 (fun H locs hw => ?_)
  refine lv_aload_n hx hb dX2_init_23 rfl (lv_at hl 0 rfl) ?_
  refine lv_iconst (v := 0) hx hb dX2_init_24 (by decide) ?_
  refine r_put cx hw inX2 (ci := 1) rfl tyX2_ok nmX2 0 rfl 3 (by decide) fl_X2_22 rfl rfl rfl (Nat.le_of_ble_eq_true rfl) (ws' := [(h0, ob 1 [.ref q1, .ref q2, .int 0, .int 0]), (q1, aJ G 40 (fun _ => 0)), (q2, aJ G 40 (fun _ => 0))]) rfl dX2_init_25 (fun H locs hw => ?_)
  have hw : Wd G A [(h0, ob 1 [.ref q1, .ref q2, .int 0, .int 0])] s.heap _ _ := hw.sub [0] rfl rfl
  exact r_vret cx hr hlk (fun k => [q1, q2].getD k 0) trivial hw (Nat.le_of_ble_eq_true rfl) (Nat.le_of_ble_eq_true rfl) dX2_init_28

set_option maxHeartbeats 4000000 in
set_option maxRecDepth 100000 in
theorem c_Pat200 (l : Launch) (G : Gt) (h0 : Nat) : Mt l yX2_init cX2_init 2 none ({ frames := 1, cells := 2, slots := 400, locals := 12 } : Room) G [.ref h0, .int 200] [(h0, ob 1 [.null, .null, .int 0, .int 0])] (qV G (fun (w : Nat → Nat) => True) (fun w => [(h0, ob 1 [.ref (w 0), .ref (w 1), .int 0, .int 0])])) := by
  refine Mt.of (own := RX2) (cc := cX2_init) (by decide) rfl (Nat.le_of_ble_eq_true rfl) ?_
  intro p e s m below meth c A ls cx hr hlk hmn hA hl hw
  have hx := cx.1
  have hb := cx.2.1
  have hl : lv_has ls 2 [(0, .ref h0), (1, .int 200)] := hl
  refine lv_aload_n hx hb dX2_init_0 rfl (lv_at hl 0 rfl) ?_
  refine r_objInit cx ml_X2_3 hl.1 dX2_init_1 (Nat.le_of_ble_eq_true rfl) (Nat.le_of_ble_eq_true rfl) ?_
  refine lv_aload_n hx hb dX2_init_4 rfl (lv_at hl 0 rfl) ?_
  refine lv_iload_n hx hb dX2_init_5 rfl (lv_at hl 1 rfl) ?_
  refine r_newJ cx hw hA (N' := 200) (by decide +kernel) (by decide +kernel) (Nat.le_of_ble_eq_true rfl) (Nat.le_of_ble_eq_true rfl) (Nat.le_of_ble_eq_true rfl) dX2_init_6 (fun q1 H hw => ?_)
  have hw : Wd G A [(h0, ob 1 [.null, .null, .int 0, .int 0]), (q1, aJ G 200 (fun _ => 0))] s.heap _ _ := hw
  refine r_putF cx hw inX2 (ci := 1) rfl tyX2_ok nmX2 hmn 0 rfl 0 (by decide) fl_X2_9 rfl rfl rfl rfl (Nat.le_of_ble_eq_true rfl) (ws' := [(h0, ob 1 [.ref q1, .null, .int 0, .int 0]), (q1, aJ G 200 (fun _ => 0))]) rfl dX2_init_8 (fun H locs hw => ?_)
  refine lv_aload_n hx hb dX2_init_11 rfl (lv_at hl 0 rfl) ?_
  refine lv_iload_n hx hb dX2_init_12 rfl (lv_at hl 1 rfl) ?_
  refine r_newJ cx hw hA (N' := 200) (by decide +kernel) (by decide +kernel) (Nat.le_of_ble_eq_true rfl) (Nat.le_of_ble_eq_true rfl) (Nat.le_of_ble_eq_true rfl) dX2_init_13 (fun q2 H hw => ?_)
  have hw : Wd G A [(h0, ob 1 [.ref q1, .null, .int 0, .int 0]), (q1, aJ G 200 (fun _ => 0)), (q2, aJ G 200 (fun _ => 0))] s.heap _ _ := hw
  refine r_putF cx hw inX2 (ci := 1) rfl tyX2_ok nmX2 hmn 0 rfl 1 (by decide) fl_X2_15 rfl rfl rfl rfl (Nat.le_of_ble_eq_true rfl) (ws' := [(h0, ob 1 [.ref q1, .ref q2, .int 0, .int 0]), (q1, aJ G 200 (fun _ => 0)), (q2, aJ G 200 (fun _ => 0))]) rfl dX2_init_15 (fun H locs hw => ?_)
  refine lv_aload_n hx hb dX2_init_18 rfl (lv_at hl 0 rfl) ?_
  refine lv_iconst (v := 0) hx hb dX2_init_19 (by decide) ?_
  refine r_put cx hw inX2 (ci := 1) rfl tyX2_ok nmX2 0 rfl 2 (by decide) fl_X2_18 rfl rfl rfl (Nat.le_of_ble_eq_true rfl) (ws' := [(h0, ob 1 [.ref q1, .ref q2, .int 0, .int 0]), (q1, aJ G 200 (fun _ => 0)), (q2, aJ G 200 (fun _ => 0))]) rfl dX2_init_20 (fun H locs hw => ?_)
  refine lv_aload_n hx hb dX2_init_23 rfl (lv_at hl 0 rfl) ?_
  refine lv_iconst (v := 0) hx hb dX2_init_24 (by decide) ?_
  refine r_put cx hw inX2 (ci := 1) rfl tyX2_ok nmX2 0 rfl 3 (by decide) fl_X2_22 rfl rfl rfl (Nat.le_of_ble_eq_true rfl) (ws' := [(h0, ob 1 [.ref q1, .ref q2, .int 0, .int 0]), (q1, aJ G 200 (fun _ => 0)), (q2, aJ G 200 (fun _ => 0))]) rfl dX2_init_25 (fun H locs hw => ?_)
  have hw : Wd G A [(h0, ob 1 [.ref q1, .ref q2, .int 0, .int 0])] s.heap _ _ := hw.sub [0] rfl rfl
  exact r_vret cx hr hlk (fun k => [q1, q2].getD k 0) trivial hw (Nat.le_of_ble_eq_true rfl) (Nat.le_of_ble_eq_true rfl) dX2_init_28

set_option maxHeartbeats 4000000 in
set_option maxRecDepth 100000 in
theorem c_Prog (l : Launch) (G : Gt) (h0 : Nat) : Mt l yX3_init cX3_init 2 none ({ frames := 1, cells := 6, slots := 7992, locals := 12 } : Room) G [.ref h0] [(h0, ob 2 [.int 0, .int 0, .int 0, .null, .null, .null, .null, .null, .null])] (qV G (fun (w : Nat → Nat) => True) (fun w => [(h0, ob 2 [.int 0, .int 0, .int 0, .ref (w 0), .ref (w 1), .ref (w 2), .ref (w 3), .ref (w 4), .ref (w 5)]), (w 2, aI G 72 (fl_fill (-1) 0 72))])) := by
  refine Mt.of (own := RX3) (cc := cX3_init) (by decide) rfl (Nat.le_of_ble_eq_true rfl) ?_
  intro p e s m below meth c A ls cx hr hlk hmn hA hl hw
  have hx := cx.1
  have hb := cx.2.1
  have hl : lv_has ls 2 [(0, .ref h0)] := hl
  refine lv_aload_n hx hb dX3_init_0 rfl (lv_at hl 0 rfl) ?_
  refine r_objInit cx ml_X3_5 hl.1 dX3_init_1 (Nat.le_of_ble_eq_true rfl) (Nat.le_of_ble_eq_true rfl) ?_
  refine lv_aload_n hx hb dX3_init_4 rfl (lv_at hl 0 rfl) ?_
  refine lv_sipush (v := 432) hx hb dX3_init_5 (by decide) ?_
  refine r_newI cx hw hA (N' := 432) (by decide +kernel) (by decide +kernel) (Nat.le_of_ble_eq_true rfl) (Nat.le_of_ble_eq_true rfl) (Nat.le_of_ble_eq_true rfl) dX3_init_8 (fun q1 H hw => ?_)
  have hw : Wd G A [(h0, ob 2 [.int 0, .int 0, .int 0, .null, .null, .null, .null, .null, .null]), (q1, aI G 432 (fun _ => 0))] s.heap _ _ := hw
  refine r_putF cx hw inX3 (ci := 2) rfl tyX3_ok nmX3 hmn 0 rfl 3 (by decide) fl_X3_11 rfl rfl rfl rfl (Nat.le_of_ble_eq_true rfl) (ws' := [(h0, ob 2 [.int 0, .int 0, .int 0, .ref q1, .null, .null, .null, .null, .null]), (q1, aI G 432 (fun _ => 0))]) rfl dX3_init_10 (fun H locs hw => ?_)
  refine lv_aload_n hx hb dX3_init_13 rfl (lv_at hl 0 rfl) ?_
  refine lv_bipush (v := 72) hx hb dX3_init_14 (by decide) ?_
  refine r_newI cx hw hA (N' := 72) (by decide +kernel) (by decide +kernel) (Nat.le_of_ble_eq_true rfl) (Nat.le_of_ble_eq_true rfl) (Nat.le_of_ble_eq_true rfl) dX3_init_16 (fun q2 H hw => ?_)
  have hw : Wd G A [(h0, ob 2 [.int 0, .int 0, .int 0, .ref q1, .null, .null, .null, .null, .null]), (q1, aI G 432 (fun _ => 0)), (q2, aI G 72 (fun _ => 0))] s.heap _ _ := hw
  refine r_putF cx hw inX3 (ci := 2) rfl tyX3_ok nmX3 hmn 0 rfl 4 (by decide) fl_X3_15 rfl rfl rfl rfl (Nat.le_of_ble_eq_true rfl) (ws' := [(h0, ob 2 [.int 0, .int 0, .int 0, .ref q1, .ref q2, .null, .null, .null, .null]), (q1, aI G 432 (fun _ => 0)), (q2, aI G 72 (fun _ => 0))]) rfl dX3_init_18 (fun H locs hw => ?_)
  refine lv_aload_n hx hb dX3_init_21 rfl (lv_at hl 0 rfl) ?_
  refine lv_bipush (v := 72) hx hb dX3_init_22 (by decide) ?_
  refine r_newI cx hw hA (N' := 72) (by decide +kernel) (by decide +kernel) (Nat.le_of_ble_eq_true rfl) (Nat.le_of_ble_eq_true rfl) (Nat.le_of_ble_eq_true rfl) dX3_init_24 (fun q3 H hw => ?_)
  have hw : Wd G A [(h0, ob 2 [.int 0, .int 0, .int 0, .ref q1, .ref q2, .null, .null, .null, .null]), (q1, aI G 432 (fun _ => 0)), (q2, aI G 72 (fun _ => 0)), (q3, aI G 72 (fun _ => 0))] s.heap _ _ := hw
  refine r_putF cx hw inX3 (ci := 2) rfl tyX3_ok nmX3 hmn 0 rfl 5 (by decide) fl_X3_18 rfl rfl rfl rfl (Nat.le_of_ble_eq_true rfl) (ws' := [(h0, ob 2 [.int 0, .int 0, .int 0, .ref q1, .ref q2, .ref q3, .null, .null, .null]), (q1, aI G 432 (fun _ => 0)), (q2, aI G 72 (fun _ => 0)), (q3, aI G 72 (fun _ => 0))]) rfl dX3_init_26 (fun H locs hw => ?_)
  refine lv_aload_n hx hb dX3_init_29 rfl (lv_at hl 0 rfl) ?_
  refine lv_sipush (v := 2472) hx hb dX3_init_30 (by decide) ?_
  refine r_newI cx hw hA (N' := 2472) (by decide +kernel) (by decide +kernel) (Nat.le_of_ble_eq_true rfl) (Nat.le_of_ble_eq_true rfl) (Nat.le_of_ble_eq_true rfl) dX3_init_33 (fun q4 H hw => ?_)
  have hw : Wd G A [(h0, ob 2 [.int 0, .int 0, .int 0, .ref q1, .ref q2, .ref q3, .null, .null, .null]), (q1, aI G 432 (fun _ => 0)), (q2, aI G 72 (fun _ => 0)), (q3, aI G 72 (fun _ => 0)), (q4, aI G 2472 (fun _ => 0))] s.heap _ _ := hw
  refine r_putF cx hw inX3 (ci := 2) rfl tyX3_ok nmX3 hmn 0 rfl 6 (by decide) fl_X3_21 rfl rfl rfl rfl (Nat.le_of_ble_eq_true rfl) (ws' := [(h0, ob 2 [.int 0, .int 0, .int 0, .ref q1, .ref q2, .ref q3, .ref q4, .null, .null]), (q1, aI G 432 (fun _ => 0)), (q2, aI G 72 (fun _ => 0)), (q3, aI G 72 (fun _ => 0)), (q4, aI G 2472 (fun _ => 0))]) rfl dX3_init_35 (fun H locs hw => ?_)
  refine lv_aload_n hx hb dX3_init_38 rfl (lv_at hl 0 rfl) ?_
  refine lv_sipush (v := 2472) hx hb dX3_init_39 (by decide) ?_
  refine r_newI cx hw hA (N' := 2472) (by decide +kernel) (by decide +kernel) (Nat.le_of_ble_eq_true rfl) (Nat.le_of_ble_eq_true rfl) (Nat.le_of_ble_eq_true rfl) dX3_init_42 (fun q5 H hw => ?_)
  have hw : Wd G A [(h0, ob 2 [.int 0, .int 0, .int 0, .ref q1, .ref q2, .ref q3, .ref q4, .null, .null]), (q1, aI G 432 (fun _ => 0)), (q2, aI G 72 (fun _ => 0)), (q3, aI G 72 (fun _ => 0)), (q4, aI G 2472 (fun _ => 0)), (q5, aI G 2472 (fun _ => 0))] s.heap _ _ := hw
  refine r_putF cx hw inX3 (ci := 2) rfl tyX3_ok nmX3 hmn 0 rfl 7 (by decide) fl_X3_24 rfl rfl rfl rfl (Nat.le_of_ble_eq_true rfl) (ws' := [(h0, ob 2 [.int 0, .int 0, .int 0, .ref q1, .ref q2, .ref q3, .ref q4, .ref q5, .null]), (q1, aI G 432 (fun _ => 0)), (q2, aI G 72 (fun _ => 0)), (q3, aI G 72 (fun _ => 0)), (q4, aI G 2472 (fun _ => 0)), (q5, aI G 2472 (fun _ => 0))]) rfl dX3_init_44 (fun H locs hw => ?_)
  refine lv_aload_n hx hb dX3_init_47 rfl (lv_at hl 0 rfl) ?_
  refine lv_sipush (v := 2472) hx hb dX3_init_48 (by decide) ?_
  refine r_newI cx hw hA (N' := 2472) (by decide +kernel) (by decide +kernel) (Nat.le_of_ble_eq_true rfl) (Nat.le_of_ble_eq_true rfl) (Nat.le_of_ble_eq_true rfl) dX3_init_51 (fun q6 H hw => ?_)
  have hw : Wd G A [(h0, ob 2 [.int 0, .int 0, .int 0, .ref q1, .ref q2, .ref q3, .ref q4, .ref q5, .null]), (q1, aI G 432 (fun _ => 0)), (q2, aI G 72 (fun _ => 0)), (q3, aI G 72 (fun _ => 0)), (q4, aI G 2472 (fun _ => 0)), (q5, aI G 2472 (fun _ => 0)), (q6, aI G 2472 (fun _ => 0))] s.heap _ _ := hw
  refine r_putF cx hw inX3 (ci := 2) rfl tyX3_ok nmX3 hmn 0 rfl 8 (by decide) fl_X3_27 rfl rfl rfl rfl (Nat.le_of_ble_eq_true rfl) (ws' := [(h0, ob 2 [.int 0, .int 0, .int 0, .ref q1, .ref q2, .ref q3, .ref q4, .ref q5, .ref q6]), (q1, aI G 432 (fun _ => 0)), (q2, aI G 72 (fun _ => 0)), (q3, aI G 72 (fun _ => 0)), (q4, aI G 2472 (fun _ => 0)), (q5, aI G 2472 (fun _ => 0)), (q6, aI G 2472 (fun _ => 0))]) rfl dX3_init_53 (fun H locs hw => ?_)
  refine lv_aload_n hx hb dX3_init_56 rfl (lv_at hl 0 rfl) ?_
  refine lv_iconst (v := 0) hx hb dX3_init_57 (by decide) ?_
  refine r_put cx hw inX3 (ci := 2) rfl tyX3_ok nmX3 0 rfl 0 (by decide) fl_X3_30 rfl rfl rfl (Nat.le_of_ble_eq_true rfl) (ws' := [(h0, ob 2 [.int 0, .int 0, .int 0, .ref q1, .ref q2, .ref q3, .ref q4, .ref q5, .ref q6]), (q1, aI G 432 (fun _ => 0)), (q2, aI G 72 (fun _ => 0)), (q3, aI G 72 (fun _ => 0)), (q4, aI G 2472 (fun _ => 0)), (q5, aI G 2472 (fun _ => 0)), (q6, aI G 2472 (fun _ => 0))]) rfl dX3_init_58 (fun H locs hw => ?_)
  refine lv_aload_n hx hb dX3_init_61 rfl (lv_at hl 0 rfl) ?_
  refine lv_iconst (v := 0) hx hb dX3_init_62 (by decide) ?_
  refine r_put cx hw inX3 (ci := 2) rfl tyX3_ok nmX3 0 rfl 1 (by decide) fl_X3_34 rfl rfl rfl (Nat.le_of_ble_eq_true rfl) (ws' := [(h0, ob 2 [.int 0, .int 0, .int 0, .ref q1, .ref q2, .ref q3, .ref q4, .ref q5, .ref q6]), (q1, aI G 432 (fun _ => 0)), (q2, aI G 72 (fun _ => 0)), (q3, aI G 72 (fun _ => 0)), (q4, aI G 2472 (fun _ => 0)), (q5, aI G 2472 (fun _ => 0)), (q6, aI G 2472 (fun _ => 0))]) rfl dX3_init_63 (fun H locs hw => ?_)
  refine lv_aload_n hx hb dX3_init_66 rfl (lv_at hl 0 rfl) ?_
  refine lv_iconst (v := 0) hx hb dX3_init_67 (by decide) ?_
  refine r_put cx hw inX3 (ci := 2) rfl tyX3_ok nmX3 0 rfl 2 (by decide) fl_X3_37 rfl rfl rfl (Nat.le_of_ble_eq_true rfl) (ws' := [(h0, ob 2 [.int 0, .int 0, .int 0, .ref q1, .ref q2, .ref q3, .ref q4, .ref q5, .ref q6]), (q1, aI G 432 (fun _ => 0)), (q2, aI G 72 (fun _ => 0)), (q3, aI G 72 (fun _ => 0)), (q4, aI G 2472 (fun _ => 0)), (q5, aI G 2472 (fun _ => 0)), (q6, aI G 2472 (fun _ => 0))]) rfl dX3_init_68 (fun H locs hw => ?_)
  refine lv_iconst (v := 0) hx hb dX3_init_71 (by decide) ?_
  refine lv_istore_n (lv' := [(1, .int 0), (0, .ref h0)]) hx hb dX3_init_72 rfl hl (by decide) rfl (fun ls hl => ?_)
  refine r_loop (N := 72) (fun k H locs ls => lv_has ls 2 [(1, .int (nI k)), (0, .ref h0)] ∧ Wd G A [(h0, ob 2 [.int 0, .int 0, .int 0, .ref q1, .ref q2, .ref q3, .ref q4, .ref q5, .ref q6]), (q1, aI G 432 (fun _ => 0)), (q2, aI G 72 (fun _ => 0)), (q3, aI G 72 (fl_fill (-1) 0 k)), (q4, aI G 2472 (fun _ => 0)), (q5, aI G 2472 (fun _ => 0)), (q6, aI G 2472 (fun _ => 0))] s.heap H locs) ?_ ?_ 0 (Nat.zero_le _) _ _ _ ⟨lv_sub hl [0, 1] rfl, (by rw [fl_fill_0]; exact hw)⟩
  · intro H locs ls h9
    obtain ⟨hl, hw⟩ := h9
    have hl : lv_has ls 2 [(1, .int 72), (0, .ref h0)] := hl
    have hw : Wd G A [(h0, ob 2 [.int 0, .int 0, .int 0, .ref q1, .ref q2, .ref q3, .ref q4, .ref q5, .ref q6]), (q1, aI G 432 (fun _ => 0)), (q2, aI G 72 (fun _ => 0)), (q3, aI G 72 (fl_fill (-1) 0 72)), (q4, aI G 2472 (fun _ => 0)), (q5, aI G 2472 (fun _ => 0)), (q6, aI G 2472 (fun _ => 0))] s.heap _ _ := hw
    refine lv_iload_n hx hb dX3_init_73 rfl (lv_at hl 0 rfl) ?_
    refine lv_bipush (v := 72) hx hb dX3_init_74 (by decide) ?_
    refine lv_icmp_ge (tgt := 92) hx hb dX3_init_76 (by decide) (fun _ => ?_) (fun c9 => absurd (by decide) c9)
    have hw : Wd G A [(h0, ob 2 [.int 0, .int 0, .int 0, .ref q1, .ref q2, .ref q3, .ref q4, .ref q5, .ref q6]), (q3, aI G 72 (fl_fill (-1) 0 72))] s.heap _ _ := hw.sub [0, 3] rfl rfl
    exact r_vret cx hr hlk (fun k => [q1, q2, q3, q4, q5, q6].getD k 0) trivial hw (Nat.le_of_ble_eq_true rfl) (Nat.le_of_ble_eq_true rfl) dX3_init_92
  · intro k H locs ls hk h9 ih
    obtain ⟨hl, hw⟩ := h9
    refine lv_iload_n hx hb dX3_init_73 rfl (lv_at hl 0 rfl) ?_
    refine lv_bipush (v := 72) hx hb dX3_init_74 (by decide) ?_
    refine lv_icmp_ge (tgt := 92) hx hb dX3_init_76 (by decide) (fun c9 => absurd c9 (nI_ge hk (by decide))) (fun _ => ?_)
    refine lv_aload_n hx hb dX3_init_79 rfl (lv_at hl 1 rfl) ?_
    refine r_get cx hw inX3 (ci := 2) rfl 0 rfl 5 (by decide) fl_X3_18 rfl dX3_init_80 ?_
    refine lv_iload_n hx hb dX3_init_83 rfl (lv_at hl 0 rfl) ?_
    refine lv_iconst (v := (-1)) hx hb dX3_init_84 (by decide) ?_
    refine r_iast cx hw 3 rfl (vp_in_nI hk (by decide)) (ws' := [(h0, ob 2 [.int 0, .int 0, .int 0, .ref q1, .ref q2, .ref q3, .ref q4, .ref q5, .ref q6]), (q1, aI G 432 (fun _ => 0)), (q2, aI G 72 (fun _ => 0)), (q3, aI G 72 (fl_fill (-1) 0 (k + 1))), (q4, aI G 2472 (fun _ => 0)), (q5, aI G 2472 (fun _ => 0)), (q6, aI G 2472 (fun _ => 0))]) (by rw [nI_clamp (Nat.lt_trans hk (by decide))]; simp only [fl_fill_succ]; rfl) dX3_init_85 (fun H locs hw => ?_)
    refine lv_iinc (v := nI (k + 1)) (lv' := [(1, .int (nI (k + 1))), (0, .ref h0)]) hx hb dX3_init_86 hl (k := 0) rfl (nI_1 k) (by decide) rfl (fun ls hl => ?_)
    refine lv_goto (tgt := 73) hx hb dX3_init_89 (by decide) ?_
    exact ih H locs ls ⟨lv_sub hl [0, 1] rfl, hw.sub [0, 1, 2, 3, 4, 5, 6] rfl rfl⟩

set_option maxHeartbeats 4000000 in
set_option maxRecDepth 100000 in
theorem c_Reader (l : Launch) (G : Gt) (h0 : Nat) (t0 : Nat) (p0 : Nat) : Mt l yX4_init cX4_init 3 none ({ frames := 1, cells := 1, slots := 32, locals := 12 } : Room) G [.ref h0, .ref t0, .ref p0] [(h0, ob 3 [.null, .int 0, .int 0, .int 0, .null, .null, .int 0])] (qV G (fun (w : Nat → Nat) => True) (fun w => [(h0, ob 3 [.ref t0, .int 0, .int 0, .int (-1), .ref p0, .ref (w 0), .int 0])])) := by
  refine Mt.of (own := RX4) (cc := cX4_init) (by decide) rfl (Nat.le_of_ble_eq_true rfl) ?_
  intro p e s m below meth c A ls cx hr hlk hmn hA hl hw
  have hx := cx.1
  have hb := cx.2.1
  have hl : lv_has ls 3 [(0, .ref h0), (1, .ref t0), (2, .ref p0)] := hl
  refine lv_aload_n hx hb dX4_init_0 rfl (lv_at hl 0 rfl) ?_
  refine r_objInit cx ml_X4_3 hl.1 dX4_init_1 (Nat.le_of_ble_eq_true rfl) (Nat.le_of_ble_eq_true rfl) ?_
  refine lv_aload_n hx hb dX4_init_4 rfl (lv_at hl 0 rfl) ?_
  refine lv_aload_n hx hb dX4_init_5 rfl (lv_at hl 1 rfl) ?_
  refine r_putF cx hw inX4 (ci := 3) rfl tyX4_ok nmX4 hmn 0 rfl 0 (by decide) fl_X4_9 rfl rfl rfl rfl (Nat.le_of_ble_eq_true rfl) (ws' := [(h0, ob 3 [.ref t0, .int 0, .int 0, .int 0, .null, .null, .int 0])]) rfl dX4_init_6 (fun H locs hw => ?_)
  refine lv_aload_n hx hb dX4_init_9 rfl (lv_at hl 0 rfl) ?_
  refine lv_iconst (v := 0) hx hb dX4_init_10 (by decide) ?_
  refine r_put cx hw inX4 (ci := 3) rfl tyX4_ok nmX4 0 rfl 1 (by decide) fl_X4_15 rfl rfl rfl (Nat.le_of_ble_eq_true rfl) (ws' := [(h0, ob 3 [.ref t0, .int 0, .int 0, .int 0, .null, .null, .int 0])]) rfl dX4_init_11 (fun H locs hw => ?_)
  refine lv_aload_n hx hb dX4_init_14 rfl (lv_at hl 0 rfl) ?_
  refine lv_iconst (v := 0) hx hb dX4_init_15 (by decide) ?_
  refine r_put cx hw inX4 (ci := 3) rfl tyX4_ok nmX4 0 rfl 2 (by decide) fl_X4_19 rfl rfl rfl (Nat.le_of_ble_eq_true rfl) (ws' := [(h0, ob 3 [.ref t0, .int 0, .int 0, .int 0, .null, .null, .int 0])]) rfl dX4_init_16 (fun H locs hw => ?_)
  refine lv_aload_n hx hb dX4_init_19 rfl (lv_at hl 0 rfl) ?_
  refine lv_iconst (v := (-1)) hx hb dX4_init_20 (by decide) ?_
  refine r_put cx hw inX4 (ci := 3) rfl tyX4_ok nmX4 0 rfl 3 (by decide) fl_X4_22 rfl rfl rfl (Nat.le_of_ble_eq_true rfl) (ws' := [(h0, ob 3 [.ref t0, .int 0, .int 0, .int (-1), .null, .null, .int 0])]) rfl dX4_init_21 (fun H locs hw => ?_)
  refine lv_aload_n hx hb dX4_init_24 rfl (lv_at hl 0 rfl) ?_
  refine lv_aload_n hx hb dX4_init_25 rfl (lv_at hl 2 rfl) ?_
  refine r_put cx hw inX4 (ci := 3) rfl tyX4_ok nmX4 0 rfl 4 (by decide) fl_X4_25 rfl rfl rfl (Nat.le_of_ble_eq_true rfl) (ws' := [(h0, ob 3 [.ref t0, .int 0, .int 0, .int (-1), .ref p0, .null, .int 0])]) rfl dX4_init_26 (fun H locs hw => ?_)
  refine lv_aload_n hx hb dX4_init_29 rfl (lv_at hl 0 rfl) ?_
  refine lv_bipush (v := 32) hx hb dX4_init_30 (by decide) ?_
  refine r_newI cx hw hA (N' := 32) (by decide +kernel) (by decide +kernel) (Nat.le_of_ble_eq_true rfl) (Nat.le_of_ble_eq_true rfl) (Nat.le_of_ble_eq_true rfl) dX4_init_32 (fun q1 H hw => ?_)
  have hw : Wd G A [(h0, ob 3 [.ref t0, .int 0, .int 0, .int (-1), .ref p0, .null, .int 0]), (q1, aI G 32 (fun _ => 0))] s.heap _ _ := hw
  refine r_putF cx hw inX4 (ci := 3) rfl tyX4_ok nmX4 hmn 0 rfl 5 (by decide) fl_X4_31 rfl rfl rfl rfl (Nat.le_of_ble_eq_true rfl) (ws' := [(h0, ob 3 [.ref t0, .int 0, .int 0, .int (-1), .ref p0, .ref q1, .int 0]), (q1, aI G 32 (fun _ => 0))]) rfl dX4_init_34 (fun H locs hw => ?_)
  refine lv_aload_n hx hb dX4_init_37 rfl (lv_at hl 0 rfl) ?_
  refine lv_iconst (v := 0) hx hb dX4_init_38 (by decide) ?_
  refine r_put cx hw inX4 (ci := 3) rfl tyX4_ok nmX4 0 rfl 6 (by decide) fl_X4_34 rfl rfl rfl (Nat.le_of_ble_eq_true rfl) (ws' := [(h0, ob 3 [.ref t0, .int 0, .int 0, .int (-1), .ref p0, .ref q1, .int 0]), (q1, aI G 32 (fun _ => 0))]) rfl dX4_init_39 (fun H locs hw => ?_)
  have hw : Wd G A [(h0, ob 3 [.ref t0, .int 0, .int 0, .int (-1), .ref p0, .ref q1, .int 0])] s.heap _ _ := hw.sub [0] rfl rfl
  exact r_vret cx hr hlk (fun k => [q1].getD k 0) trivial hw (Nat.le_of_ble_eq_true rfl) (Nat.le_of_ble_eq_true rfl) dX4_init_42

set_option maxHeartbeats 4000000 in
set_option maxRecDepth 100000 in
theorem c_Store (l : Launch) (G : Gt) (h0 : Nat) : Mt l yX8_init cX8_init 1 none ({ frames := 1, cells := 8, slots := 124567, locals := 12 } : Room) G [.ref h0] [(h0, ob 7 [.null, .null, .null, .null, .null, .int 0, .null, .int 0, .null, .null, .int 0])] (qV G (fun (w : Nat → Nat) => True) (fun w => [(h0, ob 7 [.ref (w 0), .ref (w 1), .ref (w 2), .ref (w 3), .ref (w 4), .int 0, .ref (w 5), .int 0, .ref (w 6), .ref (w 7), .int 0])])) := by
  refine Mt.of (own := RX8) (cc := cX8_init) (by decide) rfl (Nat.le_of_ble_eq_true rfl) ?_
  intro p e s m below meth c A ls cx hr hlk hmn hA hl hw
  have hx := cx.1
  have hb := cx.2.1
  have hl : lv_has ls 1 [(0, .ref h0)] := hl
  refine lv_aload_n hx hb dX8_init_0 rfl (lv_at hl 0 rfl) ?_
  refine r_objInit cx ml_X8_5 hl.1 dX8_init_1 (Nat.le_of_ble_eq_true rfl) (Nat.le_of_ble_eq_true rfl) ?_
  refine lv_aload_n hx hb dX8_init_4 rfl (lv_at hl 0 rfl) ?_
  refine lv_sipush (v := 30200) hx hb dX8_init_5 (by decide) ?_
  refine r_newJ cx hw hA (N' := 30200) (by decide +kernel) (by decide +kernel) (Nat.le_of_ble_eq_true rfl) (Nat.le_of_ble_eq_true rfl) (Nat.le_of_ble_eq_true rfl) dX8_init_8 (fun q1 H hw => ?_)
  have hw : Wd G A [(h0, ob 7 [.null, .null, .null, .null, .null, .int 0, .null, .int 0, .null, .null, .int 0]), (q1, aJ G 30200 (fun _ => 0))] s.heap _ _ := hw
  refine r_putF cx hw inX8 (ci := 7) rfl tyX8_ok nmX8 hmn 0 rfl 0 (by decide) fl_X8_13 rfl rfl rfl rfl (Nat.le_of_ble_eq_true rfl) (ws' := [(h0, ob 7 [.ref q1, .null, .null, .null, .null, .int 0, .null, .int 0, .null, .null, .int 0]), (q1, aJ G 30200 (fun _ => 0))]) rfl dX8_init_10 (fun H locs hw => ?_)
  refine lv_aload_n hx hb dX8_init_13 rfl (lv_at hl 0 rfl) ?_
  refine lv_sipush (v := 30200) hx hb dX8_init_14 (by decide) ?_
  refine r_newJ cx hw hA (N' := 30200) (by decide +kernel) (by decide +kernel) (Nat.le_of_ble_eq_true rfl) (Nat.le_of_ble_eq_true rfl) (Nat.le_of_ble_eq_true rfl) dX8_init_17 (fun q2 H hw => ?_)
  have hw : Wd G A [(h0, ob 7 [.ref q1, .null, .null, .null, .null, .int 0, .null, .int 0, .null, .null, .int 0]), (q1, aJ G 30200 (fun _ => 0)), (q2, aJ G 30200 (fun _ => 0))] s.heap _ _ := hw
  refine r_putF cx hw inX8 (ci := 7) rfl tyX8_ok nmX8 hmn 0 rfl 1 (by decide) fl_X8_17 rfl rfl rfl rfl (Nat.le_of_ble_eq_true rfl) (ws' := [(h0, ob 7 [.ref q1, .ref q2, .null, .null, .null, .int 0, .null, .int 0, .null, .null, .int 0]), (q1, aJ G 30200 (fun _ => 0)), (q2, aJ G 30200 (fun _ => 0))]) rfl dX8_init_19 (fun H locs hw => ?_)
  refine lv_aload_n hx hb dX8_init_22 rfl (lv_at hl 0 rfl) ?_
  refine lv_sipush (v := 30200) hx hb dX8_init_23 (by decide) ?_
  refine r_newI cx hw hA (N' := 30200) (by decide +kernel) (by decide +kernel) (Nat.le_of_ble_eq_true rfl) (Nat.le_of_ble_eq_true rfl) (Nat.le_of_ble_eq_true rfl) dX8_init_26 (fun q3 H hw => ?_)
  have hw : Wd G A [(h0, ob 7 [.ref q1, .ref q2, .null, .null, .null, .int 0, .null, .int 0, .null, .null, .int 0]), (q1, aJ G 30200 (fun _ => 0)), (q2, aJ G 30200 (fun _ => 0)), (q3, aI G 30200 (fun _ => 0))] s.heap _ _ := hw
  refine r_putF cx hw inX8 (ci := 7) rfl tyX8_ok nmX8 hmn 0 rfl 2 (by decide) fl_X8_20 rfl rfl rfl rfl (Nat.le_of_ble_eq_true rfl) (ws' := [(h0, ob 7 [.ref q1, .ref q2, .ref q3, .null, .null, .int 0, .null, .int 0, .null, .null, .int 0]), (q1, aJ G 30200 (fun _ => 0)), (q2, aJ G 30200 (fun _ => 0)), (q3, aI G 30200 (fun _ => 0))]) rfl dX8_init_28 (fun H locs hw => ?_)
  refine lv_aload_n hx hb dX8_init_31 rfl (lv_at hl 0 rfl) ?_
  refine lv_sipush (v := 30200) hx hb dX8_init_32 (by decide) ?_
  refine r_newI cx hw hA (N' := 30200) (by decide +kernel) (by decide +kernel) (Nat.le_of_ble_eq_true rfl) (Nat.le_of_ble_eq_true rfl) (Nat.le_of_ble_eq_true rfl) dX8_init_35 (fun q4 H hw => ?_)
  have hw : Wd G A [(h0, ob 7 [.ref q1, .ref q2, .ref q3, .null, .null, .int 0, .null, .int 0, .null, .null, .int 0]), (q1, aJ G 30200 (fun _ => 0)), (q2, aJ G 30200 (fun _ => 0)), (q3, aI G 30200 (fun _ => 0)), (q4, aI G 30200 (fun _ => 0))] s.heap _ _ := hw
  refine r_putF cx hw inX8 (ci := 7) rfl tyX8_ok nmX8 hmn 0 rfl 3 (by decide) fl_X8_24 rfl rfl rfl rfl (Nat.le_of_ble_eq_true rfl) (ws' := [(h0, ob 7 [.ref q1, .ref q2, .ref q3, .ref q4, .null, .int 0, .null, .int 0, .null, .null, .int 0]), (q1, aJ G 30200 (fun _ => 0)), (q2, aJ G 30200 (fun _ => 0)), (q3, aI G 30200 (fun _ => 0)), (q4, aI G 30200 (fun _ => 0))]) rfl dX8_init_37 (fun H locs hw => ?_)
  refine lv_aload_n hx hb dX8_init_40 rfl (lv_at hl 0 rfl) ?_
  refine lv_sipush (v := 264) hx hb dX8_init_41 (by decide) ?_
  refine r_newJ cx hw hA (N' := 264) (by decide +kernel) (by decide +kernel) (Nat.le_of_ble_eq_true rfl) (Nat.le_of_ble_eq_true rfl) (Nat.le_of_ble_eq_true rfl) dX8_init_44 (fun q5 H hw => ?_)
  have hw : Wd G A [(h0, ob 7 [.ref q1, .ref q2, .ref q3, .ref q4, .null, .int 0, .null, .int 0, .null, .null, .int 0]), (q1, aJ G 30200 (fun _ => 0)), (q2, aJ G 30200 (fun _ => 0)), (q3, aI G 30200 (fun _ => 0)), (q4, aI G 30200 (fun _ => 0)), (q5, aJ G 264 (fun _ => 0))] s.heap _ _ := hw
  refine r_putF cx hw inX8 (ci := 7) rfl tyX8_ok nmX8 hmn 0 rfl 4 (by decide) fl_X8_29 rfl rfl rfl rfl (Nat.le_of_ble_eq_true rfl) (ws' := [(h0, ob 7 [.ref q1, .ref q2, .ref q3, .ref q4, .ref q5, .int 0, .null, .int 0, .null, .null, .int 0]), (q1, aJ G 30200 (fun _ => 0)), (q2, aJ G 30200 (fun _ => 0)), (q3, aI G 30200 (fun _ => 0)), (q4, aI G 30200 (fun _ => 0)), (q5, aJ G 264 (fun _ => 0))]) rfl dX8_init_46 (fun H locs hw => ?_)
  refine lv_aload_n hx hb dX8_init_49 rfl (lv_at hl 0 rfl) ?_
  refine lv_sipush (v := 2480) hx hb dX8_init_50 (by decide) ?_
  refine r_newJ cx hw hA (N' := 2480) (by decide +kernel) (by decide +kernel) (Nat.le_of_ble_eq_true rfl) (Nat.le_of_ble_eq_true rfl) (Nat.le_of_ble_eq_true rfl) dX8_init_53 (fun q6 H hw => ?_)
  have hw : Wd G A [(h0, ob 7 [.ref q1, .ref q2, .ref q3, .ref q4, .ref q5, .int 0, .null, .int 0, .null, .null, .int 0]), (q1, aJ G 30200 (fun _ => 0)), (q2, aJ G 30200 (fun _ => 0)), (q3, aI G 30200 (fun _ => 0)), (q4, aI G 30200 (fun _ => 0)), (q5, aJ G 264 (fun _ => 0)), (q6, aJ G 2480 (fun _ => 0))] s.heap _ _ := hw
  refine r_putF cx hw inX8 (ci := 7) rfl tyX8_ok nmX8 hmn 0 rfl 6 (by decide) fl_X8_32 rfl rfl rfl rfl (Nat.le_of_ble_eq_true rfl) (ws' := [(h0, ob 7 [.ref q1, .ref q2, .ref q3, .ref q4, .ref q5, .int 0, .ref q6, .int 0, .null, .null, .int 0]), (q1, aJ G 30200 (fun _ => 0)), (q2, aJ G 30200 (fun _ => 0)), (q3, aI G 30200 (fun _ => 0)), (q4, aI G 30200 (fun _ => 0)), (q5, aJ G 264 (fun _ => 0)), (q6, aJ G 2480 (fun _ => 0))]) rfl dX8_init_55 (fun H locs hw => ?_)
  refine lv_aload_n hx hb dX8_init_58 rfl (lv_at hl 0 rfl) ?_
  refine lv_sipush (v := 992) hx hb dX8_init_59 (by decide) ?_
  refine r_newJ cx hw hA (N' := 992) (by decide +kernel) (by decide +kernel) (Nat.le_of_ble_eq_true rfl) (Nat.le_of_ble_eq_true rfl) (Nat.le_of_ble_eq_true rfl) dX8_init_62 (fun q7 H hw => ?_)
  have hw : Wd G A [(h0, ob 7 [.ref q1, .ref q2, .ref q3, .ref q4, .ref q5, .int 0, .ref q6, .int 0, .null, .null, .int 0]), (q1, aJ G 30200 (fun _ => 0)), (q2, aJ G 30200 (fun _ => 0)), (q3, aI G 30200 (fun _ => 0)), (q4, aI G 30200 (fun _ => 0)), (q5, aJ G 264 (fun _ => 0)), (q6, aJ G 2480 (fun _ => 0)), (q7, aJ G 992 (fun _ => 0))] s.heap _ _ := hw
  refine r_putF cx hw inX8 (ci := 7) rfl tyX8_ok nmX8 hmn 0 rfl 8 (by decide) fl_X8_35 rfl rfl rfl rfl (Nat.le_of_ble_eq_true rfl) (ws' := [(h0, ob 7 [.ref q1, .ref q2, .ref q3, .ref q4, .ref q5, .int 0, .ref q6, .int 0, .ref q7, .null, .int 0]), (q1, aJ G 30200 (fun _ => 0)), (q2, aJ G 30200 (fun _ => 0)), (q3, aI G 30200 (fun _ => 0)), (q4, aI G 30200 (fun _ => 0)), (q5, aJ G 264 (fun _ => 0)), (q6, aJ G 2480 (fun _ => 0)), (q7, aJ G 992 (fun _ => 0))]) rfl dX8_init_64 (fun H locs hw => ?_)
  refine lv_aload_n hx hb dX8_init_67 rfl (lv_at hl 0 rfl) ?_
  refine lv_bipush (v := 31) hx hb dX8_init_68 (by decide) ?_
  refine r_newI cx hw hA (N' := 31) (by decide +kernel) (by decide +kernel) (Nat.le_of_ble_eq_true rfl) (Nat.le_of_ble_eq_true rfl) (Nat.le_of_ble_eq_true rfl) dX8_init_70 (fun q8 H hw => ?_)
  have hw : Wd G A [(h0, ob 7 [.ref q1, .ref q2, .ref q3, .ref q4, .ref q5, .int 0, .ref q6, .int 0, .ref q7, .null, .int 0]), (q1, aJ G 30200 (fun _ => 0)), (q2, aJ G 30200 (fun _ => 0)), (q3, aI G 30200 (fun _ => 0)), (q4, aI G 30200 (fun _ => 0)), (q5, aJ G 264 (fun _ => 0)), (q6, aJ G 2480 (fun _ => 0)), (q7, aJ G 992 (fun _ => 0)), (q8, aI G 31 (fun _ => 0))] s.heap _ _ := hw
  refine r_putF cx hw inX8 (ci := 7) rfl tyX8_ok nmX8 hmn 0 rfl 9 (by decide) fl_X8_38 rfl rfl rfl rfl (Nat.le_of_ble_eq_true rfl) (ws' := [(h0, ob 7 [.ref q1, .ref q2, .ref q3, .ref q4, .ref q5, .int 0, .ref q6, .int 0, .ref q7, .ref q8, .int 0]), (q1, aJ G 30200 (fun _ => 0)), (q2, aJ G 30200 (fun _ => 0)), (q3, aI G 30200 (fun _ => 0)), (q4, aI G 30200 (fun _ => 0)), (q5, aJ G 264 (fun _ => 0)), (q6, aJ G 2480 (fun _ => 0)), (q7, aJ G 992 (fun _ => 0)), (q8, aI G 31 (fun _ => 0))]) rfl dX8_init_72 (fun H locs hw => ?_)
  refine lv_aload_n hx hb dX8_init_75 rfl (lv_at hl 0 rfl) ?_
  refine lv_iconst (v := 0) hx hb dX8_init_76 (by decide) ?_
  refine r_put cx hw inX8 (ci := 7) rfl tyX8_ok nmX8 0 rfl 5 (by decide) fl_X8_41 rfl rfl rfl (Nat.le_of_ble_eq_true rfl) (ws' := [(h0, ob 7 [.ref q1, .ref q2, .ref q3, .ref q4, .ref q5, .int 0, .ref q6, .int 0, .ref q7, .ref q8, .int 0]), (q1, aJ G 30200 (fun _ => 0)), (q2, aJ G 30200 (fun _ => 0)), (q3, aI G 30200 (fun _ => 0)), (q4, aI G 30200 (fun _ => 0)), (q5, aJ G 264 (fun _ => 0)), (q6, aJ G 2480 (fun _ => 0)), (q7, aJ G 992 (fun _ => 0)), (q8, aI G 31 (fun _ => 0))]) rfl dX8_init_77 (fun H locs hw => ?_)
  refine lv_aload_n hx hb dX8_init_80 rfl (lv_at hl 0 rfl) ?_
  refine lv_iconst (v := 0) hx hb dX8_init_81 (by decide) ?_
  refine r_put cx hw inX8 (ci := 7) rfl tyX8_ok nmX8 0 rfl 7 (by decide) fl_X8_45 rfl rfl rfl (Nat.le_of_ble_eq_true rfl) (ws' := [(h0, ob 7 [.ref q1, .ref q2, .ref q3, .ref q4, .ref q5, .int 0, .ref q6, .int 0, .ref q7, .ref q8, .int 0]), (q1, aJ G 30200 (fun _ => 0)), (q2, aJ G 30200 (fun _ => 0)), (q3, aI G 30200 (fun _ => 0)), (q4, aI G 30200 (fun _ => 0)), (q5, aJ G 264 (fun _ => 0)), (q6, aJ G 2480 (fun _ => 0)), (q7, aJ G 992 (fun _ => 0)), (q8, aI G 31 (fun _ => 0))]) rfl dX8_init_82 (fun H locs hw => ?_)
  refine lv_aload_n hx hb dX8_init_85 rfl (lv_at hl 0 rfl) ?_
  refine lv_iconst (v := 0) hx hb dX8_init_86 (by decide) ?_
  refine r_put cx hw inX8 (ci := 7) rfl tyX8_ok nmX8 0 rfl 10 (by decide) fl_X8_48 rfl rfl rfl (Nat.le_of_ble_eq_true rfl) (ws' := [(h0, ob 7 [.ref q1, .ref q2, .ref q3, .ref q4, .ref q5, .int 0, .ref q6, .int 0, .ref q7, .ref q8, .int 0]), (q1, aJ G 30200 (fun _ => 0)), (q2, aJ G 30200 (fun _ => 0)), (q3, aI G 30200 (fun _ => 0)), (q4, aI G 30200 (fun _ => 0)), (q5, aJ G 264 (fun _ => 0)), (q6, aJ G 2480 (fun _ => 0)), (q7, aJ G 992 (fun _ => 0)), (q8, aI G 31 (fun _ => 0))]) rfl dX8_init_87 (fun H locs hw => ?_)
  have hw : Wd G A [(h0, ob 7 [.ref q1, .ref q2, .ref q3, .ref q4, .ref q5, .int 0, .ref q6, .int 0, .ref q7, .ref q8, .int 0])] s.heap _ _ := hw.sub [0] rfl rfl
  exact r_vret cx hr hlk (fun k => [q1, q2, q3, q4, q5, q6, q7, q8].getD k 0) trivial hw (Nat.le_of_ble_eq_true rfl) (Nat.le_of_ble_eq_true rfl) dX8_init_90

set_option maxHeartbeats 4000000 in
set_option maxRecDepth 100000 in
theorem c_Text (l : Launch) (G : Gt) (h0 : Nat) : Mt l yX9_init cX9_init 1 none ({ frames := 1, cells := 1, slots := 40000, locals := 12 } : Room) G [.ref h0] [(h0, ob 8 [.null, .int 0])] (qV G (fun (w : Nat → Nat) => True) (fun w => [(h0, ob 8 [.ref (w 0), .int 0])])) := by
  refine Mt.of (own := RX9) (cc := cX9_init) (by decide) rfl (Nat.le_of_ble_eq_true rfl) ?_
  intro p e s m below meth c A ls cx hr hlk hmn hA hl hw
  have hx := cx.1
  have hb := cx.2.1
  have hl : lv_has ls 1 [(0, .ref h0)] := hl
  refine lv_aload_n hx hb dX9_init_0 rfl (lv_at hl 0 rfl) ?_
  refine r_objInit cx ml_X9_3 hl.1 dX9_init_1 (Nat.le_of_ble_eq_true rfl) (Nat.le_of_ble_eq_true rfl) ?_
  refine lv_aload_n hx hb dX9_init_4 rfl (lv_at hl 0 rfl) ?_
  refine lv_ldc hx hb cx.2.2.2.1 (cx.2.2.2.2.1 _ cs_X9_11) dX9_init_5 ?_
  refine r_newB cx hw hA (N' := 40000) (by decide +kernel) (by decide +kernel) (Nat.le_of_ble_eq_true rfl) (Nat.le_of_ble_eq_true rfl) (Nat.le_of_ble_eq_true rfl) dX9_init_7 (fun q1 H hw => ?_)
  have hw : Wd G A [(h0, ob 8 [.null, .int 0]), (q1, aB G 40000 (fun _ => 0))] s.heap _ _ := hw
  refine r_putF cx hw inX9 (ci := 8) rfl tyX9_ok nmX9 hmn 0 rfl 0 (by decide) fl_X9_12 rfl rfl rfl rfl (Nat.le_of_ble_eq_true rfl) (ws' := [(h0, ob 8 [.ref q1, .int 0]), (q1, aB G 40000 (fun _ => 0))]) rfl dX9_init_9 (fun H locs hw => ?_)
  refine lv_aload_n hx hb dX9_init_12 rfl (lv_at hl 0 rfl) ?_
  refine lv_iconst (v := 0) hx hb dX9_init_13 (by decide) ?_
  refine r_put cx hw inX9 (ci := 8) rfl tyX9_ok nmX9 0 rfl 1 (by decide) fl_X9_16 rfl rfl rfl (Nat.le_of_ble_eq_true rfl) (ws' := [(h0, ob 8 [.ref q1, .int 0]), (q1, aB G 40000 (fun _ => 0))]) rfl dX9_init_14 (fun H locs hw => ?_)
  have hw : Wd G A [(h0, ob 8 [.ref q1, .int 0])] s.heap _ _ := hw.sub [0] rfl rfl
  exact r_vret cx hr hlk (fun k => [q1].getD k 0) trivial hw (Nat.le_of_ble_eq_true rfl) (Nat.le_of_ble_eq_true rfl) dX9_init_17

set_option maxHeartbeats 4000000 in
set_option maxRecDepth 100000 in
theorem c_SRun (l : Launch) (G : Gt) (h0 : Nat) (a1 : Nat) (a2 : Nat) (a3 : Nat) : Mt l yX7_init cX7_init 4 none ({ frames := 1, cells := 2, slots := 13, locals := 12 } : Room) G [.ref h0, .ref a1, .ref a2, .ref a3] [(h0, ob 6 [.null, .null, .null, .null, .null, .int 0])] (qV G (fun (w : Nat → Nat) => True) (fun w => [(h0, ob 6 [.ref a1, .ref (w 0), .ref (w 1), .ref a2, .ref a3, .int (-1)]), (w 1, aJ G 5 (fun _ => 0)), (w 0, aJ G 8 (fun _ => 0))])) := by
  refine Mt.of (own := RX7) (cc := cX7_init) (by decide) rfl (Nat.le_of_ble_eq_true rfl) ?_
  intro p e s m below meth c A ls cx hr hlk hmn hA hl hw
  have hx := cx.1
  have hb := cx.2.1
  have hl : lv_has ls 4 [(0, .ref h0), (1, .ref a1), (2, .ref a2), (3, .ref a3)] := hl
  refine lv_aload_n hx hb dX7_init_0 rfl (lv_at hl 0 rfl) ?_
  refine r_objInit cx ml_X7_3 hl.1 dX7_init_1 (Nat.le_of_ble_eq_true rfl) (Nat.le_of_ble_eq_true rfl) ?_
  refine lv_aload_n hx hb dX7_init_4 rfl (lv_at hl 0 rfl) ?_
  refine lv_aload_n hx hb dX7_init_5 rfl (lv_at hl 1 rfl) ?_
  refine r_putF cx hw inX7 (ci := 6) rfl tyX7_ok nmX7 hmn 0 rfl 0 (by decide) fl_X7_9 rfl rfl rfl rfl (Nat.le_of_ble_eq_true rfl) (ws' := [(h0, ob 6 [.ref a1, .null, .null, .null, .null, .int 0])]) rfl dX7_init_6 (fun H locs hw => ?_)
  refine lv_aload_n hx hb dX7_init_9 rfl (lv_at hl 0 rfl) ?_
  refine lv_bipush (v := 8) hx hb dX7_init_10 (by decide) ?_
  refine r_newJ cx hw hA (N' := 8) (by decide +kernel) (by decide +kernel) (Nat.le_of_ble_eq_true rfl) (Nat.le_of_ble_eq_true rfl) (Nat.le_of_ble_eq_true rfl) dX7_init_12 (fun q1 H hw => ?_)
  have hw : Wd G A [(h0, ob 6 [.ref a1, .null, .null, .null, .null, .int 0]), (q1, aJ G 8 (fun _ => 0))] s.heap _ _ := hw
  refine r_putF cx hw inX7 (ci := 6) rfl tyX7_ok nmX7 hmn 0 rfl 1 (by decide) fl_X7_17 rfl rfl rfl rfl (Nat.le_of_ble_eq_true rfl) (ws' := [(h0, ob 6 [.ref a1, .ref q1, .null, .null, .null, .int 0]), (q1, aJ G 8 (fun _ => 0))]) rfl dX7_init_14 (fun H locs hw => ?_)
  refine lv_aload_n hx hb dX7_init_17 rfl (lv_at hl 0 rfl) ?_
  refine lv_iconst (v := 5) hx hb dX7_init_18 (by decide) ?_
  refine r_newJ cx hw hA (N' := 5) (by decide +kernel) (by decide +kernel) (Nat.le_of_ble_eq_true rfl) (Nat.le_of_ble_eq_true rfl) (Nat.le_of_ble_eq_true rfl) dX7_init_19 (fun q2 H hw => ?_)
  have hw : Wd G A [(h0, ob 6 [.ref a1, .ref q1, .null, .null, .null, .int 0]), (q1, aJ G 8 (fun _ => 0)), (q2, aJ G 5 (fun _ => 0))] s.heap _ _ := hw
  refine r_putF cx hw inX7 (ci := 6) rfl tyX7_ok nmX7 hmn 0 rfl 2 (by decide) fl_X7_23 rfl rfl rfl rfl (Nat.le_of_ble_eq_true rfl) (ws' := [(h0, ob 6 [.ref a1, .ref q1, .ref q2, .null, .null, .int 0]), (q1, aJ G 8 (fun _ => 0)), (q2, aJ G 5 (fun _ => 0))]) rfl dX7_init_21 (fun H locs hw => ?_)
  refine lv_aload_n hx hb dX7_init_24 rfl (lv_at hl 0 rfl) ?_
  refine lv_aload_n hx hb dX7_init_25 rfl (lv_at hl 2 rfl) ?_
  refine r_put cx hw inX7 (ci := 6) rfl tyX7_ok nmX7 0 rfl 3 (by decide) fl_X7_26 rfl rfl rfl (Nat.le_of_ble_eq_true rfl) (ws' := [(h0, ob 6 [.ref a1, .ref q1, .ref q2, .ref a2, .null, .int 0]), (q1, aJ G 8 (fun _ => 0)), (q2, aJ G 5 (fun _ => 0))]) rfl dX7_init_26 (fun H locs hw => ?_)
  refine lv_aload_n hx hb dX7_init_29 rfl (lv_at hl 0 rfl) ?_
  refine lv_aload_n hx hb dX7_init_30 rfl (lv_at hl 3 rfl) ?_
  refine r_put cx hw inX7 (ci := 6) rfl tyX7_ok nmX7 0 rfl 4 (by decide) fl_X7_30 rfl rfl rfl (Nat.le_of_ble_eq_true rfl) (ws' := [(h0, ob 6 [.ref a1, .ref q1, .ref q2, .ref a2, .ref a3, .int 0]), (q1, aJ G 8 (fun _ => 0)), (q2, aJ G 5 (fun _ => 0))]) rfl dX7_init_31 (fun H locs hw => ?_)
  refine lv_aload_n hx hb dX7_init_34 rfl (lv_at hl 0 rfl) ?_
  refine lv_iconst (v := (-1)) hx hb dX7_init_35 (by decide) ?_
  refine r_put cx hw inX7 (ci := 6) rfl tyX7_ok nmX7 0 rfl 5 (by decide) fl_X7_34 rfl rfl rfl (Nat.le_of_ble_eq_true rfl) (ws' := [(h0, ob 6 [.ref a1, .ref q1, .ref q2, .ref a2, .ref a3, .int (-1)]), (q1, aJ G 8 (fun _ => 0)), (q2, aJ G 5 (fun _ => 0))]) rfl dX7_init_36 (fun H locs hw => ?_)
  have hw : Wd G A [(h0, ob 6 [.ref a1, .ref q1, .ref q2, .ref a2, .ref a3, .int (-1)]), (q2, aJ G 5 (fun _ => 0)), (q1, aJ G 8 (fun _ => 0))] s.heap _ _ := hw.sub [0, 2, 1] rfl rfl
  exact r_vret cx hr hlk (fun k => [q1, q2].getD k 0) trivial hw (Nat.le_of_ble_eq_true rfl) (Nat.le_of_ble_eq_true rfl) dX7_init_39

set_option maxHeartbeats 4000000 in
set_option maxRecDepth 100000 in
theorem c_RRun (l : Launch) (G : Gt) (h0 : Nat) (a1 : Nat) (a2 : Nat) (a3 : Nat) : Mt l yX6_init cX6_init 4 none ({ frames := 1, cells := 4, slots := 11044, locals := 12 } : Room) G [.ref h0, .ref a1, .ref a2, .ref a3] [(h0, ob 5 [.null, .null, .null, .null, .null, .int 0, .int 0, .null, .null])] (qV G (fun (w : Nat → Nat) => True) (fun w => [(h0, ob 5 [.ref a1, .ref (w 0), .ref (w 1), .ref (w 2), .ref (w 3), .int 0, .int 0, .ref a2, .ref a3])])) := by
  refine Mt.of (own := RX6) (cc := cX6_init) (by decide) rfl (Nat.le_of_ble_eq_true rfl) ?_
  intro p e s m below meth c A ls cx hr hlk hmn hA hl hw
  have hx := cx.1
  have hb := cx.2.1
  have hl : lv_has ls 4 [(0, .ref h0), (1, .ref a1), (2, .ref a2), (3, .ref a3)] := hl
  refine lv_aload_n hx hb dX6_init_0 rfl (lv_at hl 0 rfl) ?_
  refine r_objInit cx ml_X6_7 hl.1 dX6_init_1 (Nat.le_of_ble_eq_true rfl) (Nat.le_of_ble_eq_true rfl) ?_
  refine lv_aload_n hx hb dX6_init_4 rfl (lv_at hl 0 rfl) ?_
  refine lv_aload_n hx hb dX6_init_5 rfl (lv_at hl 1 rfl) ?_
  refine r_putF cx hw inX6 (ci := 5) rfl tyX6_ok nmX6 hmn 0 rfl 0 (by decide) fl_X6_13 rfl rfl rfl rfl (Nat.le_of_ble_eq_true rfl) (ws' := [(h0, ob 5 [.ref a1, .null, .null, .null, .null, .int 0, .int 0, .null, .null])]) rfl dX6_init_6 (fun H locs hw => ?_)
  refine lv_aload_n hx hb dX6_init_9 rfl (lv_at hl 0 rfl) ?_
  refine lv_sipush (v := 9548) hx hb dX6_init_10 (by decide) ?_
  refine r_newJ cx hw hA (N' := 9548) (by decide +kernel) (by decide +kernel) (Nat.le_of_ble_eq_true rfl) (Nat.le_of_ble_eq_true rfl) (Nat.le_of_ble_eq_true rfl) dX6_init_13 (fun q1 H hw => ?_)
  have hw : Wd G A [(h0, ob 5 [.ref a1, .null, .null, .null, .null, .int 0, .int 0, .null, .null]), (q1, aJ G 9548 (fun _ => 0))] s.heap _ _ := hw
  refine r_putF cx hw inX6 (ci := 5) rfl tyX6_ok nmX6 hmn 0 rfl 1 (by decide) fl_X6_19 rfl rfl rfl rfl (Nat.le_of_ble_eq_true rfl) (ws' := [(h0, ob 5 [.ref a1, .ref q1, .null, .null, .null, .int 0, .int 0, .null, .null]), (q1, aJ G 9548 (fun _ => 0))]) rfl dX6_init_15 (fun H locs hw => ?_)
  refine lv_aload_n hx hb dX6_init_18 rfl (lv_at hl 0 rfl) ?_
  refine lv_bipush (v := 8) hx hb dX6_init_19 (by decide) ?_
  refine r_newJ cx hw hA (N' := 8) (by decide +kernel) (by decide +kernel) (Nat.le_of_ble_eq_true rfl) (Nat.le_of_ble_eq_true rfl) (Nat.le_of_ble_eq_true rfl) dX6_init_21 (fun q2 H hw => ?_)
  have hw : Wd G A [(h0, ob 5 [.ref a1, .ref q1, .null, .null, .null, .int 0, .int 0, .null, .null]), (q1, aJ G 9548 (fun _ => 0)), (q2, aJ G 8 (fun _ => 0))] s.heap _ _ := hw
  refine r_putF cx hw inX6 (ci := 5) rfl tyX6_ok nmX6 hmn 0 rfl 2 (by decide) fl_X6_23 rfl rfl rfl rfl (Nat.le_of_ble_eq_true rfl) (ws' := [(h0, ob 5 [.ref a1, .ref q1, .ref q2, .null, .null, .int 0, .int 0, .null, .null]), (q1, aJ G 9548 (fun _ => 0)), (q2, aJ G 8 (fun _ => 0))]) rfl dX6_init_23 (fun H locs hw => ?_)
  refine lv_aload_n hx hb dX6_init_26 rfl (lv_at hl 0 rfl) ?_
  refine lv_sipush (v := 744) hx hb dX6_init_27 (by decide) ?_
  refine r_newI cx hw hA (N' := 744) (by decide +kernel) (by decide +kernel) (Nat.le_of_ble_eq_true rfl) (Nat.le_of_ble_eq_true rfl) (Nat.le_of_ble_eq_true rfl) dX6_init_30 (fun q3 H hw => ?_)
  have hw : Wd G A [(h0, ob 5 [.ref a1, .ref q1, .ref q2, .null, .null, .int 0, .int 0, .null, .null]), (q1, aJ G 9548 (fun _ => 0)), (q2, aJ G 8 (fun _ => 0)), (q3, aI G 744 (fun _ => 0))] s.heap _ _ := hw
  refine r_putF cx hw inX6 (ci := 5) rfl tyX6_ok nmX6 hmn 0 rfl 3 (by decide) fl_X6_26 rfl rfl rfl rfl (Nat.le_of_ble_eq_true rfl) (ws' := [(h0, ob 5 [.ref a1, .ref q1, .ref q2, .ref q3, .null, .int 0, .int 0, .null, .null]), (q1, aJ G 9548 (fun _ => 0)), (q2, aJ G 8 (fun _ => 0)), (q3, aI G 744 (fun _ => 0))]) rfl dX6_init_32 (fun H locs hw => ?_)
  refine lv_aload_n hx hb dX6_init_35 rfl (lv_at hl 0 rfl) ?_
  refine lv_sipush (v := 744) hx hb dX6_init_36 (by decide) ?_
  refine r_newI cx hw hA (N' := 744) (by decide +kernel) (by decide +kernel) (Nat.le_of_ble_eq_true rfl) (Nat.le_of_ble_eq_true rfl) (Nat.le_of_ble_eq_true rfl) dX6_init_39 (fun q4 H hw => ?_)
  have hw : Wd G A [(h0, ob 5 [.ref a1, .ref q1, .ref q2, .ref q3, .null, .int 0, .int 0, .null, .null]), (q1, aJ G 9548 (fun _ => 0)), (q2, aJ G 8 (fun _ => 0)), (q3, aI G 744 (fun _ => 0)), (q4, aI G 744 (fun _ => 0))] s.heap _ _ := hw
  refine r_putF cx hw inX6 (ci := 5) rfl tyX6_ok nmX6 hmn 0 rfl 4 (by decide) fl_X6_30 rfl rfl rfl rfl (Nat.le_of_ble_eq_true rfl) (ws' := [(h0, ob 5 [.ref a1, .ref q1, .ref q2, .ref q3, .ref q4, .int 0, .int 0, .null, .null]), (q1, aJ G 9548 (fun _ => 0)), (q2, aJ G 8 (fun _ => 0)), (q3, aI G 744 (fun _ => 0)), (q4, aI G 744 (fun _ => 0))]) rfl dX6_init_41 (fun H locs hw => ?_)
  refine lv_aload_n hx hb dX6_init_44 rfl (lv_at hl 0 rfl) ?_
  refine lv_aload_n hx hb dX6_init_45 rfl (lv_at hl 2 rfl) ?_
  refine r_put cx hw inX6 (ci := 5) rfl tyX6_ok nmX6 0 rfl 7 (by decide) fl_X6_33 rfl rfl rfl (Nat.le_of_ble_eq_true rfl) (ws' := [(h0, ob 5 [.ref a1, .ref q1, .ref q2, .ref q3, .ref q4, .int 0, .int 0, .ref a2, .null]), (q1, aJ G 9548 (fun _ => 0)), (q2, aJ G 8 (fun _ => 0)), (q3, aI G 744 (fun _ => 0)), (q4, aI G 744 (fun _ => 0))]) rfl dX6_init_46 (fun H locs hw => ?_)
  refine lv_aload_n hx hb dX6_init_49 rfl (lv_at hl 0 rfl) ?_
  refine lv_aload_n hx hb dX6_init_50 rfl (lv_at hl 3 rfl) ?_
  refine r_put cx hw inX6 (ci := 5) rfl tyX6_ok nmX6 0 rfl 8 (by decide) fl_X6_37 rfl rfl rfl (Nat.le_of_ble_eq_true rfl) (ws' := [(h0, ob 5 [.ref a1, .ref q1, .ref q2, .ref q3, .ref q4, .int 0, .int 0, .ref a2, .ref a3]), (q1, aJ G 9548 (fun _ => 0)), (q2, aJ G 8 (fun _ => 0)), (q3, aI G 744 (fun _ => 0)), (q4, aI G 744 (fun _ => 0))]) rfl dX6_init_51 (fun H locs hw => ?_)
  refine lv_aload_n hx hb dX6_init_54 rfl (lv_at hl 0 rfl) ?_
  refine lv_iconst (v := 0) hx hb dX6_init_55 (by decide) ?_
  refine r_put cx hw inX6 (ci := 5) rfl tyX6_ok nmX6 0 rfl 5 (by decide) fl_X6_41 rfl rfl rfl (Nat.le_of_ble_eq_true rfl) (ws' := [(h0, ob 5 [.ref a1, .ref q1, .ref q2, .ref q3, .ref q4, .int 0, .int 0, .ref a2, .ref a3]), (q1, aJ G 9548 (fun _ => 0)), (q2, aJ G 8 (fun _ => 0)), (q3, aI G 744 (fun _ => 0)), (q4, aI G 744 (fun _ => 0))]) rfl dX6_init_56 (fun H locs hw => ?_)
  refine lv_aload_n hx hb dX6_init_59 rfl (lv_at hl 0 rfl) ?_
  refine lv_iconst (v := 0) hx hb dX6_init_60 (by decide) ?_
  refine r_put cx hw inX6 (ci := 5) rfl tyX6_ok nmX6 0 rfl 6 (by decide) fl_X6_45 rfl rfl rfl (Nat.le_of_ble_eq_true rfl) (ws' := [(h0, ob 5 [.ref a1, .ref q1, .ref q2, .ref q3, .ref q4, .int 0, .int 0, .ref a2, .ref a3]), (q1, aJ G 9548 (fun _ => 0)), (q2, aJ G 8 (fun _ => 0)), (q3, aI G 744 (fun _ => 0)), (q4, aI G 744 (fun _ => 0))]) rfl dX6_init_61 (fun H locs hw => ?_)
  have hw : Wd G A [(h0, ob 5 [.ref a1, .ref q1, .ref q2, .ref q3, .ref q4, .int 0, .int 0, .ref a2, .ref a3])] s.heap _ _ := hw.sub [0] rfl rfl
  exact r_vret cx hr hlk (fun k => [q1, q2, q3, q4].getD k 0) trivial hw (Nat.le_of_ble_eq_true rfl) (Nat.le_of_ble_eq_true rfl) dX6_init_64

set_option maxHeartbeats 4000000 in
set_option maxRecDepth 100000 in
theorem c_Res (l : Launch) (G : Gt) (h0 : Nat) : Mt l yX5_init cX5_init 2 none ({ frames := 2, cells := 79, slots := 17232, locals := 33 } : Room) G [.ref h0] [(h0, ob 4 [.int 0, .int 0, .int 0, .int 0, .int 0, .int 0, .int 0, .null, .null, .null, .null, .null, .null, .null])] (qV G (fun (w : Nat → Nat) => True) (fun w => [(h0, ob 4 [.int 0, .int 0, .int 0, .int 0, .int 0, .int 0, .int 0, .ref (w 0), .ref (w 1), .ref (w 2), .ref (w 3), .ref (w 4), .ref (w 5), .ref (w 6)])])) := by
  refine Mt.of (own := RX5) (cc := cX5_init) (by decide) rfl (Nat.le_of_ble_eq_true rfl) ?_
  intro p e s m below meth c A ls cx hr hlk hmn hA hl hw
  have hx := cx.1
  have hb := cx.2.1
  have hl : lv_has ls 2 [(0, .ref h0)] := hl
  refine lv_aload_n hx hb dX5_init_0 rfl (lv_at hl 0 rfl) ?_
  refine r_objInit cx ml_X5_5 hl.1 dX5_init_1 (Nat.le_of_ble_eq_true rfl) (Nat.le_of_ble_eq_true rfl) ?_
  refine lv_aload_n hx hb dX5_init_4 rfl (lv_at hl 0 rfl) ?_
  refine lv_sipush (v := 2400) hx hb dX5_init_5 (by decide) ?_
  refine r_newI cx hw hA (N' := 2400) (by decide +kernel) (by decide +kernel) (Nat.le_of_ble_eq_true rfl) (Nat.le_of_ble_eq_true rfl) (Nat.le_of_ble_eq_true rfl) dX5_init_8 (fun q1 H hw => ?_)
  have hw : Wd G A [(h0, ob 4 [.int 0, .int 0, .int 0, .int 0, .int 0, .int 0, .int 0, .null, .null, .null, .null, .null, .null, .null]), (q1, aI G 2400 (fun _ => 0))] s.heap _ _ := hw
  refine r_putF cx hw inX5 (ci := 4) rfl tyX5_ok nmX5 hmn 0 rfl 7 (by decide) fl_X5_11 rfl rfl rfl rfl (Nat.le_of_ble_eq_true rfl) (ws' := [(h0, ob 4 [.int 0, .int 0, .int 0, .int 0, .int 0, .int 0, .int 0, .ref q1, .null, .null, .null, .null, .null, .null]), (q1, aI G 2400 (fun _ => 0))]) rfl dX5_init_10 (fun H locs hw => ?_)
  refine lv_aload_n hx hb dX5_init_13 rfl (lv_at hl 0 rfl) ?_
  refine lv_sipush (v := 3000) hx hb dX5_init_14 (by decide) ?_
  refine r_newJ cx hw hA (N' := 3000) (by decide +kernel) (by decide +kernel) (Nat.le_of_ble_eq_true rfl) (Nat.le_of_ble_eq_true rfl) (Nat.le_of_ble_eq_true rfl) dX5_init_17 (fun q2 H hw => ?_)
  have hw : Wd G A [(h0, ob 4 [.int 0, .int 0, .int 0, .int 0, .int 0, .int 0, .int 0, .ref q1, .null, .null, .null, .null, .null, .null]), (q1, aI G 2400 (fun _ => 0)), (q2, aJ G 3000 (fun _ => 0))] s.heap _ _ := hw
  refine r_putF cx hw inX5 (ci := 4) rfl tyX5_ok nmX5 hmn 0 rfl 8 (by decide) fl_X5_15 rfl rfl rfl rfl (Nat.le_of_ble_eq_true rfl) (ws' := [(h0, ob 4 [.int 0, .int 0, .int 0, .int 0, .int 0, .int 0, .int 0, .ref q1, .ref q2, .null, .null, .null, .null, .null]), (q1, aI G 2400 (fun _ => 0)), (q2, aJ G 3000 (fun _ => 0))]) rfl dX5_init_19 (fun H locs hw => ?_)
  refine lv_aload_n hx hb dX5_init_22 rfl (lv_at hl 0 rfl) ?_
  refine lv_sipush (v := 672) hx hb dX5_init_23 (by decide) ?_
  refine r_newI cx hw hA (N' := 672) (by decide +kernel) (by decide +kernel) (Nat.le_of_ble_eq_true rfl) (Nat.le_of_ble_eq_true rfl) (Nat.le_of_ble_eq_true rfl) dX5_init_26 (fun q3 H hw => ?_)
  have hw : Wd G A [(h0, ob 4 [.int 0, .int 0, .int 0, .int 0, .int 0, .int 0, .int 0, .ref q1, .ref q2, .null, .null, .null, .null, .null]), (q1, aI G 2400 (fun _ => 0)), (q2, aJ G 3000 (fun _ => 0)), (q3, aI G 672 (fun _ => 0))] s.heap _ _ := hw
  refine r_putF cx hw inX5 (ci := 4) rfl tyX5_ok nmX5 hmn 0 rfl 9 (by decide) fl_X5_19 rfl rfl rfl rfl (Nat.le_of_ble_eq_true rfl) (ws' := [(h0, ob 4 [.int 0, .int 0, .int 0, .int 0, .int 0, .int 0, .int 0, .ref q1, .ref q2, .ref q3, .null, .null, .null, .null]), (q1, aI G 2400 (fun _ => 0)), (q2, aJ G 3000 (fun _ => 0)), (q3, aI G 672 (fun _ => 0))]) rfl dX5_init_28 (fun H locs hw => ?_)
  refine lv_aload_n hx hb dX5_init_31 rfl (lv_at hl 0 rfl) ?_
  refine lv_sipush (v := 672) hx hb dX5_init_32 (by decide) ?_
  refine r_newI cx hw hA (N' := 672) (by decide +kernel) (by decide +kernel) (Nat.le_of_ble_eq_true rfl) (Nat.le_of_ble_eq_true rfl) (Nat.le_of_ble_eq_true rfl) dX5_init_35 (fun q4 H hw => ?_)
  have hw : Wd G A [(h0, ob 4 [.int 0, .int 0, .int 0, .int 0, .int 0, .int 0, .int 0, .ref q1, .ref q2, .ref q3, .null, .null, .null, .null]), (q1, aI G 2400 (fun _ => 0)), (q2, aJ G 3000 (fun _ => 0)), (q3, aI G 672 (fun _ => 0)), (q4, aI G 672 (fun _ => 0))] s.heap _ _ := hw
  refine r_putF cx hw inX5 (ci := 4) rfl tyX5_ok nmX5 hmn 0 rfl 10 (by decide) fl_X5_22 rfl rfl rfl rfl (Nat.le_of_ble_eq_true rfl) (ws' := [(h0, ob 4 [.int 0, .int 0, .int 0, .int 0, .int 0, .int 0, .int 0, .ref q1, .ref q2, .ref q3, .ref q4, .null, .null, .null]), (q1, aI G 2400 (fun _ => 0)), (q2, aJ G 3000 (fun _ => 0)), (q3, aI G 672 (fun _ => 0)), (q4, aI G 672 (fun _ => 0))]) rfl dX5_init_37 (fun H locs hw => ?_)
  refine lv_aload_n hx hb dX5_init_40 rfl (lv_at hl 0 rfl) ?_
  refine lv_sipush (v := 672) hx hb dX5_init_41 (by decide) ?_
  refine r_newJ cx hw hA (N' := 672) (by decide +kernel) (by decide +kernel) (Nat.le_of_ble_eq_true rfl) (Nat.le_of_ble_eq_true rfl) (Nat.le_of_ble_eq_true rfl) dX5_init_44 (fun q5 H hw => ?_)
  have hw : Wd G A [(h0, ob 4 [.int 0, .int 0, .int 0, .int 0, .int 0, .int 0, .int 0, .ref q1, .ref q2, .ref q3, .ref q4, .null, .null, .null]), (q1, aI G 2400 (fun _ => 0)), (q2, aJ G 3000 (fun _ => 0)), (q3, aI G 672 (fun _ => 0)), (q4, aI G 672 (fun _ => 0)), (q5, aJ G 672 (fun _ => 0))] s.heap _ _ := hw
  refine r_putF cx hw inX5 (ci := 4) rfl tyX5_ok nmX5 hmn 0 rfl 11 (by decide) fl_X5_25 rfl rfl rfl rfl (Nat.le_of_ble_eq_true rfl) (ws' := [(h0, ob 4 [.int 0, .int 0, .int 0, .int 0, .int 0, .int 0, .int 0, .ref q1, .ref q2, .ref q3, .ref q4, .ref q5, .null, .null]), (q1, aI G 2400 (fun _ => 0)), (q2, aJ G 3000 (fun _ => 0)), (q3, aI G 672 (fun _ => 0)), (q4, aI G 672 (fun _ => 0)), (q5, aJ G 672 (fun _ => 0))]) rfl dX5_init_46 (fun H locs hw => ?_)
  refine lv_aload_n hx hb dX5_init_49 rfl (lv_at hl 0 rfl) ?_
  refine lv_bipush (v := 96) hx hb dX5_init_50 (by decide) ?_
  refine r_newI cx hw hA (N' := 96) (by decide +kernel) (by decide +kernel) (Nat.le_of_ble_eq_true rfl) (Nat.le_of_ble_eq_true rfl) (Nat.le_of_ble_eq_true rfl) dX5_init_52 (fun q6 H hw => ?_)
  have hw : Wd G A [(h0, ob 4 [.int 0, .int 0, .int 0, .int 0, .int 0, .int 0, .int 0, .ref q1, .ref q2, .ref q3, .ref q4, .ref q5, .null, .null]), (q1, aI G 2400 (fun _ => 0)), (q2, aJ G 3000 (fun _ => 0)), (q3, aI G 672 (fun _ => 0)), (q4, aI G 672 (fun _ => 0)), (q5, aJ G 672 (fun _ => 0)), (q6, aI G 96 (fun _ => 0))] s.heap _ _ := hw
  refine r_putF cx hw inX5 (ci := 4) rfl tyX5_ok nmX5 hmn 0 rfl 12 (by decide) fl_X5_28 rfl rfl rfl rfl (Nat.le_of_ble_eq_true rfl) (ws' := [(h0, ob 4 [.int 0, .int 0, .int 0, .int 0, .int 0, .int 0, .int 0, .ref q1, .ref q2, .ref q3, .ref q4, .ref q5, .ref q6, .null]), (q1, aI G 2400 (fun _ => 0)), (q2, aJ G 3000 (fun _ => 0)), (q3, aI G 672 (fun _ => 0)), (q4, aI G 672 (fun _ => 0)), (q5, aJ G 672 (fun _ => 0)), (q6, aI G 96 (fun _ => 0))]) rfl dX5_init_54 (fun H locs hw => ?_)
  refine lv_aload_n hx hb dX5_init_57 rfl (lv_at hl 0 rfl) ?_
  refine lv_bipush (v := 24) hx hb dX5_init_58 (by decide) ?_
  refine r_newP cx hw hA cl_X5_31 (N' := 24) (by decide +kernel) (by decide +kernel) (Nat.le_of_ble_eq_true rfl) (Nat.le_of_ble_eq_true rfl) (Nat.le_of_ble_eq_true rfl) dX5_init_60 (fun q7 H hw => ?_)
  have hw : Wd G A [(h0, ob 4 [.int 0, .int 0, .int 0, .int 0, .int 0, .int 0, .int 0, .ref q1, .ref q2, .ref q3, .ref q4, .ref q5, .ref q6, .null]), (q1, aI G 2400 (fun _ => 0)), (q2, aJ G 3000 (fun _ => 0)), (q3, aI G 672 (fun _ => 0)), (q4, aI G 672 (fun _ => 0)), (q5, aJ G 672 (fun _ => 0)), (q6, aI G 96 (fun _ => 0)), (q7, aP G 24 (fun _ => none))] s.heap _ _ := hw
  refine r_putF cx hw inX5 (ci := 4) rfl tyX5_ok nmX5 hmn 0 rfl 13 (by decide) fl_X5_33 rfl rfl rfl rfl (Nat.le_of_ble_eq_true rfl) (ws' := [(h0, ob 4 [.int 0, .int 0, .int 0, .int 0, .int 0, .int 0, .int 0, .ref q1, .ref q2, .ref q3, .ref q4, .ref q5, .ref q6, .ref q7]), (q1, aI G 2400 (fun _ => 0)), (q2, aJ G 3000 (fun _ => 0)), (q3, aI G 672 (fun _ => 0)), (q4, aI G 672 (fun _ => 0)), (q5, aJ G 672 (fun _ => 0)), (q6, aI G 96 (fun _ => 0)), (q7, aP G 24 (fun _ => none))]) rfl dX5_init_63 (fun H locs hw => ?_)
  refine lv_iconst (v := 0) hx hb dX5_init_66 (by decide) ?_
  refine lv_istore_n (lv' := [(1, .int 0), (0, .ref h0)]) hx hb dX5_init_67 rfl hl (by decide) rfl (fun ls hl => ?_)
  have hw : Wd G A [(h0, ob 4 [.int 0, .int 0, .int 0, .int 0, .int 0, .int 0, .int 0, .ref q1, .ref q2, .ref q3, .ref q4, .ref q5, .ref q6, .ref q7]), (q7, aP G 24 (fun _ => none))] s.heap _ _ := hw.sub [0, 7] rfl rfl
  refine lv_iload_n hx hb dX5_init_68 rfl (lv_at hl 0 rfl) ?_
  refine lv_bipush (v := 24) hx hb dX5_init_69 (by decide) ?_
  refine lv_icmp_ge (tgt := 96) hx hb dX5_init_71 (by decide) (fun c9 => absurd c9 (by decide)) (fun _ => ?_)
  refine lv_aload_n hx hb dX5_init_74 rfl (lv_at hl 1 rfl) ?_
  refine r_get cx hw inX5 (ci := 4) rfl 0 rfl 13 (by decide) fl_X5_33 rfl dX5_init_75 ?_
  refine lv_iload_n hx hb dX5_init_78 rfl (lv_at hl 0 rfl) ?_
  refine r_new cx hw hA inX2 (ci := 1) rfl tyX2_ok cl_X5_31 ia_X2 in_X2 nfX2_ok (Nat.le_of_ble_eq_true rfl) (Nat.le_of_ble_eq_true rfl) dX5_init_79 (fun q8 H hw => ?_)
  have hw : Wd G A [(h0, ob 4 [.int 0, .int 0, .int 0, .int 0, .int 0, .int 0, .int 0, .ref q1, .ref q2, .ref q3, .ref q4, .ref q5, .ref q6, .ref q7]), (q7, aP G 24 (fun _ => none)), (q8, ob 1 [.null, .null, .int 0, .int 0])] s.heap _ _ := hw
  refine lv_dup hx hb dX5_init_82 rfl ?_
  refine lv_sipush (v := 200) hx hb dX5_init_83 (by decide) ?_
  refine r_callIV (As := [.int 200]) (rest := [.ref q8, .int 0, .ref q7]) (wr := [(h0, ob 4 [.int 0, .int 0, .int 0, .int 0, .int 0, .int 0, .int 0, .ref q1, .ref q2, .ref q3, .ref q4, .ref q5, .ref q6, .ref q7]), (q7, aP G 24 (fun _ => none))]) cx hw hA (c_Pat200 l G q8) [2] [0, 1] rfl rfl rfl rfl rfl ml_X5_37 im_X2_init in_X2 co_X2_init rfl hd_X2_init rfl ⟨Nat.le_of_ble_eq_true rfl, Nat.le_of_ble_eq_true rfl⟩ hl.1 rfl (Nat.le_of_ble_eq_true rfl) dX5_init_86 ⟨Nat.le_of_ble_eq_true rfl, Nat.le_of_ble_eq_true rfl⟩ (fun u9 H locs hr10 hw => ?_)
  have hw : Wd G A [(h0, ob 4 [.int 0, .int 0, .int 0, .int 0, .int 0, .int 0, .int 0, .ref q1, .ref q2, .ref q3, .ref q4, .ref q5, .ref q6, .ref q7]), (q7, aP G 24 (fun _ => none)), (q8, ob 1 [.ref (u9 0), .ref (u9 1), .int 0, .int 0])] s.heap _ _ := hw
  refine r_aast cx hw 1 2 rfl rfl (inL (by decide +kernel)) (ws' := [(h0, ob 4 [.int 0, .int 0, .int 0, .int 0, .int 0, .int 0, .int 0, .ref q1, .ref q2, .ref q3, .ref q4, .ref q5, .ref q6, .ref q7]), (q7, aP G 24 (va_up (fun _ => none) 0 (some q8))), (q8, ob 1 [.ref (u9 0), .ref (u9 1), .int 0, .int 0])]) rfl dX5_init_89 (fun H locs hw => ?_)
  refine lv_iinc (v := 1) (lv' := [(1, .int 1), (0, .ref h0)]) hx hb dX5_init_90 hl (k := 0) rfl (by decide +kernel) (by decide) rfl (fun ls hl => ?_)
  refine lv_goto (tgt := 68) hx hb dX5_init_93 (by decide) ?_
  have hw : Wd G A [(h0, ob 4 [.int 0, .int 0, .int 0, .int 0, .int 0, .int 0, .int 0, .ref q1, .ref q2, .ref q3, .ref q4, .ref q5, .ref q6, .ref q7]), (q7, aP G 24 (va_up (fun _ => none) 0 (some q8)))] s.heap _ _ := hw.sub [0, 1] rfl rfl
  refine lv_iload_n hx hb dX5_init_68 rfl (lv_at hl 0 rfl) ?_
  refine lv_bipush (v := 24) hx hb dX5_init_69 (by decide) ?_
  refine lv_icmp_ge (tgt := 96) hx hb dX5_init_71 (by decide) (fun c9 => absurd c9 (by decide)) (fun _ => ?_)
  refine lv_aload_n hx hb dX5_init_74 rfl (lv_at hl 1 rfl) ?_
  refine r_get cx hw inX5 (ci := 4) rfl 0 rfl 13 (by decide) fl_X5_33 rfl dX5_init_75 ?_
  refine lv_iload_n hx hb dX5_init_78 rfl (lv_at hl 0 rfl) ?_
  refine r_new cx hw hA inX2 (ci := 1) rfl tyX2_ok cl_X5_31 ia_X2 in_X2 nfX2_ok (Nat.le_of_ble_eq_true rfl) (Nat.le_of_ble_eq_true rfl) dX5_init_79 (fun q11 H hw => ?_)
  have hw : Wd G A [(h0, ob 4 [.int 0, .int 0, .int 0, .int 0, .int 0, .int 0, .int 0, .ref q1, .ref q2, .ref q3, .ref q4, .ref q5, .ref q6, .ref q7]), (q7, aP G 24 (va_up (fun _ => none) 0 (some q8))), (q11, ob 1 [.null, .null, .int 0, .int 0])] s.heap _ _ := hw
  refine lv_dup hx hb dX5_init_82 rfl ?_
  refine lv_sipush (v := 200) hx hb dX5_init_83 (by decide) ?_
  refine r_callIV (As := [.int 200]) (rest := [.ref q11, .int 1, .ref q7]) (wr := [(h0, ob 4 [.int 0, .int 0, .int 0, .int 0, .int 0, .int 0, .int 0, .ref q1, .ref q2, .ref q3, .ref q4, .ref q5, .ref q6, .ref q7]), (q7, aP G 24 (va_up (fun _ => none) 0 (some q8)))]) cx hw hA (c_Pat200 l G q11) [2] [0, 1] rfl rfl rfl rfl rfl ml_X5_37 im_X2_init in_X2 co_X2_init rfl hd_X2_init rfl ⟨Nat.le_of_ble_eq_true rfl, Nat.le_of_ble_eq_true rfl⟩ hl.1 rfl (Nat.le_of_ble_eq_true rfl) dX5_init_86 ⟨Nat.le_of_ble_eq_true rfl, Nat.le_of_ble_eq_true rfl⟩ (fun u12 H locs hr13 hw => ?_)
  have hw : Wd G A [(h0, ob 4 [.int 0, .int 0, .int 0, .int 0, .int 0, .int 0, .int 0, .ref q1, .ref q2, .ref q3, .ref q4, .ref q5, .ref q6, .ref q7]), (q7, aP G 24 (va_up (fun _ => none) 0 (some q8))), (q11, ob 1 [.ref (u12 0), .ref (u12 1), .int 0, .int 0])] s.heap _ _ := hw
  refine r_aast cx hw 1 2 rfl rfl (inL (by decide +kernel)) (ws' := [(h0, ob 4 [.int 0, .int 0, .int 0, .int 0, .int 0, .int 0, .int 0, .ref q1, .ref q2, .ref q3, .ref q4, .ref q5, .ref q6, .ref q7]), (q7, aP G 24 (va_up (va_up (fun _ => none) 0 (some q8)) 1 (some q11))), (q11, ob 1 [.ref (u12 0), .ref (u12 1), .int 0, .int 0])]) rfl dX5_init_89 (fun H locs hw => ?_)
  refine lv_iinc (v := 2) (lv' := [(1, .int 2), (0, .ref h0)]) hx hb dX5_init_90 hl (k := 0) rfl (by decide +kernel) (by decide) rfl (fun ls hl => ?_)
  refine lv_goto (tgt := 68) hx hb dX5_init_93 (by decide) ?_
  have hw : Wd G A [(h0, ob 4 [.int 0, .int 0, .int 0, .int 0, .int 0, .int 0, .int 0, .ref q1, .ref q2, .ref q3, .ref q4, .ref q5, .ref q6, .ref q7]), (q7, aP G 24 (va_up (va_up (fun _ => none) 0 (some q8)) 1 (some q11)))] s.heap _ _ := hw.sub [0, 1] rfl rfl
  refine lv_iload_n hx hb dX5_init_68 rfl (lv_at hl 0 rfl) ?_
  refine lv_bipush (v := 24) hx hb dX5_init_69 (by decide) ?_
  refine lv_icmp_ge (tgt := 96) hx hb dX5_init_71 (by decide) (fun c9 => absurd c9 (by decide)) (fun _ => ?_)
  refine lv_aload_n hx hb dX5_init_74 rfl (lv_at hl 1 rfl) ?_
  refine r_get cx hw inX5 (ci := 4) rfl 0 rfl 13 (by decide) fl_X5_33 rfl dX5_init_75 ?_
  refine lv_iload_n hx hb dX5_init_78 rfl (lv_at hl 0 rfl) ?_
  refine r_new cx hw hA inX2 (ci := 1) rfl tyX2_ok cl_X5_31 ia_X2 in_X2 nfX2_ok (Nat.le_of_ble_eq_true rfl) (Nat.le_of_ble_eq_true rfl) dX5_init_79 (fun q14 H hw => ?_)
  have hw : Wd G A [(h0, ob 4 [.int 0, .int 0, .int 0, .int 0, .int 0, .int 0, .int 0, .ref q1, .ref q2, .ref q3, .ref q4, .ref q5, .ref q6, .ref q7]), (q7, aP G 24 (va_up (va_up (fun _ => none) 0 (some q8)) 1 (some q11))), (q14, ob 1 [.null, .null, .int 0, .int 0])] s.heap _ _ := hw
  refine lv_dup hx hb dX5_init_82 rfl ?_
  refine lv_sipush (v := 200) hx hb dX5_init_83 (by decide) ?_
  refine r_callIV (As := [.int 200]) (rest := [.ref q14, .int 2, .ref q7]) (wr := [(h0, ob 4 [.int 0, .int 0, .int 0, .int 0, .int 0, .int 0, .int 0, .ref q1, .ref q2, .ref q3, .ref q4, .ref q5, .ref q6, .ref q7]), (q7, aP G 24 (va_up (va_up (fun _ => none) 0 (some q8)) 1 (some q11)))]) cx hw hA (c_Pat200 l G q14) [2] [0, 1] rfl rfl rfl rfl rfl ml_X5_37 im_X2_init in_X2 co_X2_init rfl hd_X2_init rfl ⟨Nat.le_of_ble_eq_true rfl, Nat.le_of_ble_eq_true rfl⟩ hl.1 rfl (Nat.le_of_ble_eq_true rfl) dX5_init_86 ⟨Nat.le_of_ble_eq_true rfl, Nat.le_of_ble_eq_true rfl⟩ (fun u15 H locs hr16 hw => ?_)
  have hw : Wd G A [(h0, ob 4 [.int 0, .int 0, .int 0, .int 0, .int 0, .int 0, .int 0, .ref q1, .ref q2, .ref q3, .ref q4, .ref q5, .ref q6, .ref q7]), (q7, aP G 24 (va_up (va_up (fun _ => none) 0 (some q8)) 1 (some q11))), (q14, ob 1 [.ref (u15 0), .ref (u15 1), .int 0, .int 0])] s.heap _ _ := hw
  refine r_aast cx hw 1 2 rfl rfl (inL (by decide +kernel)) (ws' := [(h0, ob 4 [.int 0, .int 0, .int 0, .int 0, .int 0, .int 0, .int 0, .ref q1, .ref q2, .ref q3, .ref q4, .ref q5, .ref q6, .ref q7]), (q7, aP G 24 (va_up (va_up (va_up (fun _ => none) 0 (some q8)) 1 (some q11)) 2 (some q14))), (q14, ob 1 [.ref (u15 0), .ref (u15 1), .int 0, .int 0])]) rfl dX5_init_89 (fun H locs hw => ?_)
  refine lv_iinc (v := 3) (lv' := [(1, .int 3), (0, .ref h0)]) hx hb dX5_init_90 hl (k := 0) rfl (by decide +kernel) (by decide) rfl (fun ls hl => ?_)
  refine lv_goto (tgt := 68) hx hb dX5_init_93 (by decide) ?_
  have hw : Wd G A [(h0, ob 4 [.int 0, .int 0, .int 0, .int 0, .int 0, .int 0, .int 0, .ref q1, .ref q2, .ref q3, .ref q4, .ref q5, .ref q6, .ref q7]), (q7, aP G 24 (va_up (va_up (va_up (fun _ => none) 0 (some q8)) 1 (some q11)) 2 (some q14)))] s.heap _ _ := hw.sub [0, 1] rfl rfl
  refine lv_iload_n hx hb dX5_init_68 rfl (lv_at hl 0 rfl) ?_
  refine lv_bipush (v := 24) hx hb dX5_init_69 (by decide) ?_
  refine lv_icmp_ge (tgt := 96) hx hb dX5_init_71 (by decide) (fun c9 => absurd c9 (by decide)) (fun _ => ?_)
  refine lv_aload_n hx hb dX5_init_74 rfl (lv_at hl 1 rfl) ?_
  refine r_get cx hw inX5 (ci := 4) rfl 0 rfl 13 (by decide) fl_X5_33 rfl dX5_init_75 ?_
  refine lv_iload_n hx hb dX5_init_78 rfl (lv_at hl 0 rfl) ?_
  refine r_new cx hw hA inX2 (ci := 1) rfl tyX2_ok cl_X5_31 ia_X2 in_X2 nfX2_ok (Nat.le_of_ble_eq_true rfl) (Nat.le_of_ble_eq_true rfl) dX5_init_79 (fun q17 H hw => ?_)
  have hw : Wd G A [(h0, ob 4 [.int 0, .int 0, .int 0, .int 0, .int 0, .int 0, .int 0, .ref q1, .ref q2, .ref q3, .ref q4, .ref q5, .ref q6, .ref q7]), (q7, aP G 24 (va_up (va_up (va_up (fun _ => none) 0 (some q8)) 1 (some q11)) 2 (some q14))), (q17, ob 1 [.null, .null, .int 0, .int 0])] s.heap _ _ := hw
  refine lv_dup hx hb dX5_init_82 rfl ?_
  refine lv_sipush (v := 200) hx hb dX5_init_83 (by decide) ?_
  refine r_callIV (As := [.int 200]) (rest := [.ref q17, .int 3, .ref q7]) (wr := [(h0, ob 4 [.int 0, .int 0, .int 0, .int 0, .int 0, .int 0, .int 0, .ref q1, .ref q2, .ref q3, .ref q4, .ref q5, .ref q6, .ref q7]), (q7, aP G 24 (va_up (va_up (va_up (fun _ => none) 0 (some q8)) 1 (some q11)) 2 (some q14)))]) cx hw hA (c_Pat200 l G q17) [2] [0, 1] rfl rfl rfl rfl rfl ml_X5_37 im_X2_init in_X2 co_X2_init rfl hd_X2_init rfl ⟨Nat.le_of_ble_eq_true rfl, Nat.le_of_ble_eq_true rfl⟩ hl.1 rfl (Nat.le_of_ble_eq_true rfl) dX5_init_86 ⟨Nat.le_of_ble_eq_true rfl, Nat.le_of_ble_eq_true rfl⟩ (fun u18 H locs hr19 hw => ?_)
  have hw : Wd G A [(h0, ob 4 [.int 0, .int 0, .int 0, .int 0, .int 0, .int 0, .int 0, .ref q1, .ref q2, .ref q3, .ref q4, .ref q5, .ref q6, .ref q7]), (q7, aP G 24 (va_up (va_up (va_up (fun _ => none) 0 (some q8)) 1 (some q11)) 2 (some q14))), (q17, ob 1 [.ref (u18 0), .ref (u18 1), .int 0, .int 0])] s.heap _ _ := hw
  refine r_aast cx hw 1 2 rfl rfl (inL (by decide +kernel)) (ws' := [(h0, ob 4 [.int 0, .int 0, .int 0, .int 0, .int 0, .int 0, .int 0, .ref q1, .ref q2, .ref q3, .ref q4, .ref q5, .ref q6, .ref q7]), (q7, aP G 24 (va_up (va_up (va_up (va_up (fun _ => none) 0 (some q8)) 1 (some q11)) 2 (some q14)) 3 (some q17))), (q17, ob 1 [.ref (u18 0), .ref (u18 1), .int 0, .int 0])]) rfl dX5_init_89 (fun H locs hw => ?_)
  refine lv_iinc (v := 4) (lv' := [(1, .int 4), (0, .ref h0)]) hx hb dX5_init_90 hl (k := 0) rfl (by decide +kernel) (by decide) rfl (fun ls hl => ?_)
  refine lv_goto (tgt := 68) hx hb dX5_init_93 (by decide) ?_
  have hw : Wd G A [(h0, ob 4 [.int 0, .int 0, .int 0, .int 0, .int 0, .int 0, .int 0, .ref q1, .ref q2, .ref q3, .ref q4, .ref q5, .ref q6, .ref q7]), (q7, aP G 24 (va_up (va_up (va_up (va_up (fun _ => none) 0 (some q8)) 1 (some q11)) 2 (some q14)) 3 (some q17)))] s.heap _ _ := hw.sub [0, 1] rfl rfl
  refine lv_iload_n hx hb dX5_init_68 rfl (lv_at hl 0 rfl) ?_
  refine lv_bipush (v := 24) hx hb dX5_init_69 (by decide) ?_
  refine lv_icmp_ge (tgt := 96) hx hb dX5_init_71 (by decide) (fun c9 => absurd c9 (by decide)) (fun _ => ?_)
  refine lv_aload_n hx hb dX5_init_74 rfl (lv_at hl 1 rfl) ?_
  refine r_get cx hw inX5 (ci := 4) rfl 0 rfl 13 (by decide) fl_X5_33 rfl dX5_init_75 ?_
  refine lv_iload_n hx hb dX5_init_78 rfl (lv_at hl 0 rfl) ?_
  refine r_new cx hw hA inX2 (ci := 1) rfl tyX2_ok cl_X5_31 ia_X2 in_X2 nfX2_ok (Nat.le_of_ble_eq_true rfl) (Nat.le_of_ble_eq_true rfl) dX5_init_79 (fun q20 H hw => ?_)
  have hw : Wd G A [(h0, ob 4 [.int 0, .int 0, .int 0, .int 0, .int 0, .int 0, .int 0, .ref q1, .ref q2, .ref q3, .ref q4, .ref q5, .ref q6, .ref q7]), (q7, aP G 24 (va_up (va_up (va_up (va_up (fun _ => none) 0 (some q8)) 1 (some q11)) 2 (some q14)) 3 (some q17))), (q20, ob 1 [.null, .null, .int 0, .int 0])] s.heap _ _ := hw
  refine lv_dup hx hb dX5_init_82 rfl ?_
  refine lv_sipush (v := 200) hx hb dX5_init_83 (by decide) ?_
  refine r_callIV (As := [.int 200]) (rest := [.ref q20, .int 4, .ref q7]) (wr := [(h0, ob 4 [.int 0, .int 0, .int 0, .int 0, .int 0, .int 0, .int 0, .ref q1, .ref q2, .ref q3, .ref q4, .ref q5, .ref q6, .ref q7]), (q7, aP G 24 (va_up (va_up (va_up (va_up (fun _ => none) 0 (some q8)) 1 (some q11)) 2 (some q14)) 3 (some q17)))]) cx hw hA (c_Pat200 l G q20) [2] [0, 1] rfl rfl rfl rfl rfl ml_X5_37 im_X2_init in_X2 co_X2_init rfl hd_X2_init rfl ⟨Nat.le_of_ble_eq_true rfl, Nat.le_of_ble_eq_true rfl⟩ hl.1 rfl (Nat.le_of_ble_eq_true rfl) dX5_init_86 ⟨Nat.le_of_ble_eq_true rfl, Nat.le_of_ble_eq_true rfl⟩ (fun u21 H locs hr22 hw => ?_)
  have hw : Wd G A [(h0, ob 4 [.int 0, .int 0, .int 0, .int 0, .int 0, .int 0, .int 0, .ref q1, .ref q2, .ref q3, .ref q4, .ref q5, .ref q6, .ref q7]), (q7, aP G 24 (va_up (va_up (va_up (va_up (fun _ => none) 0 (some q8)) 1 (some q11)) 2 (some q14)) 3 (some q17))), (q20, ob 1 [.ref (u21 0), .ref (u21 1), .int 0, .int 0])] s.heap _ _ := hw
  refine r_aast cx hw 1 2 rfl rfl (inL (by decide +kernel)) (ws' := [(h0, ob 4 [.int 0, .int 0, .int 0, .int 0, .int 0, .int 0, .int 0, .ref q1, .ref q2, .ref q3, .ref q4, .ref q5, .ref q6, .ref q7]), (q7, aP G 24 (va_up (va_up (va_up (va_up (va_up (fun _ => none) 0 (some q8)) 1 (some q11)) 2 (some q14)) 3 (some q17)) 4 (some q20))), (q20, ob 1 [.ref (u21 0), .ref (u21 1), .int 0, .int 0])]) rfl dX5_init_89 (fun H locs hw => ?_)
  refine lv_iinc (v := 5) (lv' := [(1, .int 5), (0, .ref h0)]) hx hb dX5_init_90 hl (k := 0) rfl (by decide +kernel) (by decide) rfl (fun ls hl => ?_)
  refine lv_goto (tgt := 68) hx hb dX5_init_93 (by decide) ?_
  have hw : Wd G A [(h0, ob 4 [.int 0, .int 0, .int 0, .int 0, .int 0, .int 0, .int 0, .ref q1, .ref q2, .ref q3, .ref q4, .ref q5, .ref q6, .ref q7]), (q7, aP G 24 (va_up (va_up (va_up (va_up (va_up (fun _ => none) 0 (some q8)) 1 (some q11)) 2 (some q14)) 3 (some q17)) 4 (some q20)))] s.heap _ _ := hw.sub [0, 1] rfl rfl
  refine lv_iload_n hx hb dX5_init_68 rfl (lv_at hl 0 rfl) ?_
  refine lv_bipush (v := 24) hx hb dX5_init_69 (by decide) ?_
  refine lv_icmp_ge (tgt := 96) hx hb dX5_init_71 (by decide) (fun c9 => absurd c9 (by decide)) (fun _ => ?_)
  refine lv_aload_n hx hb dX5_init_74 rfl (lv_at hl 1 rfl) ?_
  refine r_get cx hw inX5 (ci := 4) rfl 0 rfl 13 (by decide) fl_X5_33 rfl dX5_init_75 ?_
  refine lv_iload_n hx hb dX5_init_78 rfl (lv_at hl 0 rfl) ?_
  refine r_new cx hw hA inX2 (ci := 1) rfl tyX2_ok cl_X5_31 ia_X2 in_X2 nfX2_ok (Nat.le_of_ble_eq_true rfl) (Nat.le_of_ble_eq_true rfl) dX5_init_79 (fun q23 H hw => ?_)
  have hw : Wd G A [(h0, ob 4 [.int 0, .int 0, .int 0, .int 0, .int 0, .int 0, .int 0, .ref q1, .ref q2, .ref q3, .ref q4, .ref q5, .ref q6, .ref q7]), (q7, aP G 24 (va_up (va_up (va_up (va_up (va_up (fun _ => none) 0 (some q8)) 1 (some q11)) 2 (some q14)) 3 (some q17)) 4 (some q20))), (q23, ob 1 [.null, .null, .int 0, .int 0])] s.heap _ _ := hw
  refine lv_dup hx hb dX5_init_82 rfl ?_
  refine lv_sipush (v := 200) hx hb dX5_init_83 (by decide) ?_
  refine r_callIV (As := [.int 200]) (rest := [.ref q23, .int 5, .ref q7]) (wr := [(h0, ob 4 [.int 0, .int 0, .int 0, .int 0, .int 0, .int 0, .int 0, .ref q1, .ref q2, .ref q3, .ref q4, .ref q5, .ref q6, .ref q7]), (q7, aP G 24 (va_up (va_up (va_up (va_up (va_up (fun _ => none) 0 (some q8)) 1 (some q11)) 2 (some q14)) 3 (some q17)) 4 (some q20)))]) cx hw hA (c_Pat200 l G q23) [2] [0, 1] rfl rfl rfl rfl rfl ml_X5_37 im_X2_init in_X2 co_X2_init rfl hd_X2_init rfl ⟨Nat.le_of_ble_eq_true rfl, Nat.le_of_ble_eq_true rfl⟩ hl.1 rfl (Nat.le_of_ble_eq_true rfl) dX5_init_86 ⟨Nat.le_of_ble_eq_true rfl, Nat.le_of_ble_eq_true rfl⟩ (fun u24 H locs hr25 hw => ?_)
  have hw : Wd G A [(h0, ob 4 [.int 0, .int 0, .int 0, .int 0, .int 0, .int 0, .int 0, .ref q1, .ref q2, .ref q3, .ref q4, .ref q5, .ref q6, .ref q7]), (q7, aP G 24 (va_up (va_up (va_up (va_up (va_up (fun _ => none) 0 (some q8)) 1 (some q11)) 2 (some q14)) 3 (some q17)) 4 (some q20))), (q23, ob 1 [.ref (u24 0), .ref (u24 1), .int 0, .int 0])] s.heap _ _ := hw
  refine r_aast cx hw 1 2 rfl rfl (inL (by decide +kernel)) (ws' := [(h0, ob 4 [.int 0, .int 0, .int 0, .int 0, .int 0, .int 0, .int 0, .ref q1, .ref q2, .ref q3, .ref q4, .ref q5, .ref q6, .ref q7]), (q7, aP G 24 (va_up (va_up (va_up (va_up (va_up (va_up (fun _ => none) 0 (some q8)) 1 (some q11)) 2 (some q14)) 3 (some q17)) 4 (some q20)) 5 (some q23))), (q23, ob 1 [.ref (u24 0), .ref (u24 1), .int 0, .int 0])]) rfl dX5_init_89 (fun H locs hw => ?_)
  refine lv_iinc (v := 6) (lv' := [(1, .int 6), (0, .ref h0)]) hx hb dX5_init_90 hl (k := 0) rfl (by decide +kernel) (by decide) rfl (fun ls hl => ?_)
  refine lv_goto (tgt := 68) hx hb dX5_init_93 (by decide) ?_
  have hw : Wd G A [(h0, ob 4 [.int 0, .int 0, .int 0, .int 0, .int 0, .int 0, .int 0, .ref q1, .ref q2, .ref q3, .ref q4, .ref q5, .ref q6, .ref q7]), (q7, aP G 24 (va_up (va_up (va_up (va_up (va_up (va_up (fun _ => none) 0 (some q8)) 1 (some q11)) 2 (some q14)) 3 (some q17)) 4 (some q20)) 5 (some q23)))] s.heap _ _ := hw.sub [0, 1] rfl rfl
  refine lv_iload_n hx hb dX5_init_68 rfl (lv_at hl 0 rfl) ?_
  refine lv_bipush (v := 24) hx hb dX5_init_69 (by decide) ?_
  refine lv_icmp_ge (tgt := 96) hx hb dX5_init_71 (by decide) (fun c9 => absurd c9 (by decide)) (fun _ => ?_)
  refine lv_aload_n hx hb dX5_init_74 rfl (lv_at hl 1 rfl) ?_
  refine r_get cx hw inX5 (ci := 4) rfl 0 rfl 13 (by decide) fl_X5_33 rfl dX5_init_75 ?_
  refine lv_iload_n hx hb dX5_init_78 rfl (lv_at hl 0 rfl) ?_
  refine r_new cx hw hA inX2 (ci := 1) rfl tyX2_ok cl_X5_31 ia_X2 in_X2 nfX2_ok (Nat.le_of_ble_eq_true rfl) (Nat.le_of_ble_eq_true rfl) dX5_init_79 (fun q26 H hw => ?_)
  have hw : Wd G A [(h0, ob 4 [.int 0, .int 0, .int 0, .int 0, .int 0, .int 0, .int 0, .ref q1, .ref q2, .ref q3, .ref q4, .ref q5, .ref q6, .ref q7]), (q7, aP G 24 (va_up (va_up (va_up (va_up (va_up (va_up (fun _ => none) 0 (some q8)) 1 (some q11)) 2 (some q14)) 3 (some q17)) 4 (some q20)) 5 (some q23))), (q26, ob 1 [.null, .null, .int 0, .int 0])] s.heap _ _ := hw
  refine lv_dup hx hb dX5_init_82 rfl ?_
  refine lv_sipush (v := 200) hx hb dX5_init_83 (by decide) ?_
  refine r_callIV (As := [.int 200]) (rest := [.ref q26, .int 6, .ref q7]) (wr := [(h0, ob 4 [.int 0, .int 0, .int 0, .int 0, .int 0, .int 0, .int 0, .ref q1, .ref q2, .ref q3, .ref q4, .ref q5, .ref q6, .ref q7]), (q7, aP G 24 (va_up (va_up (va_up (va_up (va_up (va_up (fun _ => none) 0 (some q8)) 1 (some q11)) 2 (some q14)) 3 (some q17)) 4 (some q20)) 5 (some q23)))]) cx hw hA (c_Pat200 l G q26) [2] [0, 1] rfl rfl rfl rfl rfl ml_X5_37 im_X2_init in_X2 co_X2_init rfl hd_X2_init rfl ⟨Nat.le_of_ble_eq_true rfl, Nat.le_of_ble_eq_true rfl⟩ hl.1 rfl (Nat.le_of_ble_eq_true rfl) dX5_init_86 ⟨Nat.le_of_ble_eq_true rfl, Nat.le_of_ble_eq_true rfl⟩ (fun u27 H locs hr28 hw => ?_)
  have hw : Wd G A [(h0, ob 4 [.int 0, .int 0, .int 0, .int 0, .int 0, .int 0, .int 0, .ref q1, .ref q2, .ref q3, .ref q4, .ref q5, .ref q6, .ref q7]), (q7, aP G 24 (va_up (va_up (va_up (va_up (va_up (va_up (fun _ => none) 0 (some q8)) 1 (some q11)) 2 (some q14)) 3 (some q17)) 4 (some q20)) 5 (some q23))), (q26, ob 1 [.ref (u27 0), .ref (u27 1), .int 0, .int 0])] s.heap _ _ := hw
  refine r_aast cx hw 1 2 rfl rfl (inL (by decide +kernel)) (ws' := [(h0, ob 4 [.int 0, .int 0, .int 0, .int 0, .int 0, .int 0, .int 0, .ref q1, .ref q2, .ref q3, .ref q4, .ref q5, .ref q6, .ref q7]), (q7, aP G 24 (va_up (va_up (va_up (va_up (va_up (va_up (va_up (fun _ => none) 0 (some q8)) 1 (some q11)) 2 (some q14)) 3 (some q17)) 4 (some q20)) 5 (some q23)) 6 (some q26))), (q26, ob 1 [.ref (u27 0), .ref (u27 1), .int 0, .int 0])]) rfl dX5_init_89 (fun H locs hw => ?_)
  refine lv_iinc (v := 7) (lv' := [(1, .int 7), (0, .ref h0)]) hx hb dX5_init_90 hl (k := 0) rfl (by decide +kernel) (by decide) rfl (fun ls hl => ?_)
  refine lv_goto (tgt := 68) hx hb dX5_init_93 (by decide) ?_
  have hw : Wd G A [(h0, ob 4 [.int 0, .int 0, .int 0, .int 0, .int 0, .int 0, .int 0, .ref q1, .ref q2, .ref q3, .ref q4, .ref q5, .ref q6, .ref q7]), (q7, aP G 24 (va_up (va_up (va_up (va_up (va_up (va_up (va_up (fun _ => none) 0 (some q8)) 1 (some q11)) 2 (some q14)) 3 (some q17)) 4 (some q20)) 5 (some q23)) 6 (some q26)))] s.heap _ _ := hw.sub [0, 1] rfl rfl
  refine lv_iload_n hx hb dX5_init_68 rfl (lv_at hl 0 rfl) ?_
  refine lv_bipush (v := 24) hx hb dX5_init_69 (by decide) ?_
  refine lv_icmp_ge (tgt := 96) hx hb dX5_init_71 (by decide) (fun c9 => absurd c9 (by decide)) (fun _ => ?_)
  refine lv_aload_n hx hb dX5_init_74 rfl (lv_at hl 1 rfl) ?_
  refine r_get cx hw inX5 (ci := 4) rfl 0 rfl 13 (by decide) fl_X5_33 rfl dX5_init_75 ?_
  refine lv_iload_n hx hb dX5_init_78 rfl (lv_at hl 0 rfl) ?_
  refine r_new cx hw hA inX2 (ci := 1) rfl tyX2_ok cl_X5_31 ia_X2 in_X2 nfX2_ok (Nat.le_of_ble_eq_true rfl) (Nat.le_of_ble_eq_true rfl) dX5_init_79 (fun q29 H hw => ?_)
  have hw : Wd G A [(h0, ob 4 [.int 0, .int 0, .int 0, .int 0, .int 0, .int 0, .int 0, .ref q1, .ref q2, .ref q3, .ref q4, .ref q5, .ref q6, .ref q7]), (q7, aP G 24 (va_up (va_up (va_up (va_up (va_up (va_up (va_up (fun _ => none) 0 (some q8)) 1 (some q11)) 2 (some q14)) 3 (some q17)) 4 (some q20)) 5 (some q23)) 6 (some q26))), (q29, ob 1 [.null, .null, .int 0, .int 0])] s.heap _ _ := hw
  refine lv_dup hx hb dX5_init_82 rfl ?_
  refine lv_sipush (v := 200) hx hb dX5_init_83 (by decide) ?_
  refine r_callIV (As := [.int 200]) (rest := [.ref q29, .int 7, .ref q7]) (wr := [(h0, ob 4 [.int 0, .int 0, .int 0, .int 0, .int 0, .int 0, .int 0, .ref q1, .ref q2, .ref q3, .ref q4, .ref q5, .ref q6, .ref q7]), (q7, aP G 24 (va_up (va_up (va_up (va_up (va_up (va_up (va_up (fun _ => none) 0 (some q8)) 1 (some q11)) 2 (some q14)) 3 (some q17)) 4 (some q20)) 5 (some q23)) 6 (some q26)))]) cx hw hA (c_Pat200 l G q29) [2] [0, 1] rfl rfl rfl rfl rfl ml_X5_37 im_X2_init in_X2 co_X2_init rfl hd_X2_init rfl ⟨Nat.le_of_ble_eq_true rfl, Nat.le_of_ble_eq_true rfl⟩ hl.1 rfl (Nat.le_of_ble_eq_true rfl) dX5_init_86 ⟨Nat.le_of_ble_eq_true rfl, Nat.le_of_ble_eq_true rfl⟩ (fun u30 H locs hr31 hw => ?_)
  have hw : Wd G A [(h0, ob 4 [.int 0, .int 0, .int 0, .int 0, .int 0, .int 0, .int 0, .ref q1, .ref q2, .ref q3, .ref q4, .ref q5, .ref q6, .ref q7]), (q7, aP G 24 (va_up (va_up (va_up (va_up (va_up (va_up (va_up (fun _ => none) 0 (some q8)) 1 (some q11)) 2 (some q14)) 3 (some q17)) 4 (some q20)) 5 (some q23)) 6 (some q26))), (q29, ob 1 [.ref (u30 0), .ref (u30 1), .int 0, .int 0])] s.heap _ _ := hw
  refine r_aast cx hw 1 2 rfl rfl (inL (by decide +kernel)) (ws' := [(h0, ob 4 [.int 0, .int 0, .int 0, .int 0, .int 0, .int 0, .int 0, .ref q1, .ref q2, .ref q3, .ref q4, .ref q5, .ref q6, .ref q7]), (q7, aP G 24 (va_up (va_up (va_up (va_up (va_up (va_up (va_up (va_up (fun _ => none) 0 (some q8)) 1 (some q11)) 2 (some q14)) 3 (some q17)) 4 (some q20)) 5 (some q23)) 6 (some q26)) 7 (some q29))), (q29, ob 1 [.ref (u30 0), .ref (u30 1), .int 0, .int 0])]) rfl dX5_init_89 (fun H locs hw => ?_)
  refine lv_iinc (v := 8) (lv' := [(1, .int 8), (0, .ref h0)]) hx hb dX5_init_90 hl (k := 0) rfl (by decide +kernel) (by decide) rfl (fun ls hl => ?_)
  refine lv_goto (tgt := 68) hx hb dX5_init_93 (by decide) ?_
  have hw : Wd G A [(h0, ob 4 [.int 0, .int 0, .int 0, .int 0, .int 0, .int 0, .int 0, .ref q1, .ref q2, .ref q3, .ref q4, .ref q5, .ref q6, .ref q7]), (q7, aP G 24 (va_up (va_up (va_up (va_up (va_up (va_up (va_up (va_up (fun _ => none) 0 (some q8)) 1 (some q11)) 2 (some q14)) 3 (some q17)) 4 (some q20)) 5 (some q23)) 6 (some q26)) 7 (some q29)))] s.heap _ _ := hw.sub [0, 1] rfl rfl
  refine lv_iload_n hx hb dX5_init_68 rfl (lv_at hl 0 rfl) ?_
  refine lv_bipush (v := 24) hx hb dX5_init_69 (by decide) ?_
  refine lv_icmp_ge (tgt := 96) hx hb dX5_init_71 (by decide) (fun c9 => absurd c9 (by decide)) (fun _ => ?_)
  refine lv_aload_n hx hb dX5_init_74 rfl (lv_at hl 1 rfl) ?_
  refine r_get cx hw inX5 (ci := 4) rfl 0 rfl 13 (by decide) fl_X5_33 rfl dX5_init_75 ?_
  refine lv_iload_n hx hb dX5_init_78 rfl (lv_at hl 0 rfl) ?_
  refine r_new cx hw hA inX2 (ci := 1) rfl tyX2_ok cl_X5_31 ia_X2 in_X2 nfX2_ok (Nat.le_of_ble_eq_true rfl) (Nat.le_of_ble_eq_true rfl) dX5_init_79 (fun q32 H hw => ?_)
  have hw : Wd G A [(h0, ob 4 [.int 0, .int 0, .int 0, .int 0, .int 0, .int 0, .int 0, .ref q1, .ref q2, .ref q3, .ref q4, .ref q5, .ref q6, .ref q7]), (q7, aP G 24 (va_up (va_up (va_up (va_up (va_up (va_up (va_up (va_up (fun _ => none) 0 (some q8)) 1 (some q11)) 2 (some q14)) 3 (some q17)) 4 (some q20)) 5 (some q23)) 6 (some q26)) 7 (some q29))), (q32, ob 1 [.null, .null, .int 0, .int 0])] s.heap _ _ := hw
  refine lv_dup hx hb dX5_init_82 rfl ?_
  refine lv_sipush (v := 200) hx hb dX5_init_83 (by decide) ?_
  refine r_callIV (As := [.int 200]) (rest := [.ref q32, .int 8, .ref q7]) (wr := [(h0, ob 4 [.int 0, .int 0, .int 0, .int 0, .int 0, .int 0, .int 0, .ref q1, .ref q2, .ref q3, .ref q4, .ref q5, .ref q6, .ref q7]), (q7, aP G 24 (va_up (va_up (va_up (va_up (va_up (va_up (va_up (va_up (fun _ => none) 0 (some q8)) 1 (some q11)) 2 (some q14)) 3 (some q17)) 4 (some q20)) 5 (some q23)) 6 (some q26)) 7 (some q29)))]) cx hw hA (c_Pat200 l G q32) [2] [0, 1] rfl rfl rfl rfl rfl ml_X5_37 im_X2_init in_X2 co_X2_init rfl hd_X2_init rfl ⟨Nat.le_of_ble_eq_true rfl, Nat.le_of_ble_eq_true rfl⟩ hl.1 rfl (Nat.le_of_ble_eq_true rfl) dX5_init_86 ⟨Nat.le_of_ble_eq_true rfl, Nat.le_of_ble_eq_true rfl⟩ (fun u33 H locs hr34 hw => ?_)
  have hw : Wd G A [(h0, ob 4 [.int 0, .int 0, .int 0, .int 0, .int 0, .int 0, .int 0, .ref q1, .ref q2, .ref q3, .ref q4, .ref q5, .ref q6, .ref q7]), (q7, aP G 24 (va_up (va_up (va_up (va_up (va_up (va_up (va_up (va_up (fun _ => none) 0 (some q8)) 1 (some q11)) 2 (some q14)) 3 (some q17)) 4 (some q20)) 5 (some q23)) 6 (some q26)) 7 (some q29))), (q32, ob 1 [.ref (u33 0), .ref (u33 1), .int 0, .int 0])] s.heap _ _ := hw
  refine r_aast cx hw 1 2 rfl rfl (inL (by decide +kernel)) (ws' := [(h0, ob 4 [.int 0, .int 0, .int 0, .int 0, .int 0, .int 0, .int 0, .ref q1, .ref q2, .ref q3, .ref q4, .ref q5, .ref q6, .ref q7]), (q7, aP G 24 (va_up (va_up (va_up (va_up (va_up (va_up (va_up (va_up (va_up (fun _ => none) 0 (some q8)) 1 (some q11)) 2 (some q14)) 3 (some q17)) 4 (some q20)) 5 (some q23)) 6 (some q26)) 7 (some q29)) 8 (some q32))), (q32, ob 1 [.ref (u33 0), .ref (u33 1), .int 0, .int 0])]) rfl dX5_init_89 (fun H locs hw => ?_)
  refine lv_iinc (v := 9) (lv' := [(1, .int 9), (0, .ref h0)]) hx hb dX5_init_90 hl (k := 0) rfl (by decide +kernel) (by decide) rfl (fun ls hl => ?_)
  refine lv_goto (tgt := 68) hx hb dX5_init_93 (by decide) ?_
  have hw : Wd G A [(h0, ob 4 [.int 0, .int 0, .int 0, .int 0, .int 0, .int 0, .int 0, .ref q1, .ref q2, .ref q3, .ref q4, .ref q5, .ref q6, .ref q7]), (q7, aP G 24 (va_up (va_up (va_up (va_up (va_up (va_up (va_up (va_up (va_up (fun _ => none) 0 (some q8)) 1 (some q11)) 2 (some q14)) 3 (some q17)) 4 (some q20)) 5 (some q23)) 6 (some q26)) 7 (some q29)) 8 (some q32)))] s.heap _ _ := hw.sub [0, 1] rfl rfl
  refine lv_iload_n hx hb dX5_init_68 rfl (lv_at hl 0 rfl) ?_
  refine lv_bipush (v := 24) hx hb dX5_init_69 (by decide) ?_
  refine lv_icmp_ge (tgt := 96) hx hb dX5_init_71 (by decide) (fun c9 => absurd c9 (by decide)) (fun _ => ?_)
  refine lv_aload_n hx hb dX5_init_74 rfl (lv_at hl 1 rfl) ?_
  refine r_get cx hw inX5 (ci := 4) rfl 0 rfl 13 (by decide) fl_X5_33 rfl dX5_init_75 ?_
  refine lv_iload_n hx hb dX5_init_78 rfl (lv_at hl 0 rfl) ?_
  refine r_new cx hw hA inX2 (ci := 1) rfl tyX2_ok cl_X5_31 ia_X2 in_X2 nfX2_ok (Nat.le_of_ble_eq_true rfl) (Nat.le_of_ble_eq_true rfl) dX5_init_79 (fun q35 H hw => ?_)
  have hw : Wd G A [(h0, ob 4 [.int 0, .int 0, .int 0, .int 0, .int 0, .int 0, .int 0, .ref q1, .ref q2, .ref q3, .ref q4, .ref q5, .ref q6, .ref q7]), (q7, aP G 24 (va_up (va_up (va_up (va_up (va_up (va_up (va_up (va_up (va_up (fun _ => none) 0 (some q8)) 1 (some q11)) 2 (some q14)) 3 (some q17)) 4 (some q20)) 5 (some q23)) 6 (some q26)) 7 (some q29)) 8 (some q32))), (q35, ob 1 [.null, .null, .int 0, .int 0])] s.heap _ _ := hw
  refine lv_dup hx hb dX5_init_82 rfl ?_
  refine lv_sipush (v := 200) hx hb dX5_init_83 (by decide) ?_
  refine r_callIV (As := [.int 200]) (rest := [.ref q35, .int 9, .ref q7]) (wr := [(h0, ob 4 [.int 0, .int 0, .int 0, .int 0, .int 0, .int 0, .int 0, .ref q1, .ref q2, .ref q3, .ref q4, .ref q5, .ref q6, .ref q7]), (q7, aP G 24 (va_up (va_up (va_up (va_up (va_up (va_up (va_up (va_up (va_up (fun _ => none) 0 (some q8)) 1 (some q11)) 2 (some q14)) 3 (some q17)) 4 (some q20)) 5 (some q23)) 6 (some q26)) 7 (some q29)) 8 (some q32)))]) cx hw hA (c_Pat200 l G q35) [2] [0, 1] rfl rfl rfl rfl rfl ml_X5_37 im_X2_init in_X2 co_X2_init rfl hd_X2_init rfl ⟨Nat.le_of_ble_eq_true rfl, Nat.le_of_ble_eq_true rfl⟩ hl.1 rfl (Nat.le_of_ble_eq_true rfl) dX5_init_86 ⟨Nat.le_of_ble_eq_true rfl, Nat.le_of_ble_eq_true rfl⟩ (fun u36 H locs hr37 hw => ?_)
  have hw : Wd G A [(h0, ob 4 [.int 0, .int 0, .int 0, .int 0, .int 0, .int 0, .int 0, .ref q1, .ref q2, .ref q3, .ref q4, .ref q5, .ref q6, .ref q7]), (q7, aP G 24 (va_up (va_up (va_up (va_up (va_up (va_up (va_up (va_up (va_up (fun _ => none) 0 (some q8)) 1 (some q11)) 2 (some q14)) 3 (some q17)) 4 (some q20)) 5 (some q23)) 6 (some q26)) 7 (some q29)) 8 (some q32))), (q35, ob 1 [.ref (u36 0), .ref (u36 1), .int 0, .int 0])] s.heap _ _ := hw
  refine r_aast cx hw 1 2 rfl rfl (inL (by decide +kernel)) (ws' := [(h0, ob 4 [.int 0, .int 0, .int 0, .int 0, .int 0, .int 0, .int 0, .ref q1, .ref q2, .ref q3, .ref q4, .ref q5, .ref q6, .ref q7]), (q7, aP G 24 (va_up (va_up (va_up (va_up (va_up (va_up (va_up (va_up (va_up (va_up (fun _ => none) 0 (some q8)) 1 (some q11)) 2 (some q14)) 3 (some q17)) 4 (some q20)) 5 (some q23)) 6 (some q26)) 7 (some q29)) 8 (some q32)) 9 (some q35))), (q35, ob 1 [.ref (u36 0), .ref (u36 1), .int 0, .int 0])]) rfl dX5_init_89 (fun H locs hw => ?_)
  refine lv_iinc (v := 10) (lv' := [(1, .int 10), (0, .ref h0)]) hx hb dX5_init_90 hl (k := 0) rfl (by decide +kernel) (by decide) rfl (fun ls hl => ?_)
  refine lv_goto (tgt := 68) hx hb dX5_init_93 (by decide) ?_
  have hw : Wd G A [(h0, ob 4 [.int 0, .int 0, .int 0, .int 0, .int 0, .int 0, .int 0, .ref q1, .ref q2, .ref q3, .ref q4, .ref q5, .ref q6, .ref q7]), (q7, aP G 24 (va_up (va_up (va_up (va_up (va_up (va_up (va_up (va_up (va_up (va_up (fun _ => none) 0 (some q8)) 1 (some q11)) 2 (some q14)) 3 (some q17)) 4 (some q20)) 5 (some q23)) 6 (some q26)) 7 (some q29)) 8 (some q32)) 9 (some q35)))] s.heap _ _ := hw.sub [0, 1] rfl rfl
  refine lv_iload_n hx hb dX5_init_68 rfl (lv_at hl 0 rfl) ?_
  refine lv_bipush (v := 24) hx hb dX5_init_69 (by decide) ?_
  refine lv_icmp_ge (tgt := 96) hx hb dX5_init_71 (by decide) (fun c9 => absurd c9 (by decide)) (fun _ => ?_)
  refine lv_aload_n hx hb dX5_init_74 rfl (lv_at hl 1 rfl) ?_
  refine r_get cx hw inX5 (ci := 4) rfl 0 rfl 13 (by decide) fl_X5_33 rfl dX5_init_75 ?_
  refine lv_iload_n hx hb dX5_init_78 rfl (lv_at hl 0 rfl) ?_
  refine r_new cx hw hA inX2 (ci := 1) rfl tyX2_ok cl_X5_31 ia_X2 in_X2 nfX2_ok (Nat.le_of_ble_eq_true rfl) (Nat.le_of_ble_eq_true rfl) dX5_init_79 (fun q38 H hw => ?_)
  have hw : Wd G A [(h0, ob 4 [.int 0, .int 0, .int 0, .int 0, .int 0, .int 0, .int 0, .ref q1, .ref q2, .ref q3, .ref q4, .ref q5, .ref q6, .ref q7]), (q7, aP G 24 (va_up (va_up (va_up (va_up (va_up (va_up (va_up (va_up (va_up (va_up (fun _ => none) 0 (some q8)) 1 (some q11)) 2 (some q14)) 3 (some q17)) 4 (some q20)) 5 (some q23)) 6 (some q26)) 7 (some q29)) 8 (some q32)) 9 (some q35))), (q38, ob 1 [.null, .null, .int 0, .int 0])] s.heap _ _ := hw
  refine lv_dup hx hb dX5_init_82 rfl ?_
  refine lv_sipush (v := 200) hx hb dX5_init_83 (by decide) ?_
  refine r_callIV (As := [.int 200]) (rest := [.ref q38, .int 10, .ref q7]) (wr := [(h0, ob 4 [.int 0, .int 0, .int 0, .int 0, .int 0, .int 0, .int 0, .ref q1, .ref q2, .ref q3, .ref q4, .ref q5, .ref q6, .ref q7]), (q7, aP G 24 (va_up (va_up (va_up (va_up (va_up (va_up (va_up (va_up (va_up (va_up (fun _ => none) 0 (some q8)) 1 (some q11)) 2 (some q14)) 3 (some q17)) 4 (some q20)) 5 (some q23)) 6 (some q26)) 7 (some q29)) 8 (some q32)) 9 (some q35)))]) cx hw hA (c_Pat200 l G q38) [2] [0, 1] rfl rfl rfl rfl rfl ml_X5_37 im_X2_init in_X2 co_X2_init rfl hd_X2_init rfl ⟨Nat.le_of_ble_eq_true rfl, Nat.le_of_ble_eq_true rfl⟩ hl.1 rfl (Nat.le_of_ble_eq_true rfl) dX5_init_86 ⟨Nat.le_of_ble_eq_true rfl, Nat.le_of_ble_eq_true rfl⟩ (fun u39 H locs hr40 hw => ?_)
  have hw : Wd G A [(h0, ob 4 [.int 0, .int 0, .int 0, .int 0, .int 0, .int 0, .int 0, .ref q1, .ref q2, .ref q3, .ref q4, .ref q5, .ref q6, .ref q7]), (q7, aP G 24 (va_up (va_up (va_up (va_up (va_up (va_up (va_up (va_up (va_up (va_up (fun _ => none) 0 (some q8)) 1 (some q11)) 2 (some q14)) 3 (some q17)) 4 (some q20)) 5 (some q23)) 6 (some q26)) 7 (some q29)) 8 (some q32)) 9 (some q35))), (q38, ob 1 [.ref (u39 0), .ref (u39 1), .int 0, .int 0])] s.heap _ _ := hw
  refine r_aast cx hw 1 2 rfl rfl (inL (by decide +kernel)) (ws' := [(h0, ob 4 [.int 0, .int 0, .int 0, .int 0, .int 0, .int 0, .int 0, .ref q1, .ref q2, .ref q3, .ref q4, .ref q5, .ref q6, .ref q7]), (q7, aP G 24 (va_up (va_up (va_up (va_up (va_up (va_up (va_up (va_up (va_up (va_up (va_up (fun _ => none) 0 (some q8)) 1 (some q11)) 2 (some q14)) 3 (some q17)) 4 (some q20)) 5 (some q23)) 6 (some q26)) 7 (some q29)) 8 (some q32)) 9 (some q35)) 10 (some q38))), (q38, ob 1 [.ref (u39 0), .ref (u39 1), .int 0, .int 0])]) rfl dX5_init_89 (fun H locs hw => ?_)
  refine lv_iinc (v := 11) (lv' := [(1, .int 11), (0, .ref h0)]) hx hb dX5_init_90 hl (k := 0) rfl (by decide +kernel) (by decide) rfl (fun ls hl => ?_)
  refine lv_goto (tgt := 68) hx hb dX5_init_93 (by decide) ?_
  have hw : Wd G A [(h0, ob 4 [.int 0, .int 0, .int 0, .int 0, .int 0, .int 0, .int 0, .ref q1, .ref q2, .ref q3, .ref q4, .ref q5, .ref q6, .ref q7]), (q7, aP G 24 (va_up (va_up (va_up (va_up (va_up (va_up (va_up (va_up (va_up (va_up (va_up (fun _ => none) 0 (some q8)) 1 (some q11)) 2 (some q14)) 3 (some q17)) 4 (some q20)) 5 (some q23)) 6 (some q26)) 7 (some q29)) 8 (some q32)) 9 (some q35)) 10 (some q38)))] s.heap _ _ := hw.sub [0, 1] rfl rfl
  refine lv_iload_n hx hb dX5_init_68 rfl (lv_at hl 0 rfl) ?_
  refine lv_bipush (v := 24) hx hb dX5_init_69 (by decide) ?_
  refine lv_icmp_ge (tgt := 96) hx hb dX5_init_71 (by decide) (fun c9 => absurd c9 (by decide)) (fun _ => ?_)
  refine lv_aload_n hx hb dX5_init_74 rfl (lv_at hl 1 rfl) ?_
  refine r_get cx hw inX5 (ci := 4) rfl 0 rfl 13 (by decide) fl_X5_33 rfl dX5_init_75 ?_
  refine lv_iload_n hx hb dX5_init_78 rfl (lv_at hl 0 rfl) ?_
  refine r_new cx hw hA inX2 (ci := 1) rfl tyX2_ok cl_X5_31 ia_X2 in_X2 nfX2_ok (Nat.le_of_ble_eq_true rfl) (Nat.le_of_ble_eq_true rfl) dX5_init_79 (fun q41 H hw => ?_)
  have hw : Wd G A [(h0, ob 4 [.int 0, .int 0, .int 0, .int 0, .int 0, .int 0, .int 0, .ref q1, .ref q2, .ref q3, .ref q4, .ref q5, .ref q6, .ref q7]), (q7, aP G 24 (va_up (va_up (va_up (va_up (va_up (va_up (va_up (va_up (va_up (va_up (va_up (fun _ => none) 0 (some q8)) 1 (some q11)) 2 (some q14)) 3 (some q17)) 4 (some q20)) 5 (some q23)) 6 (some q26)) 7 (some q29)) 8 (some q32)) 9 (some q35)) 10 (some q38))), (q41, ob 1 [.null, .null, .int 0, .int 0])] s.heap _ _ := hw
  refine lv_dup hx hb dX5_init_82 rfl ?_
  refine lv_sipush (v := 200) hx hb dX5_init_83 (by decide) ?_
  refine r_callIV (As := [.int 200]) (rest := [.ref q41, .int 11, .ref q7]) (wr := [(h0, ob 4 [.int 0, .int 0, .int 0, .int 0, .int 0, .int 0, .int 0, .ref q1, .ref q2, .ref q3, .ref q4, .ref q5, .ref q6, .ref q7]), (q7, aP G 24 (va_up (va_up (va_up (va_up (va_up (va_up (va_up (va_up (va_up (va_up (va_up (fun _ => none) 0 (some q8)) 1 (some q11)) 2 (some q14)) 3 (some q17)) 4 (some q20)) 5 (some q23)) 6 (some q26)) 7 (some q29)) 8 (some q32)) 9 (some q35)) 10 (some q38)))]) cx hw hA (c_Pat200 l G q41) [2] [0, 1] rfl rfl rfl rfl rfl ml_X5_37 im_X2_init in_X2 co_X2_init rfl hd_X2_init rfl ⟨Nat.le_of_ble_eq_true rfl, Nat.le_of_ble_eq_true rfl⟩ hl.1 rfl (Nat.le_of_ble_eq_true rfl) dX5_init_86 ⟨Nat.le_of_ble_eq_true rfl, Nat.le_of_ble_eq_true rfl⟩ (fun u42 H locs hr43 hw => ?_)
  have hw : Wd G A [(h0, ob 4 [.int 0, .int 0, .int 0, .int 0, .int 0, .int 0, .int 0, .ref q1, .ref q2, .ref q3, .ref q4, .ref q5, .ref q6, .ref q7]), (q7, aP G 24 (va_up (va_up (va_up (va_up (va_up (va_up (va_up (va_up (va_up (va_up (va_up (fun _ => none) 0 (some q8)) 1 (some q11)) 2 (some q14)) 3 (some q17)) 4 (some q20)) 5 (some q23)) 6 (some q26)) 7 (some q29)) 8 (some q32)) 9 (some q35)) 10 (some q38))), (q41, ob 1 [.ref (u42 0), .ref (u42 1), .int 0, .int 0])] s.heap _ _ := hw
  refine r_aast cx hw 1 2 rfl rfl (inL (by decide +kernel)) (ws' := [(h0, ob 4 [.int 0, .int 0, .int 0, .int 0, .int 0, .int 0, .int 0, .ref q1, .ref q2, .ref q3, .ref q4, .ref q5, .ref q6, .ref q7]), (q7, aP G 24 (va_up (va_up (va_up (va_up (va_up (va_up (va_up (va_up (va_up (va_up (va_up (va_up (fun _ => none) 0 (some q8)) 1 (some q11)) 2 (some q14)) 3 (some q17)) 4 (some q20)) 5 (some q23)) 6 (some q26)) 7 (some q29)) 8 (some q32)) 9 (some q35)) 10 (some q38)) 11 (some q41))), (q41, ob 1 [.ref (u42 0), .ref (u42 1), .int 0, .int 0])]) rfl dX5_init_89 (fun H locs hw => ?_)
  refine lv_iinc (v := 12) (lv' := [(1, .int 12), (0, .ref h0)]) hx hb dX5_init_90 hl (k := 0) rfl (by decide +kernel) (by decide) rfl (fun ls hl => ?_)
  refine lv_goto (tgt := 68) hx hb dX5_init_93 (by decide) ?_
  have hw : Wd G A [(h0, ob 4 [.int 0, .int 0, .int 0, .int 0, .int 0, .int 0, .int 0, .ref q1, .ref q2, .ref q3, .ref q4, .ref q5, .ref q6, .ref q7]), (q7, aP G 24 (va_up (va_up (va_up (va_up (va_up (va_up (va_up (va_up (va_up (va_up (va_up (va_up (fun _ => none) 0 (some q8)) 1 (some q11)) 2 (some q14)) 3 (some q17)) 4 (some q20)) 5 (some q23)) 6 (some q26)) 7 (some q29)) 8 (some q32)) 9 (some q35)) 10 (some q38)) 11 (some q41)))] s.heap _ _ := hw.sub [0, 1] rfl rfl
  refine lv_iload_n hx hb dX5_init_68 rfl (lv_at hl 0 rfl) ?_
  refine lv_bipush (v := 24) hx hb dX5_init_69 (by decide) ?_
  refine lv_icmp_ge (tgt := 96) hx hb dX5_init_71 (by decide) (fun c9 => absurd c9 (by decide)) (fun _ => ?_)
  refine lv_aload_n hx hb dX5_init_74 rfl (lv_at hl 1 rfl) ?_
  refine r_get cx hw inX5 (ci := 4) rfl 0 rfl 13 (by decide) fl_X5_33 rfl dX5_init_75 ?_
  refine lv_iload_n hx hb dX5_init_78 rfl (lv_at hl 0 rfl) ?_
  refine r_new cx hw hA inX2 (ci := 1) rfl tyX2_ok cl_X5_31 ia_X2 in_X2 nfX2_ok (Nat.le_of_ble_eq_true rfl) (Nat.le_of_ble_eq_true rfl) dX5_init_79 (fun q44 H hw => ?_)
  have hw : Wd G A [(h0, ob 4 [.int 0, .int 0, .int 0, .int 0, .int 0, .int 0, .int 0, .ref q1, .ref q2, .ref q3, .ref q4, .ref q5, .ref q6, .ref q7]), (q7, aP G 24 (va_up (va_up (va_up (va_up (va_up (va_up (va_up (va_up (va_up (va_up (va_up (va_up (fun _ => none) 0 (some q8)) 1 (some q11)) 2 (some q14)) 3 (some q17)) 4 (some q20)) 5 (some q23)) 6 (some q26)) 7 (some q29)) 8 (some q32)) 9 (some q35)) 10 (some q38)) 11 (some q41))), (q44, ob 1 [.null, .null, .int 0, .int 0])] s.heap _ _ := hw
  refine lv_dup hx hb dX5_init_82 rfl ?_
  refine lv_sipush (v := 200) hx hb dX5_init_83 (by decide) ?_
  refine r_callIV (As := [.int 200]) (rest := [.ref q44, .int 12, .ref q7]) (wr := [(h0, ob 4 [.int 0, .int 0, .int 0, .int 0, .int 0, .int 0, .int 0, .ref q1, .ref q2, .ref q3, .ref q4, .ref q5, .ref q6, .ref q7]), (q7, aP G 24 (va_up (va_up (va_up (va_up (va_up (va_up (va_up (va_up (va_up (va_up (va_up (va_up (fun _ => none) 0 (some q8)) 1 (some q11)) 2 (some q14)) 3 (some q17)) 4 (some q20)) 5 (some q23)) 6 (some q26)) 7 (some q29)) 8 (some q32)) 9 (some q35)) 10 (some q38)) 11 (some q41)))]) cx hw hA (c_Pat200 l G q44) [2] [0, 1] rfl rfl rfl rfl rfl ml_X5_37 im_X2_init in_X2 co_X2_init rfl hd_X2_init rfl ⟨Nat.le_of_ble_eq_true rfl, Nat.le_of_ble_eq_true rfl⟩ hl.1 rfl (Nat.le_of_ble_eq_true rfl) dX5_init_86 ⟨Nat.le_of_ble_eq_true rfl, Nat.le_of_ble_eq_true rfl⟩ (fun u45 H locs hr46 hw => ?_)
  have hw : Wd G A [(h0, ob 4 [.int 0, .int 0, .int 0, .int 0, .int 0, .int 0, .int 0, .ref q1, .ref q2, .ref q3, .ref q4, .ref q5, .ref q6, .ref q7]), (q7, aP G 24 (va_up (va_up (va_up (va_up (va_up (va_up (va_up (va_up (va_up (va_up (va_up (va_up (fun _ => none) 0 (some q8)) 1 (some q11)) 2 (some q14)) 3 (some q17)) 4 (some q20)) 5 (some q23)) 6 (some q26)) 7 (some q29)) 8 (some q32)) 9 (some q35)) 10 (some q38)) 11 (some q41))), (q44, ob 1 [.ref (u45 0), .ref (u45 1), .int 0, .int 0])] s.heap _ _ := hw
  refine r_aast cx hw 1 2 rfl rfl (inL (by decide +kernel)) (ws' := [(h0, ob 4 [.int 0, .int 0, .int 0, .int 0, .int 0, .int 0, .int 0, .ref q1, .ref q2, .ref q3, .ref q4, .ref q5, .ref q6, .ref q7]), (q7, aP G 24 (va_up (va_up (va_up (va_up (va_up (va_up (va_up (va_up (va_up (va_up (va_up (va_up (va_up (fun _ => none) 0 (some q8)) 1 (some q11)) 2 (some q14)) 3 (some q17)) 4 (some q20)) 5 (some q23)) 6 (some q26)) 7 (some q29)) 8 (some q32)) 9 (some q35)) 10 (some q38)) 11 (some q41)) 12 (some q44))), (q44, ob 1 [.ref (u45 0), .ref (u45 1), .int 0, .int 0])]) rfl dX5_init_89 (fun H locs hw => ?_)
  refine lv_iinc (v := 13) (lv' := [(1, .int 13), (0, .ref h0)]) hx hb dX5_init_90 hl (k := 0) rfl (by decide +kernel) (by decide) rfl (fun ls hl => ?_)
  refine lv_goto (tgt := 68) hx hb dX5_init_93 (by decide) ?_
  have hw : Wd G A [(h0, ob 4 [.int 0, .int 0, .int 0, .int 0, .int 0, .int 0, .int 0, .ref q1, .ref q2, .ref q3, .ref q4, .ref q5, .ref q6, .ref q7]), (q7, aP G 24 (va_up (va_up (va_up (va_up (va_up (va_up (va_up (va_up (va_up (va_up (va_up (va_up (va_up (fun _ => none) 0 (some q8)) 1 (some q11)) 2 (some q14)) 3 (some q17)) 4 (some q20)) 5 (some q23)) 6 (some q26)) 7 (some q29)) 8 (some q32)) 9 (some q35)) 10 (some q38)) 11 (some q41)) 12 (some q44)))] s.heap _ _ := hw.sub [0, 1] rfl rfl
  refine lv_iload_n hx hb dX5_init_68 rfl (lv_at hl 0 rfl) ?_
  refine lv_bipush (v := 24) hx hb dX5_init_69 (by decide) ?_
  refine lv_icmp_ge (tgt := 96) hx hb dX5_init_71 (by decide) (fun c9 => absurd c9 (by decide)) (fun _ => ?_)
  refine lv_aload_n hx hb dX5_init_74 rfl (lv_at hl 1 rfl) ?_
  refine r_get cx hw inX5 (ci := 4) rfl 0 rfl 13 (by decide) fl_X5_33 rfl dX5_init_75 ?_
  refine lv_iload_n hx hb dX5_init_78 rfl (lv_at hl 0 rfl) ?_
  refine r_new cx hw hA inX2 (ci := 1) rfl tyX2_ok cl_X5_31 ia_X2 in_X2 nfX2_ok (Nat.le_of_ble_eq_true rfl) (Nat.le_of_ble_eq_true rfl) dX5_init_79 (fun q47 H hw => ?_)
  have hw : Wd G A [(h0, ob 4 [.int 0, .int 0, .int 0, .int 0, .int 0, .int 0, .int 0, .ref q1, .ref q2, .ref q3, .ref q4, .ref q5, .ref q6, .ref q7]), (q7, aP G 24 (va_up (va_up (va_up (va_up (va_up (va_up (va_up (va_up (va_up (va_up (va_up (va_up (va_up (fun _ => none) 0 (some q8)) 1 (some q11)) 2 (some q14)) 3 (some q17)) 4 (some q20)) 5 (some q23)) 6 (some q26)) 7 (some q29)) 8 (some q32)) 9 (some q35)) 10 (some q38)) 11 (some q41)) 12 (some q44))), (q47, ob 1 [.null, .null, .int 0, .int 0])] s.heap _ _ := hw
  refine lv_dup hx hb dX5_init_82 rfl ?_
  refine lv_sipush (v := 200) hx hb dX5_init_83 (by decide) ?_
  refine r_callIV (As := [.int 200]) (rest := [.ref q47, .int 13, .ref q7]) (wr := [(h0, ob 4 [.int 0, .int 0, .int 0, .int 0, .int 0, .int 0, .int 0, .ref q1, .ref q2, .ref q3, .ref q4, .ref q5, .ref q6, .ref q7]), (q7, aP G 24 (va_up (va_up (va_up (va_up (va_up (va_up (va_up (va_up (va_up (va_up (va_up (va_up (va_up (fun _ => none) 0 (some q8)) 1 (some q11)) 2 (some q14)) 3 (some q17)) 4 (some q20)) 5 (some q23)) 6 (some q26)) 7 (some q29)) 8 (some q32)) 9 (some q35)) 10 (some q38)) 11 (some q41)) 12 (some q44)))]) cx hw hA (c_Pat200 l G q47) [2] [0, 1] rfl rfl rfl rfl rfl ml_X5_37 im_X2_init in_X2 co_X2_init rfl hd_X2_init rfl ⟨Nat.le_of_ble_eq_true rfl, Nat.le_of_ble_eq_true rfl⟩ hl.1 rfl (Nat.le_of_ble_eq_true rfl) dX5_init_86 ⟨Nat.le_of_ble_eq_true rfl, Nat.le_of_ble_eq_true rfl⟩ (fun u48 H locs hr49 hw => ?_)
  have hw : Wd G A [(h0, ob 4 [.int 0, .int 0, .int 0, .int 0, .int 0, .int 0, .int 0, .ref q1, .ref q2, .ref q3, .ref q4, .ref q5, .ref q6, .ref q7]), (q7, aP G 24 (va_up (va_up (va_up (va_up (va_up (va_up (va_up (va_up (va_up (va_up (va_up (va_up (va_up (fun _ => none) 0 (some q8)) 1 (some q11)) 2 (some q14)) 3 (some q17)) 4 (some q20)) 5 (some q23)) 6 (some q26)) 7 (some q29)) 8 (some q32)) 9 (some q35)) 10 (some q38)) 11 (some q41)) 12 (some q44))), (q47, ob 1 [.ref (u48 0), .ref (u48 1), .int 0, .int 0])] s.heap _ _ := hw
  refine r_aast cx hw 1 2 rfl rfl (inL (by decide +kernel)) (ws' := [(h0, ob 4 [.int 0, .int 0, .int 0, .int 0, .int 0, .int 0, .int 0, .ref q1, .ref q2, .ref q3, .ref q4, .ref q5, .ref q6, .ref q7]), (q7, aP G 24 (va_up (va_up (va_up (va_up (va_up (va_up (va_up (va_up (va_up (va_up (va_up (va_up (va_up (va_up (fun _ => none) 0 (some q8)) 1 (some q11)) 2 (some q14)) 3 (some q17)) 4 (some q20)) 5 (some q23)) 6 (some q26)) 7 (some q29)) 8 (some q32)) 9 (some q35)) 10 (some q38)) 11 (some q41)) 12 (some q44)) 13 (some q47))), (q47, ob 1 [.ref (u48 0), .ref (u48 1), .int 0, .int 0])]) rfl dX5_init_89 (fun H locs hw => ?_)
  refine lv_iinc (v := 14) (lv' := [(1, .int 14), (0, .ref h0)]) hx hb dX5_init_90 hl (k := 0) rfl (by decide +kernel) (by decide) rfl (fun ls hl => ?_)
  refine lv_goto (tgt := 68) hx hb dX5_init_93 (by decide) ?_
  have hw : Wd G A [(h0, ob 4 [.int 0, .int 0, .int 0, .int 0, .int 0, .int 0, .int 0, .ref q1, .ref q2, .ref q3, .ref q4, .ref q5, .ref q6, .ref q7]), (q7, aP G 24 (va_up (va_up (va_up (va_up (va_up (va_up (va_up (va_up (va_up (va_up (va_up (va_up (va_up (va_up (fun _ => none) 0 (some q8)) 1 (some q11)) 2 (some q14)) 3 (some q17)) 4 (some q20)) 5 (some q23)) 6 (some q26)) 7 (some q29)) 8 (some q32)) 9 (some q35)) 10 (some q38)) 11 (some q41)) 12 (some q44)) 13 (some q47)))] s.heap _ _ := hw.sub [0, 1] rfl rfl
  refine lv_iload_n hx hb dX5_init_68 rfl (lv_at hl 0 rfl) ?_
  refine lv_bipush (v := 24) hx hb dX5_init_69 (by decide) ?_
  refine lv_icmp_ge (tgt := 96) hx hb dX5_init_71 (by decide) (fun c9 => absurd c9 (by decide)) (fun _ => ?_)
  refine lv_aload_n hx hb dX5_init_74 rfl (lv_at hl 1 rfl) ?_
  refine r_get cx hw inX5 (ci := 4) rfl 0 rfl 13 (by decide) fl_X5_33 rfl dX5_init_75 ?_
  refine lv_iload_n hx hb dX5_init_78 rfl (lv_at hl 0 rfl) ?_
  refine r_new cx hw hA inX2 (ci := 1) rfl tyX2_ok cl_X5_31 ia_X2 in_X2 nfX2_ok (Nat.le_of_ble_eq_true rfl) (Nat.le_of_ble_eq_true rfl) dX5_init_79 (fun q50 H hw => ?_)
  have hw : Wd G A [(h0, ob 4 [.int 0, .int 0, .int 0, .int 0, .int 0, .int 0, .int 0, .ref q1, .ref q2, .ref q3, .ref q4, .ref q5, .ref q6, .ref q7]), (q7, aP G 24 (va_up (va_up (va_up (va_up (va_up (va_up (va_up (va_up (va_up (va_up (va_up (va_up (va_up (va_up (fun _ => none) 0 (some q8)) 1 (some q11)) 2 (some q14)) 3 (some q17)) 4 (some q20)) 5 (some q23)) 6 (some q26)) 7 (some q29)) 8 (some q32)) 9 (some q35)) 10 (some q38)) 11 (some q41)) 12 (some q44)) 13 (some q47))), (q50, ob 1 [.null, .null, .int 0, .int 0])] s.heap _ _ := hw
  refine lv_dup hx hb dX5_init_82 rfl ?_
  refine lv_sipush (v := 200) hx hb dX5_init_83 (by decide) ?_
  refine r_callIV (As := [.int 200]) (rest := [.ref q50, .int 14, .ref q7]) (wr := [(h0, ob 4 [.int 0, .int 0, .int 0, .int 0, .int 0, .int 0, .int 0, .ref q1, .ref q2, .ref q3, .ref q4, .ref q5, .ref q6, .ref q7]), (q7, aP G 24 (va_up (va_up (va_up (va_up (va_up (va_up (va_up (va_up (va_up (va_up (va_up (va_up (va_up (va_up (fun _ => none) 0 (some q8)) 1 (some q11)) 2 (some q14)) 3 (some q17)) 4 (some q20)) 5 (some q23)) 6 (some q26)) 7 (some q29)) 8 (some q32)) 9 (some q35)) 10 (some q38)) 11 (some q41)) 12 (some q44)) 13 (some q47)))]) cx hw hA (c_Pat200 l G q50) [2] [0, 1] rfl rfl rfl rfl rfl ml_X5_37 im_X2_init in_X2 co_X2_init rfl hd_X2_init rfl ⟨Nat.le_of_ble_eq_true rfl, Nat.le_of_ble_eq_true rfl⟩ hl.1 rfl (Nat.le_of_ble_eq_true rfl) dX5_init_86 ⟨Nat.le_of_ble_eq_true rfl, Nat.le_of_ble_eq_true rfl⟩ (fun u51 H locs hr52 hw => ?_)
  have hw : Wd G A [(h0, ob 4 [.int 0, .int 0, .int 0, .int 0, .int 0, .int 0, .int 0, .ref q1, .ref q2, .ref q3, .ref q4, .ref q5, .ref q6, .ref q7]), (q7, aP G 24 (va_up (va_up (va_up (va_up (va_up (va_up (va_up (va_up (va_up (va_up (va_up (va_up (va_up (va_up (fun _ => none) 0 (some q8)) 1 (some q11)) 2 (some q14)) 3 (some q17)) 4 (some q20)) 5 (some q23)) 6 (some q26)) 7 (some q29)) 8 (some q32)) 9 (some q35)) 10 (some q38)) 11 (some q41)) 12 (some q44)) 13 (some q47))), (q50, ob 1 [.ref (u51 0), .ref (u51 1), .int 0, .int 0])] s.heap _ _ := hw
  refine r_aast cx hw 1 2 rfl rfl (inL (by decide +kernel)) (ws' := [(h0, ob 4 [.int 0, .int 0, .int 0, .int 0, .int 0, .int 0, .int 0, .ref q1, .ref q2, .ref q3, .ref q4, .ref q5, .ref q6, .ref q7]), (q7, aP G 24 (va_up (va_up (va_up (va_up (va_up (va_up (va_up (va_up (va_up (va_up (va_up (va_up (va_up (va_up (va_up (fun _ => none) 0 (some q8)) 1 (some q11)) 2 (some q14)) 3 (some q17)) 4 (some q20)) 5 (some q23)) 6 (some q26)) 7 (some q29)) 8 (some q32)) 9 (some q35)) 10 (some q38)) 11 (some q41)) 12 (some q44)) 13 (some q47)) 14 (some q50))), (q50, ob 1 [.ref (u51 0), .ref (u51 1), .int 0, .int 0])]) rfl dX5_init_89 (fun H locs hw => ?_)
  refine lv_iinc (v := 15) (lv' := [(1, .int 15), (0, .ref h0)]) hx hb dX5_init_90 hl (k := 0) rfl (by decide +kernel) (by decide) rfl (fun ls hl => ?_)
  refine lv_goto (tgt := 68) hx hb dX5_init_93 (by decide) ?_
  have hw : Wd G A [(h0, ob 4 [.int 0, .int 0, .int 0, .int 0, .int 0, .int 0, .int 0, .ref q1, .ref q2, .ref q3, .ref q4, .ref q5, .ref q6, .ref q7]), (q7, aP G 24 (va_up (va_up (va_up (va_up (va_up (va_up (va_up (va_up (va_up (va_up (va_up (va_up (va_up (va_up (va_up (fun _ => none) 0 (some q8)) 1 (some q11)) 2 (some q14)) 3 (some q17)) 4 (some q20)) 5 (some q23)) 6 (some q26)) 7 (some q29)) 8 (some q32)) 9 (some q35)) 10 (some q38)) 11 (some q41)) 12 (some q44)) 13 (some q47)) 14 (some q50)))] s.heap _ _ := hw.sub [0, 1] rfl rfl
  refine lv_iload_n hx hb dX5_init_68 rfl (lv_at hl 0 rfl) ?_
  refine lv_bipush (v := 24) hx hb dX5_init_69 (by decide) ?_
  refine lv_icmp_ge (tgt := 96) hx hb dX5_init_71 (by decide) (fun c9 => absurd c9 (by decide)) (fun _ => ?_)
  refine lv_aload_n hx hb dX5_init_74 rfl (lv_at hl 1 rfl) ?_
  refine r_get cx hw inX5 (ci := 4) rfl 0 rfl 13 (by decide) fl_X5_33 rfl dX5_init_75 ?_
  refine lv_iload_n hx hb dX5_init_78 rfl (lv_at hl 0 rfl) ?_
  refine r_new cx hw hA inX2 (ci := 1) rfl tyX2_ok cl_X5_31 ia_X2 in_X2 nfX2_ok (Nat.le_of_ble_eq_true rfl) (Nat.le_of_ble_eq_true rfl) dX5_init_79 (fun q53 H hw => ?_)
  have hw : Wd G A [(h0, ob 4 [.int 0, .int 0, .int 0, .int 0, .int 0, .int 0, .int 0, .ref q1, .ref q2, .ref q3, .ref q4, .ref q5, .ref q6, .ref q7]), (q7, aP G 24 (va_up (va_up (va_up (va_up (va_up (va_up (va_up (va_up (va_up (va_up (va_up (va_up (va_up (va_up (va_up (fun _ => none) 0 (some q8)) 1 (some q11)) 2 (some q14)) 3 (some q17)) 4 (some q20)) 5 (some q23)) 6 (some q26)) 7 (some q29)) 8 (some q32)) 9 (some q35)) 10 (some q38)) 11 (some q41)) 12 (some q44)) 13 (some q47)) 14 (some q50))), (q53, ob 1 [.null, .null, .int 0, .int 0])] s.heap _ _ := hw
  refine lv_dup hx hb dX5_init_82 rfl ?_
  refine lv_sipush (v := 200) hx hb dX5_init_83 (by decide) ?_
  refine r_callIV (As := [.int 200]) (rest := [.ref q53, .int 15, .ref q7]) (wr := [(h0, ob 4 [.int 0, .int 0, .int 0, .int 0, .int 0, .int 0, .int 0, .ref q1, .ref q2, .ref q3, .ref q4, .ref q5, .ref q6, .ref q7]), (q7, aP G 24 (va_up (va_up (va_up (va_up (va_up (va_up (va_up (va_up (va_up (va_up (va_up (va_up (va_up (va_up (va_up (fun _ => none) 0 (some q8)) 1 (some q11)) 2 (some q14)) 3 (some q17)) 4 (some q20)) 5 (some q23)) 6 (some q26)) 7 (some q29)) 8 (some q32)) 9 (some q35)) 10 (some q38)) 11 (some q41)) 12 (some q44)) 13 (some q47)) 14 (some q50)))]) cx hw hA (c_Pat200 l G q53) [2] [0, 1] rfl rfl rfl rfl rfl ml_X5_37 im_X2_init in_X2 co_X2_init rfl hd_X2_init rfl ⟨Nat.le_of_ble_eq_true rfl, Nat.le_of_ble_eq_true rfl⟩ hl.1 rfl (Nat.le_of_ble_eq_true rfl) dX5_init_86 ⟨Nat.le_of_ble_eq_true rfl, Nat.le_of_ble_eq_true rfl⟩ (fun u54 H locs hr55 hw => ?_)
  have hw : Wd G A [(h0, ob 4 [.int 0, .int 0, .int 0, .int 0, .int 0, .int 0, .int 0, .ref q1, .ref q2, .ref q3, .ref q4, .ref q5, .ref q6, .ref q7]), (q7, aP G 24 (va_up (va_up (va_up (va_up (va_up (va_up (va_up (va_up (va_up (va_up (va_up (va_up (va_up (va_up (va_up (fun _ => none) 0 (some q8)) 1 (some q11)) 2 (some q14)) 3 (some q17)) 4 (some q20)) 5 (some q23)) 6 (some q26)) 7 (some q29)) 8 (some q32)) 9 (some q35)) 10 (some q38)) 11 (some q41)) 12 (some q44)) 13 (some q47)) 14 (some q50))), (q53, ob 1 [.ref (u54 0), .ref (u54 1), .int 0, .int 0])] s.heap _ _ := hw
  refine r_aast cx hw 1 2 rfl rfl (inL (by decide +kernel)) (ws' := [(h0, ob 4 [.int 0, .int 0, .int 0, .int 0, .int 0, .int 0, .int 0, .ref q1, .ref q2, .ref q3, .ref q4, .ref q5, .ref q6, .ref q7]), (q7, aP G 24 (va_up (va_up (va_up (va_up (va_up (va_up (va_up (va_up (va_up (va_up (va_up (va_up (va_up (va_up (va_up (va_up (fun _ => none) 0 (some q8)) 1 (some q11)) 2 (some q14)) 3 (some q17)) 4 (some q20)) 5 (some q23)) 6 (some q26)) 7 (some q29)) 8 (some q32)) 9 (some q35)) 10 (some q38)) 11 (some q41)) 12 (some q44)) 13 (some q47)) 14 (some q50)) 15 (some q53))), (q53, ob 1 [.ref (u54 0), .ref (u54 1), .int 0, .int 0])]) rfl dX5_init_89 (fun H locs hw => ?_)
  refine lv_iinc (v := 16) (lv' := [(1, .int 16), (0, .ref h0)]) hx hb dX5_init_90 hl (k := 0) rfl (by decide +kernel) (by decide) rfl (fun ls hl => ?_)
  refine lv_goto (tgt := 68) hx hb dX5_init_93 (by decide) ?_
  have hw : Wd G A [(h0, ob 4 [.int 0, .int 0, .int 0, .int 0, .int 0, .int 0, .int 0, .ref q1, .ref q2, .ref q3, .ref q4, .ref q5, .ref q6, .ref q7]), (q7, aP G 24 (va_up (va_up (va_up (va_up (va_up (va_up (va_up (va_up (va_up (va_up (va_up (va_up (va_up (va_up (va_up (va_up (fun _ => none) 0 (some q8)) 1 (some q11)) 2 (some q14)) 3 (some q17)) 4 (some q20)) 5 (some q23)) 6 (some q26)) 7 (some q29)) 8 (some q32)) 9 (some q35)) 10 (some q38)) 11 (some q41)) 12 (some q44)) 13 (some q47)) 14 (some q50)) 15 (some q53)))] s.heap _ _ := hw.sub [0, 1] rfl rfl
  refine lv_iload_n hx hb dX5_init_68 rfl (lv_at hl 0 rfl) ?_
  refine lv_bipush (v := 24) hx hb dX5_init_69 (by decide) ?_
  refine lv_icmp_ge (tgt := 96) hx hb dX5_init_71 (by decide) (fun c9 => absurd c9 (by decide)) (fun _ => ?_)
  refine lv_aload_n hx hb dX5_init_74 rfl (lv_at hl 1 rfl) ?_
  refine r_get cx hw inX5 (ci := 4) rfl 0 rfl 13 (by decide) fl_X5_33 rfl dX5_init_75 ?_
  refine lv_iload_n hx hb dX5_init_78 rfl (lv_at hl 0 rfl) ?_
  refine r_new cx hw hA inX2 (ci := 1) rfl tyX2_ok cl_X5_31 ia_X2 in_X2 nfX2_ok (Nat.le_of_ble_eq_true rfl) (Nat.le_of_ble_eq_true rfl) dX5_init_79 (fun q56 H hw => ?_)
  have hw : Wd G A [(h0, ob 4 [.int 0, .int 0, .int 0, .int 0, .int 0, .int 0, .int 0, .ref q1, .ref q2, .ref q3, .ref q4, .ref q5, .ref q6, .ref q7]), (q7, aP G 24 (va_up (va_up (va_up (va_up (va_up (va_up (va_up (va_up (va_up (va_up (va_up (va_up (va_up (va_up (va_up (va_up (fun _ => none) 0 (some q8)) 1 (some q11)) 2 (some q14)) 3 (some q17)) 4 (some q20)) 5 (some q23)) 6 (some q26)) 7 (some q29)) 8 (some q32)) 9 (some q35)) 10 (some q38)) 11 (some q41)) 12 (some q44)) 13 (some q47)) 14 (some q50)) 15 (some q53))), (q56, ob 1 [.null, .null, .int 0, .int 0])] s.heap _ _ := hw
  refine lv_dup hx hb dX5_init_82 rfl ?_
  refine lv_sipush (v := 200) hx hb dX5_init_83 (by decide) ?_
  refine r_callIV (As := [.int 200]) (rest := [.ref q56, .int 16, .ref q7]) (wr := [(h0, ob 4 [.int 0, .int 0, .int 0, .int 0, .int 0, .int 0, .int 0, .ref q1, .ref q2, .ref q3, .ref q4, .ref q5, .ref q6, .ref q7]), (q7, aP G 24 (va_up (va_up (va_up (va_up (va_up (va_up (va_up (va_up (va_up (va_up (va_up (va_up (va_up (va_up (va_up (va_up (fun _ => none) 0 (some q8)) 1 (some q11)) 2 (some q14)) 3 (some q17)) 4 (some q20)) 5 (some q23)) 6 (some q26)) 7 (some q29)) 8 (some q32)) 9 (some q35)) 10 (some q38)) 11 (some q41)) 12 (some q44)) 13 (some q47)) 14 (some q50)) 15 (some q53)))]) cx hw hA (c_Pat200 l G q56) [2] [0, 1] rfl rfl rfl rfl rfl ml_X5_37 im_X2_init in_X2 co_X2_init rfl hd_X2_init rfl ⟨Nat.le_of_ble_eq_true rfl, Nat.le_of_ble_eq_true rfl⟩ hl.1 rfl (Nat.le_of_ble_eq_true rfl) dX5_init_86 ⟨Nat.le_of_ble_eq_true rfl, Nat.le_of_ble_eq_true rfl⟩ (fun u57 H locs hr58 hw => ?_)
  have hw : Wd G A [(h0, ob 4 [.int 0, .int 0, .int 0, .int 0, .int 0, .int 0, .int 0, .ref q1, .ref q2, .ref q3, .ref q4, .ref q5, .ref q6, .ref q7]), (q7, aP G 24 (va_up (va_up (va_up (va_up (va_up (va_up (va_up (va_up (va_up (va_up (va_up (va_up (va_up (va_up (va_up (va_up (fun _ => none) 0 (some q8)) 1 (some q11)) 2 (some q14)) 3 (some q17)) 4 (some q20)) 5 (some q23)) 6 (some q26)) 7 (some q29)) 8 (some q32)) 9 (some q35)) 10 (some q38)) 11 (some q41)) 12 (some q44)) 13 (some q47)) 14 (some q50)) 15 (some q53))), (q56, ob 1 [.ref (u57 0), .ref (u57 1), .int 0, .int 0])] s.heap _ _ := hw
  refine r_aast cx hw 1 2 rfl rfl (inL (by decide +kernel)) (ws' := [(h0, ob 4 [.int 0, .int 0, .int 0, .int 0, .int 0, .int 0, .int 0, .ref q1, .ref q2, .ref q3, .ref q4, .ref q5, .ref q6, .ref q7]), (q7, aP G 24 (va_up (va_up (va_up (va_up (va_up (va_up (va_up (va_up (va_up (va_up (va_up (va_up (va_up (va_up (va_up (va_up (va_up (fun _ => none) 0 (some q8)) 1 (some q11)) 2 (some q14)) 3 (some q17)) 4 (some q20)) 5 (some q23)) 6 (some q26)) 7 (some q29)) 8 (some q32)) 9 (some q35)) 10 (some q38)) 11 (some q41)) 12 (some q44)) 13 (some q47)) 14 (some q50)) 15 (some q53)) 16 (some q56))), (q56, ob 1 [.ref (u57 0), .ref (u57 1), .int 0, .int 0])]) rfl dX5_init_89 (fun H locs hw => ?_)
  refine lv_iinc (v := 17) (lv' := [(1, .int 17), (0, .ref h0)]) hx hb dX5_init_90 hl (k := 0) rfl (by decide +kernel) (by decide) rfl (fun ls hl => ?_)
  refine lv_goto (tgt := 68) hx hb dX5_init_93 (by decide) ?_
  have hw : Wd G A [(h0, ob 4 [.int 0, .int 0, .int 0, .int 0, .int 0, .int 0, .int 0, .ref q1, .ref q2, .ref q3, .ref q4, .ref q5, .ref q6, .ref q7]), (q7, aP G 24 (va_up (va_up (va_up (va_up (va_up (va_up (va_up (va_up (va_up (va_up (va_up (va_up (va_up (va_up (va_up (va_up (va_up (fun _ => none) 0 (some q8)) 1 (some q11)) 2 (some q14)) 3 (some q17)) 4 (some q20)) 5 (some q23)) 6 (some q26)) 7 (some q29)) 8 (some q32)) 9 (some q35)) 10 (some q38)) 11 (some q41)) 12 (some q44)) 13 (some q47)) 14 (some q50)) 15 (some q53)) 16 (some q56)))] s.heap _ _ := hw.sub [0, 1] rfl rfl
  refine lv_iload_n hx hb dX5_init_68 rfl (lv_at hl 0 rfl) ?_
  refine lv_bipush (v := 24) hx hb dX5_init_69 (by decide) ?_
  refine lv_icmp_ge (tgt := 96) hx hb dX5_init_71 (by decide) (fun c9 => absurd c9 (by decide)) (fun _ => ?_)
  refine lv_aload_n hx hb dX5_init_74 rfl (lv_at hl 1 rfl) ?_
  refine r_get cx hw inX5 (ci := 4) rfl 0 rfl 13 (by decide) fl_X5_33 rfl dX5_init_75 ?_
  refine lv_iload_n hx hb dX5_init_78 rfl (lv_at hl 0 rfl) ?_
  refine r_new cx hw hA inX2 (ci := 1) rfl tyX2_ok cl_X5_31 ia_X2 in_X2 nfX2_ok (Nat.le_of_ble_eq_true rfl) (Nat.le_of_ble_eq_true rfl) dX5_init_79 (fun q59 H hw => ?_)
  have hw : Wd G A [(h0, ob 4 [.int 0, .int 0, .int 0, .int 0, .int 0, .int 0, .int 0, .ref q1, .ref q2, .ref q3, .ref q4, .ref q5, .ref q6, .ref q7]), (q7, aP G 24 (va_up (va_up (va_up (va_up (va_up (va_up (va_up (va_up (va_up (va_up (va_up (va_up (va_up (va_up (va_up (va_up (va_up (fun _ => none) 0 (some q8)) 1 (some q11)) 2 (some q14)) 3 (some q17)) 4 (some q20)) 5 (some q23)) 6 (some q26)) 7 (some q29)) 8 (some q32)) 9 (some q35)) 10 (some q38)) 11 (some q41)) 12 (some q44)) 13 (some q47)) 14 (some q50)) 15 (some q53)) 16 (some q56))), (q59, ob 1 [.null, .null, .int 0, .int 0])] s.heap _ _ := hw
  refine lv_dup hx hb dX5_init_82 rfl ?_
  refine lv_sipush (v := 200) hx hb dX5_init_83 (by decide) ?_
  refine r_callIV (As := [.int 200]) (rest := [.ref q59, .int 17, .ref q7]) (wr := [(h0, ob 4 [.int 0, .int 0, .int 0, .int 0, .int 0, .int 0, .int 0, .ref q1, .ref q2, .ref q3, .ref q4, .ref q5, .ref q6, .ref q7]), (q7, aP G 24 (va_up (va_up (va_up (va_up (va_up (va_up (va_up (va_up (va_up (va_up (va_up (va_up (va_up (va_up (va_up (va_up (va_up (fun _ => none) 0 (some q8)) 1 (some q11)) 2 (some q14)) 3 (some q17)) 4 (some q20)) 5 (some q23)) 6 (some q26)) 7 (some q29)) 8 (some q32)) 9 (some q35)) 10 (some q38)) 11 (some q41)) 12 (some q44)) 13 (some q47)) 14 (some q50)) 15 (some q53)) 16 (some q56)))]) cx hw hA (c_Pat200 l G q59) [2] [0, 1] rfl rfl rfl rfl rfl ml_X5_37 im_X2_init in_X2 co_X2_init rfl hd_X2_init rfl ⟨Nat.le_of_ble_eq_true rfl, Nat.le_of_ble_eq_true rfl⟩ hl.1 rfl (Nat.le_of_ble_eq_true rfl) dX5_init_86 ⟨Nat.le_of_ble_eq_true rfl, Nat.le_of_ble_eq_true rfl⟩ (fun u60 H locs hr61 hw => ?_)
  have hw : Wd G A [(h0, ob 4 [.int 0, .int 0, .int 0, .int 0, .int 0, .int 0, .int 0, .ref q1, .ref q2, .ref q3, .ref q4, .ref q5, .ref q6, .ref q7]), (q7, aP G 24 (va_up (va_up (va_up (va_up (va_up (va_up (va_up (va_up (va_up (va_up (va_up (va_up (va_up (va_up (va_up (va_up (va_up (fun _ => none) 0 (some q8)) 1 (some q11)) 2 (some q14)) 3 (some q17)) 4 (some q20)) 5 (some q23)) 6 (some q26)) 7 (some q29)) 8 (some q32)) 9 (some q35)) 10 (some q38)) 11 (some q41)) 12 (some q44)) 13 (some q47)) 14 (some q50)) 15 (some q53)) 16 (some q56))), (q59, ob 1 [.ref (u60 0), .ref (u60 1), .int 0, .int 0])] s.heap _ _ := hw
  refine r_aast cx hw 1 2 rfl rfl (inL (by decide +kernel)) (ws' := [(h0, ob 4 [.int 0, .int 0, .int 0, .int 0, .int 0, .int 0, .int 0, .ref q1, .ref q2, .ref q3, .ref q4, .ref q5, .ref q6, .ref q7]), (q7, aP G 24 (va_up (va_up (va_up (va_up (va_up (va_up (va_up (va_up (va_up (va_up (va_up (va_up (va_up (va_up (va_up (va_up (va_up (va_up (fun _ => none) 0 (some q8)) 1 (some q11)) 2 (some q14)) 3 (some q17)) 4 (some q20)) 5 (some q23)) 6 (some q26)) 7 (some q29)) 8 (some q32)) 9 (some q35)) 10 (some q38)) 11 (some q41)) 12 (some q44)) 13 (some q47)) 14 (some q50)) 15 (some q53)) 16 (some q56)) 17 (some q59))), (q59, ob 1 [.ref (u60 0), .ref (u60 1), .int 0, .int 0])]) rfl dX5_init_89 (fun H locs hw => ?_)
  refine lv_iinc (v := 18) (lv' := [(1, .int 18), (0, .ref h0)]) hx hb dX5_init_90 hl (k := 0) rfl (by decide +kernel) (by decide) rfl (fun ls hl => ?_)
  refine lv_goto (tgt := 68) hx hb dX5_init_93 (by decide) ?_
  have hw : Wd G A [(h0, ob 4 [.int 0, .int 0, .int 0, .int 0, .int 0, .int 0, .int 0, .ref q1, .ref q2, .ref q3, .ref q4, .ref q5, .ref q6, .ref q7]), (q7, aP G 24 (va_up (va_up (va_up (va_up (va_up (va_up (va_up (va_up (va_up (va_up (va_up (va_up (va_up (va_up (va_up (va_up (va_up (va_up (fun _ => none) 0 (some q8)) 1 (some q11)) 2 (some q14)) 3 (some q17)) 4 (some q20)) 5 (some q23)) 6 (some q26)) 7 (some q29)) 8 (some q32)) 9 (some q35)) 10 (some q38)) 11 (some q41)) 12 (some q44)) 13 (some q47)) 14 (some q50)) 15 (some q53)) 16 (some q56)) 17 (some q59)))] s.heap _ _ := hw.sub [0, 1] rfl rfl
  refine lv_iload_n hx hb dX5_init_68 rfl (lv_at hl 0 rfl) ?_
  refine lv_bipush (v := 24) hx hb dX5_init_69 (by decide) ?_
  refine lv_icmp_ge (tgt := 96) hx hb dX5_init_71 (by decide) (fun c9 => absurd c9 (by decide)) (fun _ => ?_)
  refine lv_aload_n hx hb dX5_init_74 rfl (lv_at hl 1 rfl) ?_
  refine r_get cx hw inX5 (ci := 4) rfl 0 rfl 13 (by decide) fl_X5_33 rfl dX5_init_75 ?_
  refine lv_iload_n hx hb dX5_init_78 rfl (lv_at hl 0 rfl) ?_
  refine r_new cx hw hA inX2 (ci := 1) rfl tyX2_ok cl_X5_31 ia_X2 in_X2 nfX2_ok (Nat.le_of_ble_eq_true rfl) (Nat.le_of_ble_eq_true rfl) dX5_init_79 (fun q62 H hw => ?_)
  have hw : Wd G A [(h0, ob 4 [.int 0, .int 0, .int 0, .int 0, .int 0, .int 0, .int 0, .ref q1, .ref q2, .ref q3, .ref q4, .ref q5, .ref q6, .ref q7]), (q7, aP G 24 (va_up (va_up (va_up (va_up (va_up (va_up (va_up (va_up (va_up (va_up (va_up (va_up (va_up (va_up (va_up (va_up (va_up (va_up (fun _ => none) 0 (some q8)) 1 (some q11)) 2 (some q14)) 3 (some q17)) 4 (some q20)) 5 (some q23)) 6 (some q26)) 7 (some q29)) 8 (some q32)) 9 (some q35)) 10 (some q38)) 11 (some q41)) 12 (some q44)) 13 (some q47)) 14 (some q50)) 15 (some q53)) 16 (some q56)) 17 (some q59))), (q62, ob 1 [.null, .null, .int 0, .int 0])] s.heap _ _ := hw
  refine lv_dup hx hb dX5_init_82 rfl ?_
  refine lv_sipush (v := 200) hx hb dX5_init_83 (by decide) ?_
  refine r_callIV (As := [.int 200]) (rest := [.ref q62, .int 18, .ref q7]) (wr := [(h0, ob 4 [.int 0, .int 0, .int 0, .int 0, .int 0, .int 0, .int 0, .ref q1, .ref q2, .ref q3, .ref q4, .ref q5, .ref q6, .ref q7]), (q7, aP G 24 (va_up (va_up (va_up (va_up (va_up (va_up (va_up (va_up (va_up (va_up (va_up (va_up (va_up (va_up (va_up (va_up (va_up (va_up (fun _ => none) 0 (some q8)) 1 (some q11)) 2 (some q14)) 3 (some q17)) 4 (some q20)) 5 (some q23)) 6 (some q26)) 7 (some q29)) 8 (some q32)) 9 (some q35)) 10 (some q38)) 11 (some q41)) 12 (some q44)) 13 (some q47)) 14 (some q50)) 15 (some q53)) 16 (some q56)) 17 (some q59)))]) cx hw hA (c_Pat200 l G q62) [2] [0, 1] rfl rfl rfl rfl rfl ml_X5_37 im_X2_init in_X2 co_X2_init rfl hd_X2_init rfl ⟨Nat.le_of_ble_eq_true rfl, Nat.le_of_ble_eq_true rfl⟩ hl.1 rfl (Nat.le_of_ble_eq_true rfl) dX5_init_86 ⟨Nat.le_of_ble_eq_true rfl, Nat.le_of_ble_eq_true rfl⟩ (fun u63 H locs hr64 hw => ?_)
  have hw : Wd G A [(h0, ob 4 [.int 0, .int 0, .int 0, .int 0, .int 0, .int 0, .int 0, .ref q1, .ref q2, .ref q3, .ref q4, .ref q5, .ref q6, .ref q7]), (q7, aP G 24 (va_up (va_up (va_up (va_up (va_up (va_up (va_up (va_up (va_up (va_up (va_up (va_up (va_up (va_up (va_up (va_up (va_up (va_up (fun _ => none) 0 (some q8)) 1 (some q11)) 2 (some q14)) 3 (some q17)) 4 (some q20)) 5 (some q23)) 6 (some q26)) 7 (some q29)) 8 (some q32)) 9 (some q35)) 10 (some q38)) 11 (some q41)) 12 (some q44)) 13 (some q47)) 14 (some q50)) 15 (some q53)) 16 (some q56)) 17 (some q59))), (q62, ob 1 [.ref (u63 0), .ref (u63 1), .int 0, .int 0])] s.heap _ _ := hw
  refine r_aast cx hw 1 2 rfl rfl (inL (by decide +kernel)) (ws' := [(h0, ob 4 [.int 0, .int 0, .int 0, .int 0, .int 0, .int 0, .int 0, .ref q1, .ref q2, .ref q3, .ref q4, .ref q5, .ref q6, .ref q7]), (q7, aP G 24 (va_up (va_up (va_up (va_up (va_up (va_up (va_up (va_up (va_up (va_up (va_up (va_up (va_up (va_up (va_up (va_up (va_up (va_up (va_up (fun _ => none) 0 (some q8)) 1 (some q11)) 2 (some q14)) 3 (some q17)) 4 (some q20)) 5 (some q23)) 6 (some q26)) 7 (some q29)) 8 (some q32)) 9 (some q35)) 10 (some q38)) 11 (some q41)) 12 (some q44)) 13 (some q47)) 14 (some q50)) 15 (some q53)) 16 (some q56)) 17 (some q59)) 18 (some q62))), (q62, ob 1 [.ref (u63 0), .ref (u63 1), .int 0, .int 0])]) rfl dX5_init_89 (fun H locs hw => ?_)
  refine lv_iinc (v := 19) (lv' := [(1, .int 19), (0, .ref h0)]) hx hb dX5_init_90 hl (k := 0) rfl (by decide +kernel) (by decide) rfl (fun ls hl => ?_)
  refine lv_goto (tgt := 68) hx hb dX5_init_93 (by decide) ?_
  have hw : Wd G A [(h0, ob 4 [.int 0, .int 0, .int 0, .int 0, .int 0, .int 0, .int 0, .ref q1, .ref q2, .ref q3, .ref q4, .ref q5, .ref q6, .ref q7]), (q7, aP G 24 (va_up (va_up (va_up (va_up (va_up (va_up (va_up (va_up (va_up (va_up (va_up (va_up (va_up (va_up (va_up (va_up (va_up (va_up (va_up (fun _ => none) 0 (some q8)) 1 (some q11)) 2 (some q14)) 3 (some q17)) 4 (some q20)) 5 (some q23)) 6 (some q26)) 7 (some q29)) 8 (some q32)) 9 (some q35)) 10 (some q38)) 11 (some q41)) 12 (some q44)) 13 (some q47)) 14 (some q50)) 15 (some q53)) 16 (some q56)) 17 (some q59)) 18 (some q62)))] s.heap _ _ := hw.sub [0, 1] rfl rfl
  refine lv_iload_n hx hb dX5_init_68 rfl (lv_at hl 0 rfl) ?_
  refine lv_bipush (v := 24) hx hb dX5_init_69 (by decide) ?_
  refine lv_icmp_ge (tgt := 96) hx hb dX5_init_71 (by decide) (fun c9 => absurd c9 (by decide)) (fun _ => ?_)
  refine lv_aload_n hx hb dX5_init_74 rfl (lv_at hl 1 rfl) ?_
  refine r_get cx hw inX5 (ci := 4) rfl 0 rfl 13 (by decide) fl_X5_33 rfl dX5_init_75 ?_
  refine lv_iload_n hx hb dX5_init_78 rfl (lv_at hl 0 rfl) ?_
  refine r_new cx hw hA inX2 (ci := 1) rfl tyX2_ok cl_X5_31 ia_X2 in_X2 nfX2_ok (Nat.le_of_ble_eq_true rfl) (Nat.le_of_ble_eq_true rfl) dX5_init_79 (fun q65 H hw => ?_)
  have hw : Wd G A [(h0, ob 4 [.int 0, .int 0, .int 0, .int 0, .int 0, .int 0, .int 0, .ref q1, .ref q2, .ref q3, .ref q4, .ref q5, .ref q6, .ref q7]), (q7, aP G 24 (va_up (va_up (va_up (va_up (va_up (va_up (va_up (va_up (va_up (va_up (va_up (va_up (va_up (va_up (va_up (va_up (va_up (va_up (va_up (fun _ => none) 0 (some q8)) 1 (some q11)) 2 (some q14)) 3 (some q17)) 4 (some q20)) 5 (some q23)) 6 (some q26)) 7 (some q29)) 8 (some q32)) 9 (some q35)) 10 (some q38)) 11 (some q41)) 12 (some q44)) 13 (some q47)) 14 (some q50)) 15 (some q53)) 16 (some q56)) 17 (some q59)) 18 (some q62))), (q65, ob 1 [.null, .null, .int 0, .int 0])] s.heap _ _ := hw
  refine lv_dup hx hb dX5_init_82 rfl ?_
  refine lv_sipush (v := 200) hx hb dX5_init_83 (by decide) ?_
  refine r_callIV (As := [.int 200]) (rest := [.ref q65, .int 19, .ref q7]) (wr := [(h0, ob 4 [.int 0, .int 0, .int 0, .int 0, .int 0, .int 0, .int 0, .ref q1, .ref q2, .ref q3, .ref q4, .ref q5, .ref q6, .ref q7]), (q7, aP G 24 (va_up (va_up (va_up (va_up (va_up (va_up (va_up (va_up (va_up (va_up (va_up (va_up (va_up (va_up (va_up (va_up (va_up (va_up (va_up (fun _ => none) 0 (some q8)) 1 (some q11)) 2 (some q14)) 3 (some q17)) 4 (some q20)) 5 (some q23)) 6 (some q26)) 7 (some q29)) 8 (some q32)) 9 (some q35)) 10 (some q38)) 11 (some q41)) 12 (some q44)) 13 (some q47)) 14 (some q50)) 15 (some q53)) 16 (some q56)) 17 (some q59)) 18 (some q62)))]) cx hw hA (c_Pat200 l G q65) [2] [0, 1] rfl rfl rfl rfl rfl ml_X5_37 im_X2_init in_X2 co_X2_init rfl hd_X2_init rfl ⟨Nat.le_of_ble_eq_true rfl, Nat.le_of_ble_eq_true rfl⟩ hl.1 rfl (Nat.le_of_ble_eq_true rfl) dX5_init_86 ⟨Nat.le_of_ble_eq_true rfl, Nat.le_of_ble_eq_true rfl⟩ (fun u66 H locs hr67 hw => ?_)
  have hw : Wd G A [(h0, ob 4 [.int 0, .int 0, .int 0, .int 0, .int 0, .int 0, .int 0, .ref q1, .ref q2, .ref q3, .ref q4, .ref q5, .ref q6, .ref q7]), (q7, aP G 24 (va_up (va_up (va_up (va_up (va_up (va_up (va_up (va_up (va_up (va_up (va_up (va_up (va_up (va_up (va_up (va_up (va_up (va_up (va_up (fun _ => none) 0 (some q8)) 1 (some q11)) 2 (some q14)) 3 (some q17)) 4 (some q20)) 5 (some q23)) 6 (some q26)) 7 (some q29)) 8 (some q32)) 9 (some q35)) 10 (some q38)) 11 (some q41)) 12 (some q44)) 13 (some q47)) 14 (some q50)) 15 (some q53)) 16 (some q56)) 17 (some q59)) 18 (some q62))), (q65, ob 1 [.ref (u66 0), .ref (u66 1), .int 0, .int 0])] s.heap _ _ := hw
  refine r_aast cx hw 1 2 rfl rfl (inL (by decide +kernel)) (ws' := [(h0, ob 4 [.int 0, .int 0, .int 0, .int 0, .int 0, .int 0, .int 0, .ref q1, .ref q2, .ref q3, .ref q4, .ref q5, .ref q6, .ref q7]), (q7, aP G 24 (va_up (va_up (va_up (va_up (va_up (va_up (va_up (va_up (va_up (va_up (va_up (va_up (va_up (va_up (va_up (va_up (va_up (va_up (va_up (va_up (fun _ => none) 0 (some q8)) 1 (some q11)) 2 (some q14)) 3 (some q17)) 4 (some q20)) 5 (some q23)) 6 (some q26)) 7 (some q29)) 8 (some q32)) 9 (some q35)) 10 (some q38)) 11 (some q41)) 12 (some q44)) 13 (some q47)) 14 (some q50)) 15 (some q53)) 16 (some q56)) 17 (some q59)) 18 (some q62)) 19 (some q65))), (q65, ob 1 [.ref (u66 0), .ref (u66 1), .int 0, .int 0])]) rfl dX5_init_89 (fun H locs hw => ?_)
  refine lv_iinc (v := 20) (lv' := [(1, .int 20), (0, .ref h0)]) hx hb dX5_init_90 hl (k := 0) rfl (by decide +kernel) (by decide) rfl (fun ls hl => ?_)
  refine lv_goto (tgt := 68) hx hb dX5_init_93 (by decide) ?_
  have hw : Wd G A [(h0, ob 4 [.int 0, .int 0, .int 0, .int 0, .int 0, .int 0, .int 0, .ref q1, .ref q2, .ref q3, .ref q4, .ref q5, .ref q6, .ref q7]), (q7, aP G 24 (va_up (va_up (va_up (va_up (va_up (va_up (va_up (va_up (va_up (va_up (va_up (va_up (va_up (va_up (va_up (va_up (va_up (va_up (va_up (va_up (fun _ => none) 0 (some q8)) 1 (some q11)) 2 (some q14)) 3 (some q17)) 4 (some q20)) 5 (some q23)) 6 (some q26)) 7 (some q29)) 8 (some q32)) 9 (some q35)) 10 (some q38)) 11 (some q41)) 12 (some q44)) 13 (some q47)) 14 (some q50)) 15 (some q53)) 16 (some q56)) 17 (some q59)) 18 (some q62)) 19 (some q65)))] s.heap _ _ := hw.sub [0, 1] rfl rfl
  refine lv_iload_n hx hb dX5_init_68 rfl (lv_at hl 0 rfl) ?_
  refine lv_bipush (v := 24) hx hb dX5_init_69 (by decide) ?_
  refine lv_icmp_ge (tgt := 96) hx hb dX5_init_71 (by decide) (fun c9 => absurd c9 (by decide)) (fun _ => ?_)
  refine lv_aload_n hx hb dX5_init_74 rfl (lv_at hl 1 rfl) ?_
  refine r_get cx hw inX5 (ci := 4) rfl 0 rfl 13 (by decide) fl_X5_33 rfl dX5_init_75 ?_
  refine lv_iload_n hx hb dX5_init_78 rfl (lv_at hl 0 rfl) ?_
  refine r_new cx hw hA inX2 (ci := 1) rfl tyX2_ok cl_X5_31 ia_X2 in_X2 nfX2_ok (Nat.le_of_ble_eq_true rfl) (Nat.le_of_ble_eq_true rfl) dX5_init_79 (fun q68 H hw => ?_)
  have hw : Wd G A [(h0, ob 4 [.int 0, .int 0, .int 0, .int 0, .int 0, .int 0, .int 0, .ref q1, .ref q2, .ref q3, .ref q4, .ref q5, .ref q6, .ref q7]), (q7, aP G 24 (va_up (va_up (va_up (va_up (va_up (va_up (va_up (va_up (va_up (va_up (va_up (va_up (va_up (va_up (va_up (va_up (va_up (va_up (va_up (va_up (fun _ => none) 0 (some q8)) 1 (some q11)) 2 (some q14)) 3 (some q17)) 4 (some q20)) 5 (some q23)) 6 (some q26)) 7 (some q29)) 8 (some q32)) 9 (some q35)) 10 (some q38)) 11 (some q41)) 12 (some q44)) 13 (some q47)) 14 (some q50)) 15 (some q53)) 16 (some q56)) 17 (some q59)) 18 (some q62)) 19 (some q65))), (q68, ob 1 [.null, .null, .int 0, .int 0])] s.heap _ _ := hw
  refine lv_dup hx hb dX5_init_82 rfl ?_
  refine lv_sipush (v := 200) hx hb dX5_init_83 (by decide) ?_
  refine r_callIV (As := [.int 200]) (rest := [.ref q68, .int 20, .ref q7]) (wr := [(h0, ob 4 [.int 0, .int 0, .int 0, .int 0, .int 0, .int 0, .int 0, .ref q1, .ref q2, .ref q3, .ref q4, .ref q5, .ref q6, .ref q7]), (q7, aP G 24 (va_up (va_up (va_up (va_up (va_up (va_up (va_up (va_up (va_up (va_up (va_up (va_up (va_up (va_up (va_up (va_up (va_up (va_up (va_up (va_up (fun _ => none) 0 (some q8)) 1 (some q11)) 2 (some q14)) 3 (some q17)) 4 (some q20)) 5 (some q23)) 6 (some q26)) 7 (some q29)) 8 (some q32)) 9 (some q35)) 10 (some q38)) 11 (some q41)) 12 (some q44)) 13 (some q47)) 14 (some q50)) 15 (some q53)) 16 (some q56)) 17 (some q59)) 18 (some q62)) 19 (some q65)))]) cx hw hA (c_Pat200 l G q68) [2] [0, 1] rfl rfl rfl rfl rfl ml_X5_37 im_X2_init in_X2 co_X2_init rfl hd_X2_init rfl ⟨Nat.le_of_ble_eq_true rfl, Nat.le_of_ble_eq_true rfl⟩ hl.1 rfl (Nat.le_of_ble_eq_true rfl) dX5_init_86 ⟨Nat.le_of_ble_eq_true rfl, Nat.le_of_ble_eq_true rfl⟩ (fun u69 H locs hr70 hw => ?_)
  have hw : Wd G A [(h0, ob 4 [.int 0, .int 0, .int 0, .int 0, .int 0, .int 0, .int 0, .ref q1, .ref q2, .ref q3, .ref q4, .ref q5, .ref q6, .ref q7]), (q7, aP G 24 (va_up (va_up (va_up (va_up (va_up (va_up (va_up (va_up (va_up (va_up (va_up (va_up (va_up (va_up (va_up (va_up (va_up (va_up (va_up (va_up (fun _ => none) 0 (some q8)) 1 (some q11)) 2 (some q14)) 3 (some q17)) 4 (some q20)) 5 (some q23)) 6 (some q26)) 7 (some q29)) 8 (some q32)) 9 (some q35)) 10 (some q38)) 11 (some q41)) 12 (some q44)) 13 (some q47)) 14 (some q50)) 15 (some q53)) 16 (some q56)) 17 (some q59)) 18 (some q62)) 19 (some q65))), (q68, ob 1 [.ref (u69 0), .ref (u69 1), .int 0, .int 0])] s.heap _ _ := hw
  refine r_aast cx hw 1 2 rfl rfl (inL (by decide +kernel)) (ws' := [(h0, ob 4 [.int 0, .int 0, .int 0, .int 0, .int 0, .int 0, .int 0, .ref q1, .ref q2, .ref q3, .ref q4, .ref q5, .ref q6, .ref q7]), (q7, aP G 24 (va_up (va_up (va_up (va_up (va_up (va_up (va_up (va_up (va_up (va_up (va_up (va_up (va_up (va_up (va_up (va_up (va_up (va_up (va_up (va_up (va_up (fun _ => none) 0 (some q8)) 1 (some q11)) 2 (some q14)) 3 (some q17)) 4 (some q20)) 5 (some q23)) 6 (some q26)) 7 (some q29)) 8 (some q32)) 9 (some q35)) 10 (some q38)) 11 (some q41)) 12 (some q44)) 13 (some q47)) 14 (some q50)) 15 (some q53)) 16 (some q56)) 17 (some q59)) 18 (some q62)) 19 (some q65)) 20 (some q68))), (q68, ob 1 [.ref (u69 0), .ref (u69 1), .int 0, .int 0])]) rfl dX5_init_89 (fun H locs hw => ?_)
  refine lv_iinc (v := 21) (lv' := [(1, .int 21), (0, .ref h0)]) hx hb dX5_init_90 hl (k := 0) rfl (by decide +kernel) (by decide) rfl (fun ls hl => ?_)
  refine lv_goto (tgt := 68) hx hb dX5_init_93 (by decide) ?_
  have hw : Wd G A [(h0, ob 4 [.int 0, .int 0, .int 0, .int 0, .int 0, .int 0, .int 0, .ref q1, .ref q2, .ref q3, .ref q4, .ref q5, .ref q6, .ref q7]), (q7, aP G 24 (va_up (va_up (va_up (va_up (va_up (va_up (va_up (va_up (va_up (va_up (va_up (va_up (va_up (va_up (va_up (va_up (va_up (va_up (va_up (va_up (va_up (fun _ => none) 0 (some q8)) 1 (some q11)) 2 (some q14)) 3 (some q17)) 4 (some q20)) 5 (some q23)) 6 (some q26)) 7 (some q29)) 8 (some q32)) 9 (some q35)) 10 (some q38)) 11 (some q41)) 12 (some q44)) 13 (some q47)) 14 (some q50)) 15 (some q53)) 16 (some q56)) 17 (some q59)) 18 (some q62)) 19 (some q65)) 20 (some q68)))] s.heap _ _ := hw.sub [0, 1] rfl rfl
  refine lv_iload_n hx hb dX5_init_68 rfl (lv_at hl 0 rfl) ?_
  refine lv_bipush (v := 24) hx hb dX5_init_69 (by decide) ?_
  refine lv_icmp_ge (tgt := 96) hx hb dX5_init_71 (by decide) (fun c9 => absurd c9 (by decide)) (fun _ => ?_)
  refine lv_aload_n hx hb dX5_init_74 rfl (lv_at hl 1 rfl) ?_
  refine r_get cx hw inX5 (ci := 4) rfl 0 rfl 13 (by decide) fl_X5_33 rfl dX5_init_75 ?_
  refine lv_iload_n hx hb dX5_init_78 rfl (lv_at hl 0 rfl) ?_
  refine r_new cx hw hA inX2 (ci := 1) rfl tyX2_ok cl_X5_31 ia_X2 in_X2 nfX2_ok (Nat.le_of_ble_eq_true rfl) (Nat.le_of_ble_eq_true rfl) dX5_init_79 (fun q71 H hw => ?_)
  have hw : Wd G A [(h0, ob 4 [.int 0, .int 0, .int 0, .int 0, .int 0, .int 0, .int 0, .ref q1, .ref q2, .ref q3, .ref q4, .ref q5, .ref q6, .ref q7]), (q7, aP G 24 (va_up (va_up (va_up (va_up (va_up (va_up (va_up (va_up (va_up (va_up (va_up (va_up (va_up (va_up (va_up (va_up (va_up (va_up (va_up (va_up (va_up (fun _ => none) 0 (some q8)) 1 (some q11)) 2 (some q14)) 3 (some q17)) 4 (some q20)) 5 (some q23)) 6 (some q26)) 7 (some q29)) 8 (some q32)) 9 (some q35)) 10 (some q38)) 11 (some q41)) 12 (some q44)) 13 (some q47)) 14 (some q50)) 15 (some q53)) 16 (some q56)) 17 (some q59)) 18 (some q62)) 19 (some q65)) 20 (some q68))), (q71, ob 1 [.null, .null, .int 0, .int 0])] s.heap _ _ := hw
  refine lv_dup hx hb dX5_init_82 rfl ?_
  refine lv_sipush (v := 200) hx hb dX5_init_83 (by decide) ?_
  refine r_callIV (As := [.int 200]) (rest := [.ref q71, .int 21, .ref q7]) (wr := [(h0, ob 4 [.int 0, .int 0, .int 0, .int 0, .int 0, .int 0, .int 0, .ref q1, .ref q2, .ref q3, .ref q4, .ref q5, .ref q6, .ref q7]), (q7, aP G 24 (va_up (va_up (va_up (va_up (va_up (va_up (va_up (va_up (va_up (va_up (va_up (va_up (va_up (va_up (va_up (va_up (va_up (va_up (va_up (va_up (va_up (fun _ => none) 0 (some q8)) 1 (some q11)) 2 (some q14)) 3 (some q17)) 4 (some q20)) 5 (some q23)) 6 (some q26)) 7 (some q29)) 8 (some q32)) 9 (some q35)) 10 (some q38)) 11 (some q41)) 12 (some q44)) 13 (some q47)) 14 (some q50)) 15 (some q53)) 16 (some q56)) 17 (some q59)) 18 (some q62)) 19 (some q65)) 20 (some q68)))]) cx hw hA (c_Pat200 l G q71) [2] [0, 1] rfl rfl rfl rfl rfl ml_X5_37 im_X2_init in_X2 co_X2_init rfl hd_X2_init rfl ⟨Nat.le_of_ble_eq_true rfl, Nat.le_of_ble_eq_true rfl⟩ hl.1 rfl (Nat.le_of_ble_eq_true rfl) dX5_init_86 ⟨Nat.le_of_ble_eq_true rfl, Nat.le_of_ble_eq_true rfl⟩ (fun u72 H locs hr73 hw => ?_)
  have hw : Wd G A [(h0, ob 4 [.int 0, .int 0, .int 0, .int 0, .int 0, .int 0, .int 0, .ref q1, .ref q2, .ref q3, .ref q4, .ref q5, .ref q6, .ref q7]), (q7, aP G 24 (va_up (va_up (va_up (va_up (va_up (va_up (va_up (va_up (va_up (va_up (va_up (va_up (va_up (va_up (va_up (va_up (va_up (va_up (va_up (va_up (va_up (fun _ => none) 0 (some q8)) 1 (some q11)) 2 (some q14)) 3 (some q17)) 4 (some q20)) 5 (some q23)) 6 (some q26)) 7 (some q29)) 8 (some q32)) 9 (some q35)) 10 (some q38)) 11 (some q41)) 12 (some q44)) 13 (some q47)) 14 (some q50)) 15 (some q53)) 16 (some q56)) 17 (some q59)) 18 (some q62)) 19 (some q65)) 20 (some q68))), (q71, ob 1 [.ref (u72 0), .ref (u72 1), .int 0, .int 0])] s.heap _ _ := hw
  refine r_aast cx hw 1 2 rfl rfl (inL (by decide +kernel)) (ws' := [(h0, ob 4 [.int 0, .int 0, .int 0, .int 0, .int 0, .int 0, .int 0, .ref q1, .ref q2, .ref q3, .ref q4, .ref q5, .ref q6, .ref q7]), (q7, aP G 24 (va_up (va_up (va_up (va_up (va_up (va_up (va_up (va_up (va_up (va_up (va_up (va_up (va_up (va_up (va_up (va_up (va_up (va_up (va_up (va_up (va_up (va_up (fun _ => none) 0 (some q8)) 1 (some q11)) 2 (some q14)) 3 (some q17)) 4 (some q20)) 5 (some q23)) 6 (some q26)) 7 (some q29)) 8 (some q32)) 9 (some q35)) 10 (some q38)) 11 (some q41)) 12 (some q44)) 13 (some q47)) 14 (some q50)) 15 (some q53)) 16 (some q56)) 17 (some q59)) 18 (some q62)) 19 (some q65)) 20 (some q68)) 21 (some q71))), (q71, ob 1 [.ref (u72 0), .ref (u72 1), .int 0, .int 0])]) rfl dX5_init_89 (fun H locs hw => ?_)
  refine lv_iinc (v := 22) (lv' := [(1, .int 22), (0, .ref h0)]) hx hb dX5_init_90 hl (k := 0) rfl (by decide +kernel) (by decide) rfl (fun ls hl => ?_)
  refine lv_goto (tgt := 68) hx hb dX5_init_93 (by decide) ?_
  have hw : Wd G A [(h0, ob 4 [.int 0, .int 0, .int 0, .int 0, .int 0, .int 0, .int 0, .ref q1, .ref q2, .ref q3, .ref q4, .ref q5, .ref q6, .ref q7]), (q7, aP G 24 (va_up (va_up (va_up (va_up (va_up (va_up (va_up (va_up (va_up (va_up (va_up (va_up (va_up (va_up (va_up (va_up (va_up (va_up (va_up (va_up (va_up (va_up (fun _ => none) 0 (some q8)) 1 (some q11)) 2 (some q14)) 3 (some q17)) 4 (some q20)) 5 (some q23)) 6 (some q26)) 7 (some q29)) 8 (some q32)) 9 (some q35)) 10 (some q38)) 11 (some q41)) 12 (some q44)) 13 (some q47)) 14 (some q50)) 15 (some q53)) 16 (some q56)) 17 (some q59)) 18 (some q62)) 19 (some q65)) 20 (some q68)) 21 (some q71)))] s.heap _ _ := hw.sub [0, 1] rfl rfl
  refine lv_iload_n hx hb dX5_init_68 rfl (lv_at hl 0 rfl) ?_
  refine lv_bipush (v := 24) hx hb dX5_init_69 (by decide) ?_
  refine lv_icmp_ge (tgt := 96) hx hb dX5_init_71 (by decide) (fun c9 => absurd c9 (by decide)) (fun _ => ?_)
  refine lv_aload_n hx hb dX5_init_74 rfl (lv_at hl 1 rfl) ?_
  refine r_get cx hw inX5 (ci := 4) rfl 0 rfl 13 (by decide) fl_X5_33 rfl dX5_init_75 ?_
  refine lv_iload_n hx hb dX5_init_78 rfl (lv_at hl 0 rfl) ?_
  refine r_new cx hw hA inX2 (ci := 1) rfl tyX2_ok cl_X5_31 ia_X2 in_X2 nfX2_ok (Nat.le_of_ble_eq_true rfl) (Nat.le_of_ble_eq_true rfl) dX5_init_79 (fun q74 H hw => ?_)
  have hw : Wd G A [(h0, ob 4 [.int 0, .int 0, .int 0, .int 0, .int 0, .int 0, .int 0, .ref q1, .ref q2, .ref q3, .ref q4, .ref q5, .ref q6, .ref q7]), (q7, aP G 24 (va_up (va_up (va_up (va_up (va_up (va_up (va_up (va_up (va_up (va_up (va_up (va_up (va_up (va_up (va_up (va_up (va_up (va_up (va_up (va_up (va_up (va_up (fun _ => none) 0 (some q8)) 1 (some q11)) 2 (some q14)) 3 (some q17)) 4 (some q20)) 5 (some q23)) 6 (some q26)) 7 (some q29)) 8 (some q32)) 9 (some q35)) 10 (some q38)) 11 (some q41)) 12 (some q44)) 13 (some q47)) 14 (some q50)) 15 (some q53)) 16 (some q56)) 17 (some q59)) 18 (some q62)) 19 (some q65)) 20 (some q68)) 21 (some q71))), (q74, ob 1 [.null, .null, .int 0, .int 0])] s.heap _ _ := hw
  refine lv_dup hx hb dX5_init_82 rfl ?_
  refine lv_sipush (v := 200) hx hb dX5_init_83 (by decide) ?_
  refine r_callIV (As := [.int 200]) (rest := [.ref q74, .int 22, .ref q7]) (wr := [(h0, ob 4 [.int 0, .int 0, .int 0, .int 0, .int 0, .int 0, .int 0, .ref q1, .ref q2, .ref q3, .ref q4, .ref q5, .ref q6, .ref q7]), (q7, aP G 24 (va_up (va_up (va_up (va_up (va_up (va_up (va_up (va_up (va_up (va_up (va_up (va_up (va_up (va_up (va_up (va_up (va_up (va_up (va_up (va_up (va_up (va_up (fun _ => none) 0 (some q8)) 1 (some q11)) 2 (some q14)) 3 (some q17)) 4 (some q20)) 5 (some q23)) 6 (some q26)) 7 (some q29)) 8 (some q32)) 9 (some q35)) 10 (some q38)) 11 (some q41)) 12 (some q44)) 13 (some q47)) 14 (some q50)) 15 (some q53)) 16 (some q56)) 17 (some q59)) 18 (some q62)) 19 (some q65)) 20 (some q68)) 21 (some q71)))]) cx hw hA (c_Pat200 l G q74) [2] [0, 1] rfl rfl rfl rfl rfl ml_X5_37 im_X2_init in_X2 co_X2_init rfl hd_X2_init rfl ⟨Nat.le_of_ble_eq_true rfl, Nat.le_of_ble_eq_true rfl⟩ hl.1 rfl (Nat.le_of_ble_eq_true rfl) dX5_init_86 ⟨Nat.le_of_ble_eq_true rfl, Nat.le_of_ble_eq_true rfl⟩ (fun u75 H locs hr76 hw => ?_)
  have hw : Wd G A [(h0, ob 4 [.int 0, .int 0, .int 0, .int 0, .int 0, .int 0, .int 0, .ref q1, .ref q2, .ref q3, .ref q4, .ref q5, .ref q6, .ref q7]), (q7, aP G 24 (va_up (va_up (va_up (va_up (va_up (va_up (va_up (va_up (va_up (va_up (va_up (va_up (va_up (va_up (va_up (va_up (va_up (va_up (va_up (va_up (va_up (va_up (fun _ => none) 0 (some q8)) 1 (some q11)) 2 (some q14)) 3 (some q17)) 4 (some q20)) 5 (some q23)) 6 (some q26)) 7 (some q29)) 8 (some q32)) 9 (some q35)) 10 (some q38)) 11 (some q41)) 12 (some q44)) 13 (some q47)) 14 (some q50)) 15 (some q53)) 16 (some q56)) 17 (some q59)) 18 (some q62)) 19 (some q65)) 20 (some q68)) 21 (some q71))), (q74, ob 1 [.ref (u75 0), .ref (u75 1), .int 0, .int 0])] s.heap _ _ := hw
  refine r_aast cx hw 1 2 rfl rfl (inL (by decide +kernel)) (ws' := [(h0, ob 4 [.int 0, .int 0, .int 0, .int 0, .int 0, .int 0, .int 0, .ref q1, .ref q2, .ref q3, .ref q4, .ref q5, .ref q6, .ref q7]), (q7, aP G 24 (va_up (va_up (va_up (va_up (va_up (va_up (va_up (va_up (va_up (va_up (va_up (va_up (va_up (va_up (va_up (va_up (va_up (va_up (va_up (va_up (va_up (va_up (va_up (fun _ => none) 0 (some q8)) 1 (some q11)) 2 (some q14)) 3 (some q17)) 4 (some q20)) 5 (some q23)) 6 (some q26)) 7 (some q29)) 8 (some q32)) 9 (some q35)) 10 (some q38)) 11 (some q41)) 12 (some q44)) 13 (some q47)) 14 (some q50)) 15 (some q53)) 16 (some q56)) 17 (some q59)) 18 (some q62)) 19 (some q65)) 20 (some q68)) 21 (some q71)) 22 (some q74))), (q74, ob 1 [.ref (u75 0), .ref (u75 1), .int 0, .int 0])]) rfl dX5_init_89 (fun H locs hw => ?_)
  refine lv_iinc (v := 23) (lv' := [(1, .int 23), (0, .ref h0)]) hx hb dX5_init_90 hl (k := 0) rfl (by decide +kernel) (by decide) rfl (fun ls hl => ?_)
  refine lv_goto (tgt := 68) hx hb dX5_init_93 (by decide) ?_
  have hw : Wd G A [(h0, ob 4 [.int 0, .int 0, .int 0, .int 0, .int 0, .int 0, .int 0, .ref q1, .ref q2, .ref q3, .ref q4, .ref q5, .ref q6, .ref q7]), (q7, aP G 24 (va_up (va_up (va_up (va_up (va_up (va_up (va_up (va_up (va_up (va_up (va_up (va_up (va_up (va_up (va_up (va_up (va_up (va_up (va_up (va_up (va_up (va_up (va_up (fun _ => none) 0 (some q8)) 1 (some q11)) 2 (some q14)) 3 (some q17)) 4 (some q20)) 5 (some q23)) 6 (some q26)) 7 (some q29)) 8 (some q32)) 9 (some q35)) 10 (some q38)) 11 (some q41)) 12 (some q44)) 13 (some q47)) 14 (some q50)) 15 (some q53)) 16 (some q56)) 17 (some q59)) 18 (some q62)) 19 (some q65)) 20 (some q68)) 21 (some q71)) 22 (some q74)))] s.heap _ _ := hw.sub [0, 1] rfl rfl
  refine lv_iload_n hx hb dX5_init_68 rfl (lv_at hl 0 rfl) ?_
  refine lv_bipush (v := 24) hx hb dX5_init_69 (by decide) ?_
  refine lv_icmp_ge (tgt := 96) hx hb dX5_init_71 (by decide) (fun c9 => absurd c9 (by decide)) (fun _ => ?_)
  refine lv_aload_n hx hb dX5_init_74 rfl (lv_at hl 1 rfl) ?_
  refine r_get cx hw inX5 (ci := 4) rfl 0 rfl 13 (by decide) fl_X5_33 rfl dX5_init_75 ?_
  refine lv_iload_n hx hb dX5_init_78 rfl (lv_at hl 0 rfl) ?_
  refine r_new cx hw hA inX2 (ci := 1) rfl tyX2_ok cl_X5_31 ia_X2 in_X2 nfX2_ok (Nat.le_of_ble_eq_true rfl) (Nat.le_of_ble_eq_true rfl) dX5_init_79 (fun q77 H hw => ?_)
  have hw : Wd G A [(h0, ob 4 [.int 0, .int 0, .int 0, .int 0, .int 0, .int 0, .int 0, .ref q1, .ref q2, .ref q3, .ref q4, .ref q5, .ref q6, .ref q7]), (q7, aP G 24 (va_up (va_up (va_up (va_up (va_up (va_up (va_up (va_up (va_up (va_up (va_up (va_up (va_up (va_up (va_up (va_up (va_up (va_up (va_up (va_up (va_up (va_up (va_up (fun _ => none) 0 (some q8)) 1 (some q11)) 2 (some q14)) 3 (some q17)) 4 (some q20)) 5 (some q23)) 6 (some q26)) 7 (some q29)) 8 (some q32)) 9 (some q35)) 10 (some q38)) 11 (some q41)) 12 (some q44)) 13 (some q47)) 14 (some q50)) 15 (some q53)) 16 (some q56)) 17 (some q59)) 18 (some q62)) 19 (some q65)) 20 (some q68)) 21 (some q71)) 22 (some q74))), (q77, ob 1 [.null, .null, .int 0, .int 0])] s.heap _ _ := hw
  refine lv_dup hx hb dX5_init_82 rfl ?_
  refine lv_sipush (v := 200) hx hb dX5_init_83 (by decide) ?_
  refine r_callIV (As := [.int 200]) (rest := [.ref q77, .int 23, .ref q7]) (wr := [(h0, ob 4 [.int 0, .int 0, .int 0, .int 0, .int 0, .int 0, .int 0, .ref q1, .ref q2, .ref q3, .ref q4, .ref q5, .ref q6, .ref q7]), (q7, aP G 24 (va_up (va_up (va_up (va_up (va_up (va_up (va_up (va_up (va_up (va_up (va_up (va_up (va_up (va_up (va_up (va_up (va_up (va_up (va_up (va_up (va_up (va_up (va_up (fun _ => none) 0 (some q8)) 1 (some q11)) 2 (some q14)) 3 (some q17)) 4 (some q20)) 5 (some q23)) 6 (some q26)) 7 (some q29)) 8 (some q32)) 9 (some q35)) 10 (some q38)) 11 (some q41)) 12 (some q44)) 13 (some q47)) 14 (some q50)) 15 (some q53)) 16 (some q56)) 17 (some q59)) 18 (some q62)) 19 (some q65)) 20 (some q68)) 21 (some q71)) 22 (some q74)))]) cx hw hA (c_Pat200 l G q77) [2] [0, 1] rfl rfl rfl rfl rfl ml_X5_37 im_X2_init in_X2 co_X2_init rfl hd_X2_init rfl ⟨Nat.le_of_ble_eq_true rfl, Nat.le_of_ble_eq_true rfl⟩ hl.1 rfl (Nat.le_of_ble_eq_true rfl) dX5_init_86 ⟨Nat.le_of_ble_eq_true rfl, Nat.le_of_ble_eq_true rfl⟩ (fun u78 H locs hr79 hw => ?_)
  have hw : Wd G A [(h0, ob 4 [.int 0, .int 0, .int 0, .int 0, .int 0, .int 0, .int 0, .ref q1, .ref q2, .ref q3, .ref q4, .ref q5, .ref q6, .ref q7]), (q7, aP G 24 (va_up (va_up (va_up (va_up (va_up (va_up (va_up (va_up (va_up (va_up (va_up (va_up (va_up (va_up (va_up (va_up (va_up (va_up (va_up (va_up (va_up (va_up (va_up (fun _ => none) 0 (some q8)) 1 (some q11)) 2 (some q14)) 3 (some q17)) 4 (some q20)) 5 (some q23)) 6 (some q26)) 7 (some q29)) 8 (some q32)) 9 (some q35)) 10 (some q38)) 11 (some q41)) 12 (some q44)) 13 (some q47)) 14 (some q50)) 15 (some q53)) 16 (some q56)) 17 (some q59)) 18 (some q62)) 19 (some q65)) 20 (some q68)) 21 (some q71)) 22 (some q74))), (q77, ob 1 [.ref (u78 0), .ref (u78 1), .int 0, .int 0])] s.heap _ _ := hw
  refine r_aast cx hw 1 2 rfl rfl (inL (by decide +kernel)) (ws' := [(h0, ob 4 [.int 0, .int 0, .int 0, .int 0, .int 0, .int 0, .int 0, .ref q1, .ref q2, .ref q3, .ref q4, .ref q5, .ref q6, .ref q7]), (q7, aP G 24 (va_up (va_up (va_up (va_up (va_up (va_up (va_up (va_up (va_up (va_up (va_up (va_up (va_up (va_up (va_up (va_up (va_up (va_up (va_up (va_up (va_up (va_up (va_up (va_up (fun _ => none) 0 (some q8)) 1 (some q11)) 2 (some q14)) 3 (some q17)) 4 (some q20)) 5 (some q23)) 6 (some q26)) 7 (some q29)) 8 (some q32)) 9 (some q35)) 10 (some q38)) 11 (some q41)) 12 (some q44)) 13 (some q47)) 14 (some q50)) 15 (some q53)) 16 (some q56)) 17 (some q59)) 18 (some q62)) 19 (some q65)) 20 (some q68)) 21 (some q71)) 22 (some q74)) 23 (some q77))), (q77, ob 1 [.ref (u78 0), .ref (u78 1), .int 0, .int 0])]) rfl dX5_init_89 (fun H locs hw => ?_)
  refine lv_iinc (v := 24) (lv' := [(1, .int 24), (0, .ref h0)]) hx hb dX5_init_90 hl (k := 0) rfl (by decide +kernel) (by decide) rfl (fun ls hl => ?_)
  refine lv_goto (tgt := 68) hx hb dX5_init_93 (by decide) ?_
  have hw : Wd G A [(h0, ob 4 [.int 0, .int 0, .int 0, .int 0, .int 0, .int 0, .int 0, .ref q1, .ref q2, .ref q3, .ref q4, .ref q5, .ref q6, .ref q7]), (q7, aP G 24 (va_up (va_up (va_up (va_up (va_up (va_up (va_up (va_up (va_up (va_up (va_up (va_up (va_up (va_up (va_up (va_up (va_up (va_up (va_up (va_up (va_up (va_up (va_up (va_up (fun _ => none) 0 (some q8)) 1 (some q11)) 2 (some q14)) 3 (some q17)) 4 (some q20)) 5 (some q23)) 6 (some q26)) 7 (some q29)) 8 (some q32)) 9 (some q35)) 10 (some q38)) 11 (some q41)) 12 (some q44)) 13 (some q47)) 14 (some q50)) 15 (some q53)) 16 (some q56)) 17 (some q59)) 18 (some q62)) 19 (some q65)) 20 (some q68)) 21 (some q71)) 22 (some q74)) 23 (some q77)))] s.heap _ _ := hw.sub [0, 1] rfl rfl
  refine lv_iload_n hx hb dX5_init_68 rfl (lv_at hl 0 rfl) ?_
  refine lv_bipush (v := 24) hx hb dX5_init_69 (by decide) ?_
  refine lv_icmp_ge (tgt := 96) hx hb dX5_init_71 (by decide) (fun _ => ?_) (fun c9 => absurd (by decide) c9)
  refine lv_aload_n hx hb dX5_init_96 rfl (lv_at hl 1 rfl) ?_
  refine lv_iconst (v := 0) hx hb dX5_init_97 (by decide) ?_
  refine r_put cx hw inX5 (ci := 4) rfl tyX5_ok nmX5 0 rfl 0 (by decide) fl_X5_40 rfl rfl rfl (Nat.le_of_ble_eq_true rfl) (ws' := [(h0, ob 4 [.int 0, .int 0, .int 0, .int 0, .int 0, .int 0, .int 0, .ref q1, .ref q2, .ref q3, .ref q4, .ref q5, .ref q6, .ref q7]), (q7, aP G 24 (va_up (va_up (va_up (va_up (va_up (va_up (va_up (va_up (va_up (va_up (va_up (va_up (va_up (va_up (va_up (va_up (va_up (va_up (va_up (va_up (va_up (va_up (va_up (va_up (fun _ => none) 0 (some q8)) 1 (some q11)) 2 (some q14)) 3 (some q17)) 4 (some q20)) 5 (some q23)) 6 (some q26)) 7 (some q29)) 8 (some q32)) 9 (some q35)) 10 (some q38)) 11 (some q41)) 12 (some q44)) 13 (some q47)) 14 (some q50)) 15 (some q53)) 16 (some q56)) 17 (some q59)) 18 (some q62)) 19 (some q65)) 20 (some q68)) 21 (some q71)) 22 (some q74)) 23 (some q77)))]) rfl dX5_init_98 (fun H locs hw => ?_)
  refine lv_aload_n hx hb dX5_init_101 rfl (lv_at hl 1 rfl) ?_
  refine lv_iconst (v := 0) hx hb dX5_init_102 (by decide) ?_
  refine r_put cx hw inX5 (ci := 4) rfl tyX5_ok nmX5 0 rfl 1 (by decide) fl_X5_44 rfl rfl rfl (Nat.le_of_ble_eq_true rfl) (ws' := [(h0, ob 4 [.int 0, .int 0, .int 0, .int 0, .int 0, .int 0, .int 0, .ref q1, .ref q2, .ref q3, .ref q4, .ref q5, .ref q6, .ref q7]), (q7, aP G 24 (va_up (va_up (va_up (va_up (va_up (va_up (va_up (va_up (va_up (va_up (va_up (va_up (va_up (va_up (va_up (va_up (va_up (va_up (va_up (va_up (va_up (va_up (va_up (va_up (fun _ => none) 0 (some q8)) 1 (some q11)) 2 (some q14)) 3 (some q17)) 4 (some q20)) 5 (some q23)) 6 (some q26)) 7 (some q29)) 8 (some q32)) 9 (some q35)) 10 (some q38)) 11 (some q41)) 12 (some q44)) 13 (some q47)) 14 (some q50)) 15 (some q53)) 16 (some q56)) 17 (some q59)) 18 (some q62)) 19 (some q65)) 20 (some q68)) 21 (some q71)) 22 (some q74)) 23 (some q77)))]) rfl dX5_init_103 (fun H locs hw => ?_)
  refine lv_aload_n hx hb dX5_init_106 rfl (lv_at hl 1 rfl) ?_
  refine lv_iconst (v := 0) hx hb dX5_init_107 (by decide) ?_
  refine r_put cx hw inX5 (ci := 4) rfl tyX5_ok nmX5 0 rfl 2 (by decide) fl_X5_48 rfl rfl rfl (Nat.le_of_ble_eq_true rfl) (ws' := [(h0, ob 4 [.int 0, .int 0, .int 0, .int 0, .int 0, .int 0, .int 0, .ref q1, .ref q2, .ref q3, .ref q4, .ref q5, .ref q6, .ref q7]), (q7, aP G 24 (va_up (va_up (va_up (va_up (va_up (va_up (va_up (va_up (va_up (va_up (va_up (va_up (va_up (va_up (va_up (va_up (va_up (va_up (va_up (va_up (va_up (va_up (va_up (va_up (fun _ => none) 0 (some q8)) 1 (some q11)) 2 (some q14)) 3 (some q17)) 4 (some q20)) 5 (some q23)) 6 (some q26)) 7 (some q29)) 8 (some q32)) 9 (some q35)) 10 (some q38)) 11 (some q41)) 12 (some q44)) 13 (some q47)) 14 (some q50)) 15 (some q53)) 16 (some q56)) 17 (some q59)) 18 (some q62)) 19 (some q65)) 20 (some q68)) 21 (some q71)) 22 (some q74)) 23 (some q77)))]) rfl dX5_init_108 (fun H locs hw => ?_)
  refine lv_aload_n hx hb dX5_init_111 rfl (lv_at hl 1 rfl) ?_
  refine lv_iconst (v := 0) hx hb dX5_init_112 (by decide) ?_
  refine r_put cx hw inX5 (ci := 4) rfl tyX5_ok nmX5 0 rfl 3 (by decide) fl_X5_51 rfl rfl rfl (Nat.le_of_ble_eq_true rfl) (ws' := [(h0, ob 4 [.int 0, .int 0, .int 0, .int 0, .int 0, .int 0, .int 0, .ref q1, .ref q2, .ref q3, .ref q4, .ref q5, .ref q6, .ref q7]), (q7, aP G 24 (va_up (va_up (va_up (va_up (va_up (va_up (va_up (va_up (va_up (va_up (va_up (va_up (va_up (va_up (va_up (va_up (va_up (va_up (va_up (va_up (va_up (va_up (va_up (va_up (fun _ => none) 0 (some q8)) 1 (some q11)) 2 (some q14)) 3 (some q17)) 4 (some q20)) 5 (some q23)) 6 (some q26)) 7 (some q29)) 8 (some q32)) 9 (some q35)) 10 (some q38)) 11 (some q41)) 12 (some q44)) 13 (some q47)) 14 (some q50)) 15 (some q53)) 16 (some q56)) 17 (some q59)) 18 (some q62)) 19 (some q65)) 20 (some q68)) 21 (some q71)) 22 (some q74)) 23 (some q77)))]) rfl dX5_init_113 (fun H locs hw => ?_)
  refine lv_aload_n hx hb dX5_init_116 rfl (lv_at hl 1 rfl) ?_
  refine lv_iconst (v := 0) hx hb dX5_init_117 (by decide) ?_
  refine r_put cx hw inX5 (ci := 4) rfl tyX5_ok nmX5 0 rfl 4 (by decide) fl_X5_54 rfl rfl rfl (Nat.le_of_ble_eq_true rfl) (ws' := [(h0, ob 4 [.int 0, .int 0, .int 0, .int 0, .int 0, .int 0, .int 0, .ref q1, .ref q2, .ref q3, .ref q4, .ref q5, .ref q6, .ref q7]), (q7, aP G 24 (va_up (va_up (va_up (va_up (va_up (va_up (va_up (va_up (va_up (va_up (va_up (va_up (va_up (va_up (va_up (va_up (va_up (va_up (va_up (va_up (va_up (va_up (va_up (va_up (fun _ => none) 0 (some q8)) 1 (some q11)) 2 (some q14)) 3 (some q17)) 4 (some q20)) 5 (some q23)) 6 (some q26)) 7 (some q29)) 8 (some q32)) 9 (some q35)) 10 (some q38)) 11 (some q41)) 12 (some q44)) 13 (some q47)) 14 (some q50)) 15 (some q53)) 16 (some q56)) 17 (some q59)) 18 (some q62)) 19 (some q65)) 20 (some q68)) 21 (some q71)) 22 (some q74)) 23 (some q77)))]) rfl dX5_init_118 (fun H locs hw => ?_)
  refine lv_aload_n hx hb dX5_init_121 rfl (lv_at hl 1 rfl) ?_
  refine lv_iconst (v := 0) hx hb dX5_init_122 (by decide) ?_
  refine r_put cx hw inX5 (ci := 4) rfl tyX5_ok nmX5 0 rfl 5 (by decide) fl_X5_57 rfl rfl rfl (Nat.le_of_ble_eq_true rfl) (ws' := [(h0, ob 4 [.int 0, .int 0, .int 0, .int 0, .int 0, .int 0, .int 0, .ref q1, .ref q2, .ref q3, .ref q4, .ref q5, .ref q6, .ref q7]), (q7, aP G 24 (va_up (va_up (va_up (va_up (va_up (va_up (va_up (va_up (va_up (va_up (va_up (va_up (va_up (va_up (va_up (va_up (va_up (va_up (va_up (va_up (va_up (va_up (va_up (va_up (fun _ => none) 0 (some q8)) 1 (some q11)) 2 (some q14)) 3 (some q17)) 4 (some q20)) 5 (some q23)) 6 (some q26)) 7 (some q29)) 8 (some q32)) 9 (some q35)) 10 (some q38)) 11 (some q41)) 12 (some q44)) 13 (some q47)) 14 (some q50)) 15 (some q53)) 16 (some q56)) 17 (some q59)) 18 (some q62)) 19 (some q65)) 20 (some q68)) 21 (some q71)) 22 (some q74)) 23 (some q77)))]) rfl dX5_init_123 (fun H locs hw => ?_)
  refine lv_aload_n hx hb dX5_init_126 rfl (lv_at hl 1 rfl) ?_
  refine lv_iconst (v := 0) hx hb dX5_init_127 (by decide) ?_
  refine r_put cx hw inX5 (ci := 4) rfl tyX5_ok nmX5 0 rfl 6 (by decide) fl_X5_60 rfl rfl rfl (Nat.le_of_ble_eq_true rfl) (ws' := [(h0, ob 4 [.int 0, .int 0, .int 0, .int 0, .int 0, .int 0, .int 0, .ref q1, .ref q2, .ref q3, .ref q4, .ref q5, .ref q6, .ref q7]), (q7, aP G 24 (va_up (va_up (va_up (va_up (va_up (va_up (va_up (va_up (va_up (va_up (va_up (va_up (va_up (va_up (va_up (va_up (va_up (va_up (va_up (va_up (va_up (va_up (va_up (va_up (fun _ => none) 0 (some q8)) 1 (some q11)) 2 (some q14)) 3 (some q17)) 4 (some q20)) 5 (some q23)) 6 (some q26)) 7 (some q29)) 8 (some q32)) 9 (some q35)) 10 (some q38)) 11 (some q41)) 12 (some q44)) 13 (some q47)) 14 (some q50)) 15 (some q53)) 16 (some q56)) 17 (some q59)) 18 (some q62)) 19 (some q65)) 20 (some q68)) 21 (some q71)) 22 (some q74)) 23 (some q77)))]) rfl dX5_init_128 (fun H locs hw => ?_)
  have hw : Wd G A [(h0, ob 4 [.int 0, .int 0, .int 0, .int 0, .int 0, .int 0, .int 0, .ref q1, .ref q2, .ref q3, .ref q4, .ref q5, .ref q6, .ref q7])] s.heap _ _ := hw.sub [0] rfl rfl
  exact r_vret cx hr hlk (fun k => [q1, q2, q3, q4, q5, q6, q7].getD k 0) trivial hw (Nat.le_of_ble_eq_true rfl) (Nat.le_of_ble_eq_true rfl) dX5_init_131

set_option maxHeartbeats 4000000 in
set_option maxRecDepth 100000 in
theorem c_Pbegin (l : Launch) (G : Gt) (h0 : Nat) (a1 : Nat) (a2 : Nat) (z1 : Int32) (z2 : Int32) (k : Int32) : Mt l yX2_begin cX2_begin 2 none ({ frames := 0, cells := 0, slots := 0, locals := 0 } : Room) G [.ref h0, .int k] [(h0, ob 1 [.ref a1, .ref a2, .int z1, .int z2])] (qV G (fun (w : Unit) => True) (fun w => [(h0, ob 1 [.ref a1, .ref a2, .int 0, .int k])])) := by
  refine Mt.of (own := RX2) (cc := cX2_begin) (by decide) rfl (Nat.le_of_ble_eq_true rfl) ?_
  intro p e s m below meth c A ls cx hr hlk hmn hA hl hw
  have hx := cx.1
  have hb := cx.2.1
  have hl : lv_has ls 2 [(0, .ref h0), (1, .int k)] := hl
  refine lv_aload_n hx hb dX2_begin_0 rfl (lv_at hl 0 rfl) ?_
  refine lv_iconst (v := 0) hx hb dX2_begin_1 (by decide) ?_
  refine r_put cx hw inX2 (ci := 1) rfl tyX2_ok nmX2 0 rfl 2 (by decide) fl_X2_18 rfl rfl rfl (Nat.le_of_ble_eq_true rfl) (ws' := [(h0, ob 1 [.ref a1, .ref a2, .int 0, .int z2])]) rfl dX2_begin_2 (fun H locs hw => ?_)
  refine lv_aload_n hx hb dX2_begin_5 rfl (lv_at hl 0 rfl) ?_
  refine lv_iload_n hx hb dX2_begin_6 rfl (lv_at hl 1 rfl) ?_
  refine r_put cx hw inX2 (ci := 1) rfl tyX2_ok nmX2 0 rfl 3 (by decide) fl_X2_22 rfl rfl rfl (Nat.le_of_ble_eq_true rfl) (ws' := [(h0, ob 1 [.ref a1, .ref a2, .int 0, .int k])]) rfl dX2_begin_7 (fun H locs hw => ?_)
  have hw : Wd G A [(h0, ob 1 [.ref a1, .ref a2, .int 0, .int k])] s.heap _ _ := hw.sub [0] rfl rfl
  exact r_vret cx hr hlk () trivial hw (Nat.le_of_ble_eq_true rfl) (Nat.le_of_ble_eq_true rfl) dX2_begin_10

set_option maxHeartbeats 4000000 in
set_option maxRecDepth 100000 in
theorem c_Obegin (l : Launch) (G : Gt) (h0 : Nat) (k0 : Nat) (p0 : Nat) (v0 : Nat) (w1 : Nat) (w2 : Nat) (y1 : Int32) (y2 : Int32) (z0 : Int32) (z1 : Int32) (z2 : Int32) (z3 : Int32) (z4 : Int32) (z5 : Int32) (z6 : Int32) : Mt l yX1_begin cX1_begin 2 none ({ frames := 1, cells := 0, slots := 0, locals := 21 } : Room) G [.ref h0] [(h0, ob 0 [.int z0, .int z1, .int z2, .int z3, .int z4, .int z5, .int z6, .ref k0, .ref p0, .ref v0]), (p0, aI G 8 (fun _ => 0)), (v0, ob 1 [.ref w1, .ref w2, .int y1, .int y2])] (qV G (fun (w : Unit) => True) (fun w => [(h0, ob 0 [.int (-1), .int 0, .int 0, .int 0, .int 0, .int 0, .int 0, .ref k0, .ref p0, .ref v0]), (p0, aI G 8 (fun _ => 0)), (v0, ob 1 [.ref w1, .ref w2, .int 0, .int 0])])) := by
  refine Mt.of (own := RX1) (cc := cX1_begin) (by decide) rfl (Nat.le_of_ble_eq_true rfl) ?_
  intro p e s m below meth c A ls cx hr hlk hmn hA hl hw
  have hx := cx.1
  have hb := cx.2.1
  have hl : lv_has ls 2 [(0, .ref h0)] := hl
  refine lv_aload_n hx hb dX1_begin_0 rfl (lv_at hl 0 rfl) ?_
  refine lv_iconst (v := (-1)) hx hb dX1_begin_1 (by decide) ?_
  refine r_put cx hw inX1 (ci := 0) rfl tyX1_ok nmX1 0 rfl 0 (by decide) fl_X1_31 rfl rfl rfl (Nat.le_of_ble_eq_true rfl) (ws' := [(h0, ob 0 [.int (-1), .int z1, .int z2, .int z3, .int z4, .int z5, .int z6, .ref k0, .ref p0, .ref v0]), (p0, aI G 8 (fun _ => 0)), (v0, ob 1 [.ref w1, .ref w2, .int y1, .int y2])]) rfl dX1_begin_2 (fun H locs hw => ?_)
  refine lv_aload_n hx hb dX1_begin_5 rfl (lv_at hl 0 rfl) ?_
  refine lv_iconst (v := 0) hx hb dX1_begin_6 (by decide) ?_
  refine r_put cx hw inX1 (ci := 0) rfl tyX1_ok nmX1 0 rfl 1 (by decide) fl_X1_35 rfl rfl rfl (Nat.le_of_ble_eq_true rfl) (ws' := [(h0, ob 0 [.int (-1), .int 0, .int z2, .int z3, .int z4, .int z5, .int z6, .ref k0, .ref p0, .ref v0]), (p0, aI G 8 (fun _ => 0)), (v0, ob 1 [.ref w1, .ref w2, .int y1, .int y2])]) rfl dX1_begin_7 (fun H locs hw => ?_)
  refine lv_aload_n hx hb dX1_begin_10 rfl (lv_at hl 0 rfl) ?_
  refine lv_iconst (v := 0) hx hb dX1_begin_11 (by decide) ?_
  refine r_put cx hw inX1 (ci := 0) rfl tyX1_ok nmX1 0 rfl 2 (by decide) fl_X1_38 rfl rfl rfl (Nat.le_of_ble_eq_true rfl) (ws' := [(h0, ob 0 [.int (-1), .int 0, .int 0, .int z3, .int z4, .int z5, .int z6, .ref k0, .ref p0, .ref v0]), (p0, aI G 8 (fun _ => 0)), (v0, ob 1 [.ref w1, .ref w2, .int y1, .int y2])]) rfl dX1_begin_12 (fun H locs hw => ?_)
  refine lv_aload_n hx hb dX1_begin_15 rfl (lv_at hl 0 rfl) ?_
  refine lv_iconst (v := 0) hx hb dX1_begin_16 (by decide) ?_
  refine r_put cx hw inX1 (ci := 0) rfl tyX1_ok nmX1 0 rfl 3 (by decide) fl_X1_41 rfl rfl rfl (Nat.le_of_ble_eq_true rfl) (ws' := [(h0, ob 0 [.int (-1), .int 0, .int 0, .int 0, .int z4, .int z5, .int z6, .ref k0, .ref p0, .ref v0]), (p0, aI G 8 (fun _ => 0)), (v0, ob 1 [.ref w1, .ref w2, .int y1, .int y2])]) rfl dX1_begin_17 (fun H locs hw => ?_)
  refine lv_aload_n hx hb dX1_begin_20 rfl (lv_at hl 0 rfl) ?_
  refine lv_iconst (v := 0) hx hb dX1_begin_21 (by decide) ?_
  refine r_put cx hw inX1 (ci := 0) rfl tyX1_ok nmX1 0 rfl 4 (by decide) fl_X1_44 rfl rfl rfl (Nat.le_of_ble_eq_true rfl) (ws' := [(h0, ob 0 [.int (-1), .int 0, .int 0, .int 0, .int 0, .int z5, .int z6, .ref k0, .ref p0, .ref v0]), (p0, aI G 8 (fun _ => 0)), (v0, ob 1 [.ref w1, .ref w2, .int y1, .int y2])]) rfl dX1_begin_22 (fun H locs hw => ?_)
  refine lv_aload_n hx hb dX1_begin_25 rfl (lv_at hl 0 rfl) ?_
  refine lv_iconst (v := 0) hx hb dX1_begin_26 (by decide) ?_
  refine r_put cx hw inX1 (ci := 0) rfl tyX1_ok nmX1 0 rfl 5 (by decide) fl_X1_47 rfl rfl rfl (Nat.le_of_ble_eq_true rfl) (ws' := [(h0, ob 0 [.int (-1), .int 0, .int 0, .int 0, .int 0, .int 0, .int z6, .ref k0, .ref p0, .ref v0]), (p0, aI G 8 (fun _ => 0)), (v0, ob 1 [.ref w1, .ref w2, .int y1, .int y2])]) rfl dX1_begin_27 (fun H locs hw => ?_)
  refine lv_aload_n hx hb dX1_begin_30 rfl (lv_at hl 0 rfl) ?_
  refine lv_iconst (v := 0) hx hb dX1_begin_31 (by decide) ?_
  refine r_put cx hw inX1 (ci := 0) rfl tyX1_ok nmX1 0 rfl 6 (by decide) fl_X1_50 rfl rfl rfl (Nat.le_of_ble_eq_true rfl) (ws' := [(h0, ob 0 [.int (-1), .int 0, .int 0, .int 0, .int 0, .int 0, .int 0, .ref k0, .ref p0, .ref v0]), (p0, aI G 8 (fun _ => 0)), (v0, ob 1 [.ref w1, .ref w2, .int y1, .int y2])]) rfl dX1_begin_32 (fun H locs hw => ?_)
  refine lv_aload_n hx hb dX1_begin_35 rfl (lv_at hl 0 rfl) ?_
  refine r_get cx hw inX1 (ci := 0) rfl 0 rfl 9 (by decide) fl_X1_24 rfl dX1_begin_36 ?_
  refine lv_iconst (v := 0) hx hb dX1_begin_39 (by decide) ?_
  refine r_callVV (As := [.int 0]) (rest := []) (wr := [(h0, ob 0 [.int (-1), .int 0, .int 0, .int 0, .int 0, .int 0, .int 0, .ref k0, .ref p0, .ref v0]), (p0, aI G 8 (fun _ => 0))]) cx hw hA (c_Pbegin l G v0 w1 w2 y1 y2 0) [2] [0, 1] rfl rfl rfl rfl rfl 2 rfl (ci := 1) rfl ml_X1_53 im_X2_begin se_X2_begin in_X2 co_X2_begin rfl hd_X2_begin rfl ⟨Nat.le_of_ble_eq_true rfl, Nat.le_of_ble_eq_true rfl⟩ hl.1 rfl (Nat.le_of_ble_eq_true rfl) dX1_begin_40 ⟨Nat.le_of_ble_eq_true rfl, Nat.le_of_ble_eq_true rfl⟩ (fun u1 H locs hr2 hw => ?_)
  have hw : Wd G A [(h0, ob 0 [.int (-1), .int 0, .int 0, .int 0, .int 0, .int 0, .int 0, .ref k0, .ref p0, .ref v0]), (p0, aI G 8 (fun _ => 0)), (v0, ob 1 [.ref w1, .ref w2, .int 0, .int 0])] s.heap _ _ := hw
  refine lv_iconst (v := 0) hx hb dX1_begin_43 (by decide) ?_
  refine lv_istore_n (lv' := [(1, .int 0), (0, .ref h0)]) hx hb dX1_begin_44 rfl hl (by decide) rfl (fun ls hl => ?_)
  refine lv_iload_n hx hb dX1_begin_45 rfl (lv_at hl 0 rfl) ?_
  refine lv_bipush (v := 8) hx hb dX1_begin_46 (by decide) ?_
  refine lv_icmp_ge (tgt := 64) hx hb dX1_begin_48 (by decide) (fun c9 => absurd c9 (by decide)) (fun _ => ?_)
  refine lv_aload_n hx hb dX1_begin_51 rfl (lv_at hl 1 rfl) ?_
  refine r_get cx hw inX1 (ci := 0) rfl 0 rfl 8 (by decide) fl_X1_15 rfl dX1_begin_52 ?_
  refine lv_iload_n hx hb dX1_begin_55 rfl (lv_at hl 0 rfl) ?_
  refine lv_iconst (v := 0) hx hb dX1_begin_56 (by decide) ?_
  refine r_iast cx hw 1 rfl (inL (by decide +kernel)) (ws' := [(h0, ob 0 [.int (-1), .int 0, .int 0, .int 0, .int 0, .int 0, .int 0, .ref k0, .ref p0, .ref v0]), (p0, aI G 8 (fun _ => 0)), (v0, ob 1 [.ref w1, .ref w2, .int 0, .int 0])]) (by rw [upd00]; rfl) dX1_begin_57 (fun H locs hw => ?_)
  refine lv_iinc (v := 1) (lv' := [(1, .int 1), (0, .ref h0)]) hx hb dX1_begin_58 hl (k := 0) rfl (by decide +kernel) (by decide) rfl (fun ls hl => ?_)
  refine lv_goto (tgt := 45) hx hb dX1_begin_61 (by decide) ?_
  refine lv_iload_n hx hb dX1_begin_45 rfl (lv_at hl 0 rfl) ?_
  refine lv_bipush (v := 8) hx hb dX1_begin_46 (by decide) ?_
  refine lv_icmp_ge (tgt := 64) hx hb dX1_begin_48 (by decide) (fun c9 => absurd c9 (by decide)) (fun _ => ?_)
  refine lv_aload_n hx hb dX1_begin_51 rfl (lv_at hl 1 rfl) ?_
  refine r_get cx hw inX1 (ci := 0) rfl 0 rfl 8 (by decide) fl_X1_15 rfl dX1_begin_52 ?_
  refine lv_iload_n hx hb dX1_begin_55 rfl (lv_at hl 0 rfl) ?_
  refine lv_iconst (v := 0) hx hb dX1_begin_56 (by decide) ?_
  refine r_iast cx hw 1 rfl (inL (by decide +kernel)) (ws' := [(h0, ob 0 [.int (-1), .int 0, .int 0, .int 0, .int 0, .int 0, .int 0, .ref k0, .ref p0, .ref v0]), (p0, aI G 8 (fun _ => 0)), (v0, ob 1 [.ref w1, .ref w2, .int 0, .int 0])]) (by rw [upd00]; rfl) dX1_begin_57 (fun H locs hw => ?_)
  refine lv_iinc (v := 2) (lv' := [(1, .int 2), (0, .ref h0)]) hx hb dX1_begin_58 hl (k := 0) rfl (by decide +kernel) (by decide) rfl (fun ls hl => ?_)
  refine lv_goto (tgt := 45) hx hb dX1_begin_61 (by decide) ?_
  refine lv_iload_n hx hb dX1_begin_45 rfl (lv_at hl 0 rfl) ?_
  refine lv_bipush (v := 8) hx hb dX1_begin_46 (by decide) ?_
  refine lv_icmp_ge (tgt := 64) hx hb dX1_begin_48 (by decide) (fun c9 => absurd c9 (by decide)) (fun _ => ?_)
  refine lv_aload_n hx hb dX1_begin_51 rfl (lv_at hl 1 rfl) ?_
  refine r_get cx hw inX1 (ci := 0) rfl 0 rfl 8 (by decide) fl_X1_15 rfl dX1_begin_52 ?_
  refine lv_iload_n hx hb dX1_begin_55 rfl (lv_at hl 0 rfl) ?_
  refine lv_iconst (v := 0) hx hb dX1_begin_56 (by decide) ?_
  refine r_iast cx hw 1 rfl (inL (by decide +kernel)) (ws' := [(h0, ob 0 [.int (-1), .int 0, .int 0, .int 0, .int 0, .int 0, .int 0, .ref k0, .ref p0, .ref v0]), (p0, aI G 8 (fun _ => 0)), (v0, ob 1 [.ref w1, .ref w2, .int 0, .int 0])]) (by rw [upd00]; rfl) dX1_begin_57 (fun H locs hw => ?_)
  refine lv_iinc (v := 3) (lv' := [(1, .int 3), (0, .ref h0)]) hx hb dX1_begin_58 hl (k := 0) rfl (by decide +kernel) (by decide) rfl (fun ls hl => ?_)
  refine lv_goto (tgt := 45) hx hb dX1_begin_61 (by decide) ?_
  refine lv_iload_n hx hb dX1_begin_45 rfl (lv_at hl 0 rfl) ?_
  refine lv_bipush (v := 8) hx hb dX1_begin_46 (by decide) ?_
  refine lv_icmp_ge (tgt := 64) hx hb dX1_begin_48 (by decide) (fun c9 => absurd c9 (by decide)) (fun _ => ?_)
  refine lv_aload_n hx hb dX1_begin_51 rfl (lv_at hl 1 rfl) ?_
  refine r_get cx hw inX1 (ci := 0) rfl 0 rfl 8 (by decide) fl_X1_15 rfl dX1_begin_52 ?_
  refine lv_iload_n hx hb dX1_begin_55 rfl (lv_at hl 0 rfl) ?_
  refine lv_iconst (v := 0) hx hb dX1_begin_56 (by decide) ?_
  refine r_iast cx hw 1 rfl (inL (by decide +kernel)) (ws' := [(h0, ob 0 [.int (-1), .int 0, .int 0, .int 0, .int 0, .int 0, .int 0, .ref k0, .ref p0, .ref v0]), (p0, aI G 8 (fun _ => 0)), (v0, ob 1 [.ref w1, .ref w2, .int 0, .int 0])]) (by rw [upd00]; rfl) dX1_begin_57 (fun H locs hw => ?_)
  refine lv_iinc (v := 4) (lv' := [(1, .int 4), (0, .ref h0)]) hx hb dX1_begin_58 hl (k := 0) rfl (by decide +kernel) (by decide) rfl (fun ls hl => ?_)
  refine lv_goto (tgt := 45) hx hb dX1_begin_61 (by decide) ?_
  refine lv_iload_n hx hb dX1_begin_45 rfl (lv_at hl 0 rfl) ?_
  refine lv_bipush (v := 8) hx hb dX1_begin_46 (by decide) ?_
  refine lv_icmp_ge (tgt := 64) hx hb dX1_begin_48 (by decide) (fun c9 => absurd c9 (by decide)) (fun _ => ?_)
  refine lv_aload_n hx hb dX1_begin_51 rfl (lv_at hl 1 rfl) ?_
  refine r_get cx hw inX1 (ci := 0) rfl 0 rfl 8 (by decide) fl_X1_15 rfl dX1_begin_52 ?_
  refine lv_iload_n hx hb dX1_begin_55 rfl (lv_at hl 0 rfl) ?_
  refine lv_iconst (v := 0) hx hb dX1_begin_56 (by decide) ?_
  refine r_iast cx hw 1 rfl (inL (by decide +kernel)) (ws' := [(h0, ob 0 [.int (-1), .int 0, .int 0, .int 0, .int 0, .int 0, .int 0, .ref k0, .ref p0, .ref v0]), (p0, aI G 8 (fun _ => 0)), (v0, ob 1 [.ref w1, .ref w2, .int 0, .int 0])]) (by rw [upd00]; rfl) dX1_begin_57 (fun H locs hw => ?_)
  refine lv_iinc (v := 5) (lv' := [(1, .int 5), (0, .ref h0)]) hx hb dX1_begin_58 hl (k := 0) rfl (by decide +kernel) (by decide) rfl (fun ls hl => ?_)
  refine lv_goto (tgt := 45) hx hb dX1_begin_61 (by decide) ?_
  refine lv_iload_n hx hb dX1_begin_45 rfl (lv_at hl 0 rfl) ?_
  refine lv_bipush (v := 8) hx hb dX1_begin_46 (by decide) ?_
  refine lv_icmp_ge (tgt := 64) hx hb dX1_begin_48 (by decide) (fun c9 => absurd c9 (by decide)) (fun _ => ?_)
  refine lv_aload_n hx hb dX1_begin_51 rfl (lv_at hl 1 rfl) ?_
  refine r_get cx hw inX1 (ci := 0) rfl 0 rfl 8 (by decide) fl_X1_15 rfl dX1_begin_52 ?_
  refine lv_iload_n hx hb dX1_begin_55 rfl (lv_at hl 0 rfl) ?_
  refine lv_iconst (v := 0) hx hb dX1_begin_56 (by decide) ?_
  refine r_iast cx hw 1 rfl (inL (by decide +kernel)) (ws' := [(h0, ob 0 [.int (-1), .int 0, .int 0, .int 0, .int 0, .int 0, .int 0, .ref k0, .ref p0, .ref v0]), (p0, aI G 8 (fun _ => 0)), (v0, ob 1 [.ref w1, .ref w2, .int 0, .int 0])]) (by rw [upd00]; rfl) dX1_begin_57 (fun H locs hw => ?_)
  refine lv_iinc (v := 6) (lv' := [(1, .int 6), (0, .ref h0)]) hx hb dX1_begin_58 hl (k := 0) rfl (by decide +kernel) (by decide) rfl (fun ls hl => ?_)
  refine lv_goto (tgt := 45) hx hb dX1_begin_61 (by decide) ?_
  refine lv_iload_n hx hb dX1_begin_45 rfl (lv_at hl 0 rfl) ?_
  refine lv_bipush (v := 8) hx hb dX1_begin_46 (by decide) ?_
  refine lv_icmp_ge (tgt := 64) hx hb dX1_begin_48 (by decide) (fun c9 => absurd c9 (by decide)) (fun _ => ?_)
  refine lv_aload_n hx hb dX1_begin_51 rfl (lv_at hl 1 rfl) ?_
  refine r_get cx hw inX1 (ci := 0) rfl 0 rfl 8 (by decide) fl_X1_15 rfl dX1_begin_52 ?_
  refine lv_iload_n hx hb dX1_begin_55 rfl (lv_at hl 0 rfl) ?_
  refine lv_iconst (v := 0) hx hb dX1_begin_56 (by decide) ?_
  refine r_iast cx hw 1 rfl (inL (by decide +kernel)) (ws' := [(h0, ob 0 [.int (-1), .int 0, .int 0, .int 0, .int 0, .int 0, .int 0, .ref k0, .ref p0, .ref v0]), (p0, aI G 8 (fun _ => 0)), (v0, ob 1 [.ref w1, .ref w2, .int 0, .int 0])]) (by rw [upd00]; rfl) dX1_begin_57 (fun H locs hw => ?_)
  refine lv_iinc (v := 7) (lv' := [(1, .int 7), (0, .ref h0)]) hx hb dX1_begin_58 hl (k := 0) rfl (by decide +kernel) (by decide) rfl (fun ls hl => ?_)
  refine lv_goto (tgt := 45) hx hb dX1_begin_61 (by decide) ?_
  refine lv_iload_n hx hb dX1_begin_45 rfl (lv_at hl 0 rfl) ?_
  refine lv_bipush (v := 8) hx hb dX1_begin_46 (by decide) ?_
  refine lv_icmp_ge (tgt := 64) hx hb dX1_begin_48 (by decide) (fun c9 => absurd c9 (by decide)) (fun _ => ?_)
  refine lv_aload_n hx hb dX1_begin_51 rfl (lv_at hl 1 rfl) ?_
  refine r_get cx hw inX1 (ci := 0) rfl 0 rfl 8 (by decide) fl_X1_15 rfl dX1_begin_52 ?_
  refine lv_iload_n hx hb dX1_begin_55 rfl (lv_at hl 0 rfl) ?_
  refine lv_iconst (v := 0) hx hb dX1_begin_56 (by decide) ?_
  refine r_iast cx hw 1 rfl (inL (by decide +kernel)) (ws' := [(h0, ob 0 [.int (-1), .int 0, .int 0, .int 0, .int 0, .int 0, .int 0, .ref k0, .ref p0, .ref v0]), (p0, aI G 8 (fun _ => 0)), (v0, ob 1 [.ref w1, .ref w2, .int 0, .int 0])]) (by rw [upd00]; rfl) dX1_begin_57 (fun H locs hw => ?_)
  refine lv_iinc (v := 8) (lv' := [(1, .int 8), (0, .ref h0)]) hx hb dX1_begin_58 hl (k := 0) rfl (by decide +kernel) (by decide) rfl (fun ls hl => ?_)
  refine lv_goto (tgt := 45) hx hb dX1_begin_61 (by decide) ?_
  refine lv_iload_n hx hb dX1_begin_45 rfl (lv_at hl 0 rfl) ?_
  refine lv_bipush (v := 8) hx hb dX1_begin_46 (by decide) ?_
  refine lv_icmp_ge (tgt := 64) hx hb dX1_begin_48 (by decide) (fun _ => ?_) (fun c9 => absurd (by decide) c9)
  have hw : Wd G A [(h0, ob 0 [.int (-1), .int 0, .int 0, .int 0, .int 0, .int 0, .int 0, .ref k0, .ref p0, .ref v0]), (p0, aI G 8 (fun _ => 0)), (v0, ob 1 [.ref w1, .ref w2, .int 0, .int 0])] s.heap _ _ := hw.sub [0, 1, 2] rfl rfl
  exact r_vret cx hr hlk () trivial hw (Nat.le_of_ble_eq_true rfl) (Nat.le_of_ble_eq_true rfl) dX1_begin_64

set_option maxHeartbeats 4000000 in
set_option maxRecDepth 100000 in
theorem c_Out (l : Launch) (G : Gt) (h0 : Nat) : Mt l yX1_init cX1_init 1 none ({ frames := 2, cells := 5, slots := 152, locals := 42 } : Room) G [.ref h0] [(h0, ob 0 [.int 0, .int 0, .int 0, .int 0, .int 0, .int 0, .int 0, .null, .null, .null])] (qV G (fun (w : Nat → Nat) => True) (fun w => [(h0, ob 0 [.int (-1), .int 0, .int 0, .int 0, .int 0, .int 0, .int 0, .ref (w 0), .ref (w 1), .ref (w 2)]), (w 1, aI G 8 (fun _ => 0)), (w 2, ob 1 [.ref (w 3), .ref (w 4), .int 0, .int 0])])) := by
  refine Mt.of (own := RX1) (cc := cX1_init) (by decide) rfl (Nat.le_of_ble_eq_true rfl) ?_
  intro p e s m below meth c A ls cx hr hlk hmn hA hl hw
  have hx := cx.1
  have hb := cx.2.1
  have hl : lv_has ls 1 [(0, .ref h0)] := hl
  refine lv_aload_n hx hb dX1_init_0 rfl (lv_at hl 0 rfl) ?_
  refine r_objInit cx ml_X1_3 hl.1 dX1_init_1 (Nat.le_of_ble_eq_true rfl) (Nat.le_of_ble_eq_true rfl) ?_
  refine lv_aload_n hx hb dX1_init_4 rfl (lv_at hl 0 rfl) ?_
  refine lv_bipush (v := 60) hx hb dX1_init_5 (by decide) ?_
  refine r_newJ cx hw hA (N' := 60) (by decide +kernel) (by decide +kernel) (Nat.le_of_ble_eq_true rfl) (Nat.le_of_ble_eq_true rfl) (Nat.le_of_ble_eq_true rfl) dX1_init_7 (fun q1 H hw => ?_)
  have hw : Wd G A [(h0, ob 0 [.int 0, .int 0, .int 0, .int 0, .int 0, .int 0, .int 0, .null, .null, .null]), (q1, aJ G 60 (fun _ => 0))] s.heap _ _ := hw
  refine r_putF cx hw inX1 (ci := 0) rfl tyX1_ok nmX1 hmn 0 rfl 7 (by decide) fl_X1_11 rfl rfl rfl rfl (Nat.le_of_ble_eq_true rfl) (ws' := [(h0, ob 0 [.int 0, .int 0, .int 0, .int 0, .int 0, .int 0, .int 0, .ref q1, .null, .null]), (q1, aJ G 60 (fun _ => 0))]) rfl dX1_init_9 (fun H locs hw => ?_)
  refine lv_aload_n hx hb dX1_init_12 rfl (lv_at hl 0 rfl) ?_
  refine lv_bipush (v := 8) hx hb dX1_init_13 (by decide) ?_
  refine r_newI cx hw hA (N' := 8) (by decide +kernel) (by decide +kernel) (Nat.le_of_ble_eq_true rfl) (Nat.le_of_ble_eq_true rfl) (Nat.le_of_ble_eq_true rfl) dX1_init_15 (fun q2 H hw => ?_)
  have hw : Wd G A [(h0, ob 0 [.int 0, .int 0, .int 0, .int 0, .int 0, .int 0, .int 0, .ref q1, .null, .null]), (q1, aJ G 60 (fun _ => 0)), (q2, aI G 8 (fun _ => 0))] s.heap _ _ := hw
  refine r_putF cx hw inX1 (ci := 0) rfl tyX1_ok nmX1 hmn 0 rfl 8 (by decide) fl_X1_15 rfl rfl rfl rfl (Nat.le_of_ble_eq_true rfl) (ws' := [(h0, ob 0 [.int 0, .int 0, .int 0, .int 0, .int 0, .int 0, .int 0, .ref q1, .ref q2, .null]), (q1, aJ G 60 (fun _ => 0)), (q2, aI G 8 (fun _ => 0))]) rfl dX1_init_17 (fun H locs hw => ?_)
  refine lv_aload_n hx hb dX1_init_20 rfl (lv_at hl 0 rfl) ?_
  refine r_new cx hw hA inX2 (ci := 1) rfl tyX2_ok cl_X1_19 ia_X2 in_X2 nfX2_ok (Nat.le_of_ble_eq_true rfl) (Nat.le_of_ble_eq_true rfl) dX1_init_21 (fun q3 H hw => ?_)
  have hw : Wd G A [(h0, ob 0 [.int 0, .int 0, .int 0, .int 0, .int 0, .int 0, .int 0, .ref q1, .ref q2, .null]), (q1, aJ G 60 (fun _ => 0)), (q2, aI G 8 (fun _ => 0)), (q3, ob 1 [.null, .null, .int 0, .int 0])] s.heap _ _ := hw
  refine lv_dup hx hb dX1_init_24 rfl ?_
  refine lv_bipush (v := 40) hx hb dX1_init_25 (by decide) ?_
  refine r_callIV (As := [.int 40]) (rest := [.ref q3, .ref h0]) (wr := [(h0, ob 0 [.int 0, .int 0, .int 0, .int 0, .int 0, .int 0, .int 0, .ref q1, .ref q2, .null]), (q1, aJ G 60 (fun _ => 0)), (q2, aI G 8 (fun _ => 0))]) cx hw hA (c_Pat40 l G q3) [3] [0, 1, 2] rfl rfl rfl rfl rfl ml_X1_21 im_X2_init in_X2 co_X2_init rfl hd_X2_init rfl ⟨Nat.le_of_ble_eq_true rfl, Nat.le_of_ble_eq_true rfl⟩ hl.1 rfl (Nat.le_of_ble_eq_true rfl) dX1_init_27 ⟨Nat.le_of_ble_eq_true rfl, Nat.le_of_ble_eq_true rfl⟩ (fun u4 H locs hr5 hw => ?_)
  have hw : Wd G A [(h0, ob 0 [.int 0, .int 0, .int 0, .int 0, .int 0, .int 0, .int 0, .ref q1, .ref q2, .null]), (q1, aJ G 60 (fun _ => 0)), (q2, aI G 8 (fun _ => 0)), (q3, ob 1 [.ref (u4 0), .ref (u4 1), .int 0, .int 0])] s.heap _ _ := hw
  refine r_putF cx hw inX1 (ci := 0) rfl tyX1_ok nmX1 hmn 0 rfl 9 (by decide) fl_X1_24 rfl rfl rfl rfl (Nat.le_of_ble_eq_true rfl) (ws' := [(h0, ob 0 [.int 0, .int 0, .int 0, .int 0, .int 0, .int 0, .int 0, .ref q1, .ref q2, .ref q3]), (q1, aJ G 60 (fun _ => 0)), (q2, aI G 8 (fun _ => 0)), (q3, ob 1 [.ref (u4 0), .ref (u4 1), .int 0, .int 0])]) rfl dX1_init_30 (fun H locs hw => ?_)
  refine lv_aload_n hx hb dX1_init_33 rfl (lv_at hl 0 rfl) ?_
  refine r_callVV (As := []) (rest := []) (wr := [(q1, aJ G 60 (fun _ => 0))]) cx hw hA (c_Obegin l G h0 q1 q2 q3 (u4 0) (u4 1) 0 0 0 0 0 0 0 0 0) [0, 2, 3] [1] rfl rfl rfl rfl rfl 0 rfl (ci := 0) rfl ml_X1_28 im_X1_begin se_X1_begin in_X1 co_X1_begin rfl hd_X1_begin rfl ⟨Nat.le_of_ble_eq_true rfl, Nat.le_of_ble_eq_true rfl⟩ hl.1 rfl (Nat.le_of_ble_eq_true rfl) dX1_init_34 ⟨Nat.le_of_ble_eq_true rfl, Nat.le_of_ble_eq_true rfl⟩ (fun u6 H locs hr7 hw => ?_)
  have hw : Wd G A [(q1, aJ G 60 (fun _ => 0)), (h0, ob 0 [.int (-1), .int 0, .int 0, .int 0, .int 0, .int 0, .int 0, .ref q1, .ref q2, .ref q3]), (q2, aI G 8 (fun _ => 0)), (q3, ob 1 [.ref (u4 0), .ref (u4 1), .int 0, .int 0])] s.heap _ _ := hw
  have hw : Wd G A [(h0, ob 0 [.int (-1), .int 0, .int 0, .int 0, .int 0, .int 0, .int 0, .ref q1, .ref q2, .ref q3]), (q2, aI G 8 (fun _ => 0)), (q3, ob 1 [.ref (u4 0), .ref (u4 1), .int 0, .int 0])] s.heap _ _ := hw.sub [1, 2, 3] rfl rfl
  exact r_vret cx hr hlk (fun k => [q1, q2, q3, (u4 0), (u4 1)].getD k 0) trivial hw (Nat.le_of_ble_eq_true rfl) (Nat.le_of_ble_eq_true rfl) dX1_init_37

/-- Numbers.make: the kind above, the bits below -/
def x_make (k b : Int32) : Int64 := (k.toInt64 <<< ((32 : Int32).toInt64 &&& 63)) ||| (b.toInt64 &&& 4294967295)

set_option maxHeartbeats 4000000 in
set_option maxRecDepth 100000 in
theorem c_make (l : Launch) (G : Gt) (k : Int32) (b : Int32) : Mt l yX0_make cX0_make 2 (some .long) ({ frames := 0, cells := 0, slots := 0, locals := 0 } : Room) G [.int k, .int b] [] (qL G (fun (r : Int64) (w : Unit) => r = x_make k b) (fun w => [])) := by
  refine Mt.of (own := RX0) (cc := cX0_make) (by decide) rfl (Nat.le_of_ble_eq_true rfl) ?_
  intro p e s m below meth c A ls cx hr hlk hmn hA hl hw
  have hx := cx.1
  have hb := cx.2.1
  have hl : lv_has ls 2 [(0, .int k), (1, .int b)] := hl
  refine lv_iload_n hx hb dX0_make_0 rfl (lv_at hl 0 rfl) ?_
  refine lv_i2l hx hb dX0_make_1 rfl ?_
  refine lv_topl (fun v1 ev1 => ?_)
  refine lv_bipush (v := 32) hx hb dX0_make_2 (by decide) ?_
  refine lv_lshl hx hb dX0_make_4 rfl ?_
  refine lv_topl (fun v2 ev2 => ?_)
  refine lv_iload_n hx hb dX0_make_5 rfl (lv_at hl 1 rfl) ?_
  refine lv_i2l hx hb dX0_make_6 rfl ?_
  refine lv_topl (fun v3 ev3 => ?_)
  refine lv_ldc2 hx hb cx.2.2.2.1 (cx.2.2.2.2.1 _ cs_X0_7) dX0_make_7 ?_
  refine lv_land hx hb dX0_make_10 ?_
  refine lv_topl (fun v4 ev4 => ?_)
  refine lv_lor hx hb dX0_make_11 ?_
  refine lv_topl (fun v5 ev5 => ?_)
  have hw : Wd G A [] s.heap _ _ := hw.sub [] rfl rfl
  exact r_lret cx hr hlk () (by subst_vars; rfl) hw (Nat.le_of_ble_eq_true rfl) (Nat.le_of_ble_eq_true rfl) dX0_make_12

set_option maxHeartbeats 4000000 in
set_option maxRecDepth 100000 in
theorem c_Worker (l : Launch) (G : Gt) (h0 : Nat) (a1 : Nat) (a2 : Nat) (a3 : Nat) : Mt l yX10_init cX10_init 5 none ({ frames := 2, cells := 10, slots := 1864, locals := 33 } : Room) G [.ref h0, .ref a1, .ref a2, .ref a3] [(h0, ob 9 [.int 0, .int 0, .int 0, .null, .null, .null, .int 0, .int 0, .int 0, .int 0, .null, .null, .int 0, .int 0, .null, .null, .null, .null])] (qV G (fun (w : Nat → Nat) => True) (fun w => [(h0, ob 9 [.int 6, .int 3, .int 120, .ref a1, .ref a2, .ref a3, .int 0, .int 0, .int 0, .int 0, .ref (w 0), .ref (w 1), .int 0, .int 0, .ref (w 2), .ref (w 3), .ref (w 4), .ref (w 5)])])) := by
  refine Mt.of (own := RX10) (cc := cX10_init) (by decide) rfl (Nat.le_of_ble_eq_true rfl) ?_
  intro p e s m below meth c A ls cx hr hlk hmn hA hl hw
  have hx := cx.1
  have hb := cx.2.1
  have hl : lv_has ls 5 [(0, .ref h0), (1, .ref a1), (2, .ref a2), (3, .ref a3)] := hl
  refine lv_aload_n hx hb dX10_init_0 rfl (lv_at hl 0 rfl) ?_
  refine r_objInit cx ml_X10_5 hl.1 dX10_init_1 (Nat.le_of_ble_eq_true rfl) (Nat.le_of_ble_eq_true rfl) ?_
  refine lv_aload_n hx hb dX10_init_4 rfl (lv_at hl 0 rfl) ?_
  refine lv_bipush (v := 6) hx hb dX10_init_5 (by decide) ?_
  refine r_put cx hw inX10 (ci := 9) rfl tyX10_ok nmX10 0 rfl 0 (by decide) fl_X10_11 rfl rfl rfl (Nat.le_of_ble_eq_true rfl) (ws' := [(h0, ob 9 [.int 6, .int 0, .int 0, .null, .null, .null, .int 0, .int 0, .int 0, .int 0, .null, .null, .int 0, .int 0, .null, .null, .null, .null])]) rfl dX10_init_7 (fun H locs hw => ?_)
  refine lv_aload_n hx hb dX10_init_10 rfl (lv_at hl 0 rfl) ?_
  refine lv_iconst (v := 3) hx hb dX10_init_11 (by decide) ?_
  refine r_put cx hw inX10 (ci := 9) rfl tyX10_ok nmX10 0 rfl 1 (by decide) fl_X10_15 rfl rfl rfl (Nat.le_of_ble_eq_true rfl) (ws' := [(h0, ob 9 [.int 6, .int 3, .int 0, .null, .null, .null, .int 0, .int 0, .int 0, .int 0, .null, .null, .int 0, .int 0, .null, .null, .null, .null])]) rfl dX10_init_12 (fun H locs hw => ?_)
  refine lv_aload_n hx hb dX10_init_15 rfl (lv_at hl 0 rfl) ?_
  refine lv_bipush (v := 120) hx hb dX10_init_16 (by decide) ?_
  refine r_put cx hw inX10 (ci := 9) rfl tyX10_ok nmX10 0 rfl 2 (by decide) fl_X10_18 rfl rfl rfl (Nat.le_of_ble_eq_true rfl) (ws' := [(h0, ob 9 [.int 6, .int 3, .int 120, .null, .null, .null, .int 0, .int 0, .int 0, .int 0, .null, .null, .int 0, .int 0, .null, .null, .null, .null])]) rfl dX10_init_18 (fun H locs hw => ?_)
  refine lv_aload_n hx hb dX10_init_21 rfl (lv_at hl 0 rfl) ?_
  refine lv_aload_n hx hb dX10_init_22 rfl (lv_at hl 1 rfl) ?_
  refine r_putF cx hw inX10 (ci := 9) rfl tyX10_ok nmX10 hmn 0 rfl 3 (by decide) fl_X10_21 rfl rfl rfl rfl (Nat.le_of_ble_eq_true rfl) (ws' := [(h0, ob 9 [.int 6, .int 3, .int 120, .ref a1, .null, .null, .int 0, .int 0, .int 0, .int 0, .null, .null, .int 0, .int 0, .null, .null, .null, .null])]) rfl dX10_init_23 (fun H locs hw => ?_)
  refine lv_aload_n hx hb dX10_init_26 rfl (lv_at hl 0 rfl) ?_
  refine lv_aload_n hx hb dX10_init_27 rfl (lv_at hl 2 rfl) ?_
  refine r_putF cx hw inX10 (ci := 9) rfl tyX10_ok nmX10 hmn 0 rfl 4 (by decide) fl_X10_25 rfl rfl rfl rfl (Nat.le_of_ble_eq_true rfl) (ws' := [(h0, ob 9 [.int 6, .int 3, .int 120, .ref a1, .ref a2, .null, .int 0, .int 0, .int 0, .int 0, .null, .null, .int 0, .int 0, .null, .null, .null, .null])]) rfl dX10_init_28 (fun H locs hw => ?_)
  refine lv_aload_n hx hb dX10_init_31 rfl (lv_at hl 0 rfl) ?_
  refine lv_aload_n hx hb dX10_init_32 rfl (lv_at hl 3 rfl) ?_
  refine r_put cx hw inX10 (ci := 9) rfl tyX10_ok nmX10 0 rfl 5 (by decide) fl_X10_29 rfl rfl rfl (Nat.le_of_ble_eq_true rfl) (ws' := [(h0, ob 9 [.int 6, .int 3, .int 120, .ref a1, .ref a2, .ref a3, .int 0, .int 0, .int 0, .int 0, .null, .null, .int 0, .int 0, .null, .null, .null, .null])]) rfl dX10_init_33 (fun H locs hw => ?_)
  refine lv_aload_n hx hb dX10_init_36 rfl (lv_at hl 0 rfl) ?_
  refine lv_sipush (v := 780) hx hb dX10_init_37 (by decide) ?_
  refine r_newI cx hw hA (N' := 780) (by decide +kernel) (by decide +kernel) (Nat.le_of_ble_eq_true rfl) (Nat.le_of_ble_eq_true rfl) (Nat.le_of_ble_eq_true rfl) dX10_init_40 (fun q1 H hw => ?_)
  have hw : Wd G A [(h0, ob 9 [.int 6, .int 3, .int 120, .ref a1, .ref a2, .ref a3, .int 0, .int 0, .int 0, .int 0, .null, .null, .int 0, .int 0, .null, .null, .null, .null]), (q1, aI G 780 (fun _ => 0))] s.heap _ _ := hw
  refine r_putF cx hw inX10 (ci := 9) rfl tyX10_ok nmX10 hmn 0 rfl 10 (by decide) fl_X10_33 rfl rfl rfl rfl (Nat.le_of_ble_eq_true rfl) (ws' := [(h0, ob 9 [.int 6, .int 3, .int 120, .ref a1, .ref a2, .ref a3, .int 0, .int 0, .int 0, .int 0, .ref q1, .null, .int 0, .int 0, .null, .null, .null, .null]), (q1, aI G 780 (fun _ => 0))]) rfl dX10_init_42 (fun H locs hw => ?_)
  refine lv_aload_n hx hb dX10_init_45 rfl (lv_at hl 0 rfl) ?_
  refine lv_sipush (v := 260) hx hb dX10_init_46 (by decide) ?_
  refine r_newJ cx hw hA (N' := 260) (by decide +kernel) (by decide +kernel) (Nat.le_of_ble_eq_true rfl) (Nat.le_of_ble_eq_true rfl) (Nat.le_of_ble_eq_true rfl) dX10_init_49 (fun q2 H hw => ?_)
  have hw : Wd G A [(h0, ob 9 [.int 6, .int 3, .int 120, .ref a1, .ref a2, .ref a3, .int 0, .int 0, .int 0, .int 0, .ref q1, .null, .int 0, .int 0, .null, .null, .null, .null]), (q1, aI G 780 (fun _ => 0)), (q2, aJ G 260 (fun _ => 0))] s.heap _ _ := hw
  refine r_putF cx hw inX10 (ci := 9) rfl tyX10_ok nmX10 hmn 0 rfl 11 (by decide) fl_X10_37 rfl rfl rfl rfl (Nat.le_of_ble_eq_true rfl) (ws' := [(h0, ob 9 [.int 6, .int 3, .int 120, .ref a1, .ref a2, .ref a3, .int 0, .int 0, .int 0, .int 0, .ref q1, .ref q2, .int 0, .int 0, .null, .null, .null, .null]), (q1, aI G 780 (fun _ => 0)), (q2, aJ G 260 (fun _ => 0))]) rfl dX10_init_51 (fun H locs hw => ?_)
  refine lv_aload_n hx hb dX10_init_54 rfl (lv_at hl 0 rfl) ?_
  refine r_new cx hw hA inX2 (ci := 1) rfl tyX2_ok cl_X10_41 ia_X2 in_X2 nfX2_ok (Nat.le_of_ble_eq_true rfl) (Nat.le_of_ble_eq_true rfl) dX10_init_55 (fun q3 H hw => ?_)
  have hw : Wd G A [(h0, ob 9 [.int 6, .int 3, .int 120, .ref a1, .ref a2, .ref a3, .int 0, .int 0, .int 0, .int 0, .ref q1, .ref q2, .int 0, .int 0, .null, .null, .null, .null]), (q1, aI G 780 (fun _ => 0)), (q2, aJ G 260 (fun _ => 0)), (q3, ob 1 [.null, .null, .int 0, .int 0])] s.heap _ _ := hw
  refine lv_dup hx hb dX10_init_58 rfl ?_
  refine lv_sipush (v := 200) hx hb dX10_init_59 (by decide) ?_
  refine r_callIV (As := [.int 200]) (rest := [.ref q3, .ref h0]) (wr := [(h0, ob 9 [.int 6, .int 3, .int 120, .ref a1, .ref a2, .ref a3, .int 0, .int 0, .int 0, .int 0, .ref q1, .ref q2, .int 0, .int 0, .null, .null, .null, .null]), (q1, aI G 780 (fun _ => 0)), (q2, aJ G 260 (fun _ => 0))]) cx hw hA (c_Pat200 l G q3) [3] [0, 1, 2] rfl rfl rfl rfl rfl ml_X10_43 im_X2_init in_X2 co_X2_init rfl hd_X2_init rfl ⟨Nat.le_of_ble_eq_true rfl, Nat.le_of_ble_eq_true rfl⟩ hl.1 rfl (Nat.le_of_ble_eq_true rfl) dX10_init_62 ⟨Nat.le_of_ble_eq_true rfl, Nat.le_of_ble_eq_true rfl⟩ (fun u4 H locs hr5 hw => ?_)
  have hw : Wd G A [(h0, ob 9 [.int 6, .int 3, .int 120, .ref a1, .ref a2, .ref a3, .int 0, .int 0, .int 0, .int 0, .ref q1, .ref q2, .int 0, .int 0, .null, .null, .null, .null]), (q1, aI G 780 (fun _ => 0)), (q2, aJ G 260 (fun _ => 0)), (q3, ob 1 [.ref (u4 0), .ref (u4 1), .int 0, .int 0])] s.heap _ _ := hw
  refine r_put cx hw inX10 (ci := 9) rfl tyX10_ok nmX10 0 rfl 14 (by decide) fl_X10_46 rfl rfl rfl (Nat.le_of_ble_eq_true rfl) (ws' := [(h0, ob 9 [.int 6, .int 3, .int 120, .ref a1, .ref a2, .ref a3, .int 0, .int 0, .int 0, .int 0, .ref q1, .ref q2, .int 0, .int 0, .ref q3, .null, .null, .null]), (q1, aI G 780 (fun _ => 0)), (q2, aJ G 260 (fun _ => 0)), (q3, ob 1 [.ref (u4 0), .ref (u4 1), .int 0, .int 0])]) rfl dX10_init_65 (fun H locs hw => ?_)
  refine lv_aload_n hx hb dX10_init_68 rfl (lv_at hl 0 rfl) ?_
  refine r_new cx hw hA inX2 (ci := 1) rfl tyX2_ok cl_X10_41 ia_X2 in_X2 nfX2_ok (Nat.le_of_ble_eq_true rfl) (Nat.le_of_ble_eq_true rfl) dX10_init_69 (fun q6 H hw => ?_)
  have hw : Wd G A [(h0, ob 9 [.int 6, .int 3, .int 120, .ref a1, .ref a2, .ref a3, .int 0, .int 0, .int 0, .int 0, .ref q1, .ref q2, .int 0, .int 0, .ref q3, .null, .null, .null]), (q1, aI G 780 (fun _ => 0)), (q2, aJ G 260 (fun _ => 0)), (q3, ob 1 [.ref (u4 0), .ref (u4 1), .int 0, .int 0]), (q6, ob 1 [.null, .null, .int 0, .int 0])] s.heap _ _ := hw
  refine lv_dup hx hb dX10_init_72 rfl ?_
  refine lv_sipush (v := 200) hx hb dX10_init_73 (by decide) ?_
  refine r_callIV (As := [.int 200]) (rest := [.ref q6, .ref h0]) (wr := [(h0, ob 9 [.int 6, .int 3, .int 120, .ref a1, .ref a2, .ref a3, .int 0, .int 0, .int 0, .int 0, .ref q1, .ref q2, .int 0, .int 0, .ref q3, .null, .null, .null]), (q1, aI G 780 (fun _ => 0)), (q2, aJ G 260 (fun _ => 0)), (q3, ob 1 [.ref (u4 0), .ref (u4 1), .int 0, .int 0])]) cx hw hA (c_Pat200 l G q6) [4] [0, 1, 2, 3] rfl rfl rfl rfl rfl ml_X10_43 im_X2_init in_X2 co_X2_init rfl hd_X2_init rfl ⟨Nat.le_of_ble_eq_true rfl, Nat.le_of_ble_eq_true rfl⟩ hl.1 rfl (Nat.le_of_ble_eq_true rfl) dX10_init_76 ⟨Nat.le_of_ble_eq_true rfl, Nat.le_of_ble_eq_true rfl⟩ (fun u7 H locs hr8 hw => ?_)
  have hw : Wd G A [(h0, ob 9 [.int 6, .int 3, .int 120, .ref a1, .ref a2, .ref a3, .int 0, .int 0, .int 0, .int 0, .ref q1, .ref q2, .int 0, .int 0, .ref q3, .null, .null, .null]), (q1, aI G 780 (fun _ => 0)), (q2, aJ G 260 (fun _ => 0)), (q3, ob 1 [.ref (u4 0), .ref (u4 1), .int 0, .int 0]), (q6, ob 1 [.ref (u7 0), .ref (u7 1), .int 0, .int 0])] s.heap _ _ := hw
  refine r_put cx hw inX10 (ci := 9) rfl tyX10_ok nmX10 0 rfl 15 (by decide) fl_X10_50 rfl rfl rfl (Nat.le_of_ble_eq_true rfl) (ws' := [(h0, ob 9 [.int 6, .int 3, .int 120, .ref a1, .ref a2, .ref a3, .int 0, .int 0, .int 0, .int 0, .ref q1, .ref q2, .int 0, .int 0, .ref q3, .ref q6, .null, .null]), (q1, aI G 780 (fun _ => 0)), (q2, aJ G 260 (fun _ => 0)), (q3, ob 1 [.ref (u4 0), .ref (u4 1), .int 0, .int 0]), (q6, ob 1 [.ref (u7 0), .ref (u7 1), .int 0, .int 0])]) rfl dX10_init_79 (fun H locs hw => ?_)
  refine lv_aload_n hx hb dX10_init_82 rfl (lv_at hl 0 rfl) ?_
  refine lv_bipush (v := 8) hx hb dX10_init_83 (by decide) ?_
  refine r_newJ cx hw hA (N' := 8) (by decide +kernel) (by decide +kernel) (Nat.le_of_ble_eq_true rfl) (Nat.le_of_ble_eq_true rfl) (Nat.le_of_ble_eq_true rfl) dX10_init_85 (fun q9 H hw => ?_)
  have hw : Wd G A [(h0, ob 9 [.int 6, .int 3, .int 120, .ref a1, .ref a2, .ref a3, .int 0, .int 0, .int 0, .int 0, .ref q1, .ref q2, .int 0, .int 0, .ref q3, .ref q6, .null, .null]), (q1, aI G 780 (fun _ => 0)), (q2, aJ G 260 (fun _ => 0)), (q3, ob 1 [.ref (u4 0), .ref (u4 1), .int 0, .int 0]), (q6, ob 1 [.ref (u7 0), .ref (u7 1), .int 0, .int 0]), (q9, aJ G 8 (fun _ => 0))] s.heap _ _ := hw
  refine r_putF cx hw inX10 (ci := 9) rfl tyX10_ok nmX10 hmn 0 rfl 16 (by decide) fl_X10_55 rfl rfl rfl rfl (Nat.le_of_ble_eq_true rfl) (ws' := [(h0, ob 9 [.int 6, .int 3, .int 120, .ref a1, .ref a2, .ref a3, .int 0, .int 0, .int 0, .int 0, .ref q1, .ref q2, .int 0, .int 0, .ref q3, .ref q6, .ref q9, .null]), (q1, aI G 780 (fun _ => 0)), (q2, aJ G 260 (fun _ => 0)), (q3, ob 1 [.ref (u4 0), .ref (u4 1), .int 0, .int 0]), (q6, ob 1 [.ref (u7 0), .ref (u7 1), .int 0, .int 0]), (q9, aJ G 8 (fun _ => 0))]) rfl dX10_init_87 (fun H locs hw => ?_)
  refine lv_aload_n hx hb dX10_init_90 rfl (lv_at hl 0 rfl) ?_
  refine lv_bipush (v := 8) hx hb dX10_init_91 (by decide) ?_
  refine r_newJ cx hw hA (N' := 8) (by decide +kernel) (by decide +kernel) (Nat.le_of_ble_eq_true rfl) (Nat.le_of_ble_eq_true rfl) (Nat.le_of_ble_eq_true rfl) dX10_init_93 (fun q10 H hw => ?_)
  have hw : Wd G A [(h0, ob 9 [.int 6, .int 3, .int 120, .ref a1, .ref a2, .ref a3, .int 0, .int 0, .int 0, .int 0, .ref q1, .ref q2, .int 0, .int 0, .ref q3, .ref q6, .ref q9, .null]), (q1, aI G 780 (fun _ => 0)), (q2, aJ G 260 (fun _ => 0)), (q3, ob 1 [.ref (u4 0), .ref (u4 1), .int 0, .int 0]), (q6, ob 1 [.ref (u7 0), .ref (u7 1), .int 0, .int 0]), (q9, aJ G 8 (fun _ => 0)), (q10, aJ G 8 (fun _ => 0))] s.heap _ _ := hw
  refine r_putF cx hw inX10 (ci := 9) rfl tyX10_ok nmX10 hmn 0 rfl 17 (by decide) fl_X10_58 rfl rfl rfl rfl (Nat.le_of_ble_eq_true rfl) (ws' := [(h0, ob 9 [.int 6, .int 3, .int 120, .ref a1, .ref a2, .ref a3, .int 0, .int 0, .int 0, .int 0, .ref q1, .ref q2, .int 0, .int 0, .ref q3, .ref q6, .ref q9, .ref q10]), (q1, aI G 780 (fun _ => 0)), (q2, aJ G 260 (fun _ => 0)), (q3, ob 1 [.ref (u4 0), .ref (u4 1), .int 0, .int 0]), (q6, ob 1 [.ref (u7 0), .ref (u7 1), .int 0, .int 0]), (q9, aJ G 8 (fun _ => 0)), (q10, aJ G 8 (fun _ => 0))]) rfl dX10_init_95 (fun H locs hw => ?_)
  refine lv_iconst (v := 0) hx hb dX10_init_98 (by decide) ?_
  refine lv_istore (lv' := [(4, .int 0), (0, .ref h0), (1, .ref a1), (2, .ref a2), (3, .ref a3)]) hx hb dX10_init_99 hl (by decide) rfl (fun ls hl => ?_)
  refine r_loop (N := 8) (fun k H locs ls => lv_has ls 5 [(4, .int (nI k)), (0, .ref h0), (1, .ref a1), (2, .ref a2), (3, .ref a3)] ∧ ∃ v901 : Nat → Int64, Wd G A [(h0, ob 9 [.int 6, .int 3, .int 120, .ref a1, .ref a2, .ref a3, .int 0, .int 0, .int 0, .int 0, .ref q1, .ref q2, .int 0, .int 0, .ref q3, .ref q6, .ref q9, .ref q10]), (q1, aI G 780 (fun _ => 0)), (q2, aJ G 260 (fun _ => 0)), (q3, ob 1 [.ref (u4 0), .ref (u4 1), .int 0, .int 0]), (q6, ob 1 [.ref (u7 0), .ref (u7 1), .int 0, .int 0]), (q9, aJ G 8 (v901)), (q10, aJ G 8 (fun _ => 0))] s.heap H locs) ?_ ?_ 0 (Nat.zero_le _) _ _ _ ⟨lv_sub hl [0, 1, 2, 3, 4] rfl, _, hw⟩
  · intro H locs ls h9
    obtain ⟨hl, v901, hw⟩ := h9
    have hl : lv_has ls 5 [(4, .int 8), (0, .ref h0), (1, .ref a1), (2, .ref a2), (3, .ref a3)] := hl
    have hw : Wd G A [(h0, ob 9 [.int 6, .int 3, .int 120, .ref a1, .ref a2, .ref a3, .int 0, .int 0, .int 0, .int 0, .ref q1, .ref q2, .int 0, .int 0, .ref q3, .ref q6, .ref q9, .ref q10]), (q1, aI G 780 (fun _ => 0)), (q2, aJ G 260 (fun _ => 0)), (q3, ob 1 [.ref (u4 0), .ref (u4 1), .int 0, .int 0]), (q6, ob 1 [.ref (u7 0), .ref (u7 1), .int 0, .int 0]), (q9, aJ G 8 (v901)), (q10, aJ G 8 (fun _ => 0))] s.heap _ _ := hw
    refine lv_iload hx hb dX10_init_101 (lv_at hl 0 rfl) ?_
    refine lv_bipush (v := 8) hx hb dX10_init_103 (by decide) ?_
    refine lv_icmp_ge (tgt := 127) hx hb dX10_init_105 (by decide) (fun _ => ?_) (fun c9 => absurd (by decide) c9)
    have hw : Wd G A [(h0, ob 9 [.int 6, .int 3, .int 120, .ref a1, .ref a2, .ref a3, .int 0, .int 0, .int 0, .int 0, .ref q1, .ref q2, .int 0, .int 0, .ref q3, .ref q6, .ref q9, .ref q10])] s.heap _ _ := hw.sub [0] rfl rfl
    exact r_vret cx hr hlk (fun k => [q1, q2, q3, q6, q9, q10].getD k 0) trivial hw (Nat.le_of_ble_eq_true rfl) (Nat.le_of_ble_eq_true rfl) dX10_init_127
  · intro k H locs ls hk h9 ih
    obtain ⟨hl, v901, hw⟩ := h9
    refine lv_iload hx hb dX10_init_101 (lv_at hl 0 rfl) ?_
    refine lv_bipush (v := 8) hx hb dX10_init_103 (by decide) ?_
    refine lv_icmp_ge (tgt := 127) hx hb dX10_init_105 (by decide) (fun c9 => absurd c9 (nI_ge hk (by decide))) (fun _ => ?_)
    refine lv_aload_n hx hb dX10_init_108 rfl (lv_at hl 1 rfl) ?_
    refine r_get cx hw inX10 (ci := 9) rfl 0 rfl 16 (by decide) fl_X10_55 rfl dX10_init_109 ?_
    refine lv_iload hx hb dX10_init_112 (lv_at hl 0 rfl) ?_
    refine lv_iconst (v := 3) hx hb dX10_init_114 (by decide) ?_
    refine lv_iload hx hb dX10_init_115 (lv_at hl 0 rfl) ?_
    refine r_callS0L (As := [.int 3, .int (nI k)]) (rest := [.int (nI k), .ref q9]) cx hw hA (c_make l G 3 (nI k)) ml_X10_63 st_X0_make in_X0 co_X0_make hd_X0_make rfl ⟨Nat.le_of_ble_eq_true rfl, Nat.le_of_ble_eq_true rfl⟩ hl.1 rfl (Nat.le_of_ble_eq_true rfl) dX10_init_117 ⟨Nat.le_of_ble_eq_true rfl, Nat.le_of_ble_eq_true rfl⟩ (fun r13 H locs hr13 hw => ?_)
    refine r_last cx hw 5 rfl (vp_in_nI hk (by decide)) (ws' := [(h0, ob 9 [.int 6, .int 3, .int 120, .ref a1, .ref a2, .ref a3, .int 0, .int 0, .int 0, .int 0, .ref q1, .ref q2, .int 0, .int 0, .ref q3, .ref q6, .ref q9, .ref q10]), (q1, aI G 780 (fun _ => 0)), (q2, aJ G 260 (fun _ => 0)), (q3, ob 1 [.ref (u4 0), .ref (u4 1), .int 0, .int 0]), (q6, ob 1 [.ref (u7 0), .ref (u7 1), .int 0, .int 0]), (q9, aJ G 8 (vp_updL (v901) ((nI k)).toNatClampNeg r13)), (q10, aJ G 8 (fun _ => 0))]) rfl dX10_init_120 (fun H locs hw => ?_)
    refine lv_iinc (v := nI (k + 1)) (lv' := [(4, .int (nI (k + 1))), (0, .ref h0), (1, .ref a1), (2, .ref a2), (3, .ref a3)]) hx hb dX10_init_121 hl (k := 0) rfl (nI_1 k) (by decide) rfl (fun ls hl => ?_)
    refine lv_goto (tgt := 101) hx hb dX10_init_124 (by decide) ?_
    exact ih H locs ls ⟨lv_sub hl [0, 1, 2, 3, 4] rfl, _, hw.sub [0, 1, 2, 3, 4, 5, 6] rfl rfl⟩
