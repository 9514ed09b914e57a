set_option maxHeartbeats 4000000 in
set_option maxRecDepth 100000 in
theorem c_Pat30 (l : Launch) (G : Gt) (h0 : Nat) : Mt l yX2_init cX2_init 2 none ({ frames := 1, cells := 2, slots := 60, locals := 12 } : Room) G [.ref h0, .int 30] [(h0, ob 1 [.null, .null, .int 0, .int 0])] (qV G (fun (u : Nat → Nat) => True) (fun u => [(h0, ob 1 [.ref (u 0), .ref (u 1), .int 0, .int 0])])) := by
  refine Mt.of (own := RX2) (cc := cX2_init) (by decide) rfl (Nat.le_of_ble_eq_true rfl) ?_
  intro p e s m below meth c A ls cx hr hlk hmn hA hl hw
  have hx := cx.1
  have hb := cx.2.1
  have hl : lv_has ls 2 [(0, .ref h0), (1, .int 30)] := hl
  refine lv_aload_n hx hb dX2_init_0 rfl (lv_at hl 0 rfl) ?_
  refine r_objInit cx ml_X2_3 hl.1 dX2_init_1 (Nat.le_of_ble_eq_true rfl) (Nat.le_of_ble_eq_true rfl) ?_
  refine lv_aload_n hx hb dX2_init_4 rfl (lv_at hl 0 rfl) ?_
  refine lv_iload_n hx hb dX2_init_5 rfl (lv_at hl 1 rfl) ?_
  refine r_newJ cx hw hA (N' := 30) (by decide +kernel) (by decide +kernel) (Nat.le_of_ble_eq_true rfl) (Nat.le_of_ble_eq_true rfl) (Nat.le_of_ble_eq_true rfl) dX2_init_6 (fun q1 H hw => ?_)
  have hw : Wd G A [(h0, ob 1 [.null, .null, .int 0, .int 0]), (q1, aJ G 30 (fun _ => 0))] s.heap _ _ := hw
  refine r_putF cx hw inX2 (ci := 1) rfl tyX2_ok nmX2 hmn 0 rfl 0 (by decide) fl_X2_9 rfl rfl rfl rfl (Nat.le_of_ble_eq_true rfl) (ws' := [(h0, ob 1 [.ref q1, .null, .int 0, .int 0]), (q1, aJ G 30 (fun _ => 0))]) rfl dX2_init_8 (fun H locs hw => ?_)
  refine lv_aload_n hx hb dX2_init_11 rfl (lv_at hl 0 rfl) ?_
  refine lv_iload_n hx hb dX2_init_12 rfl (lv_at hl 1 rfl) ?_
  refine r_newJ cx hw hA (N' := 30) (by decide +kernel) (by decide +kernel) (Nat.le_of_ble_eq_true rfl) (Nat.le_of_ble_eq_true rfl) (Nat.le_of_ble_eq_true rfl) dX2_init_13 (fun q2 H hw => ?_)
  have hw : Wd G A [(h0, ob 1 [.ref q1, .null, .int 0, .int 0]), (q1, aJ G 30 (fun _ => 0)), (q2, aJ G 30 (fun _ => 0))] s.heap _ _ := hw
  refine r_putF cx hw inX2 (ci := 1) rfl tyX2_ok nmX2 hmn 0 rfl 1 (by decide) fl_X2_15 rfl rfl rfl rfl (Nat.le_of_ble_eq_true rfl) (ws' := [(h0, ob 1 [.ref q1, .ref q2, .int 0, .int 0]), (q1, aJ G 30 (fun _ => 0)), (q2, aJ G 30 (fun _ => 0))]) rfl dX2_init_15 (fun H locs hw => ?_)
  refine lv_aload_n hx hb dX2_init_18 rfl (lv_at hl 0 rfl) ?_
  refine lv_iconst (v := 0) hx hb dX2_init_19 (by decide) ?_
  refine r_put cx hw inX2 (ci := 1) rfl tyX2_ok nmX2 0 rfl 2 (by decide) fl_X2_18 rfl rfl rfl (Nat.le_of_ble_eq_true rfl) (ws' := [(h0, ob 1 [.ref q1, .ref q2, .int 0, .int 0]), (q1, aJ G 30 (fun _ => 0)), (q2, aJ G 30 (fun _ => 0))]) rfl dX2_init_20 (fun H locs hw => ?_)
  refine lv_aload_n hx hb dX2_init_23 rfl (lv_at hl 0 rfl) ?_
  refine lv_iconst (v := 0) hx hb dX2_init_24 (by decide) ?_
  refine r_put cx hw inX2 (ci := 1) rfl tyX2_ok nmX2 0 rfl 3 (by decide) fl_X2_22 rfl rfl rfl (Nat.le_of_ble_eq_true rfl) (ws' := [(h0, ob 1 [.ref q1, .ref q2, .int 0, .int 0]), (q1, aJ G 30 (fun _ => 0)), (q2, aJ G 30 (fun _ => 0))]) rfl dX2_init_25 (fun H locs hw => ?_)
  have hw : Wd G A [(h0, ob 1 [.ref q1, .ref q2, .int 0, .int 0])] s.heap _ _ := hw.sub [0] rfl rfl
  exact r_vret cx hr hlk (fun k => [q1, q2].getD k 0) trivial hw (Nat.le_of_ble_eq_true rfl) (Nat.le_of_ble_eq_true rfl) dX2_init_28

set_option maxHeartbeats 4000000 in
set_option maxRecDepth 100000 in
theorem c_Pat40 (l : Launch) (G : Gt) (h0 : Nat) : Mt l yX2_init cX2_init 2 none ({ frames := 1, cells := 2, slots := 80, locals := 12 } : Room) G [.ref h0, .int 40] [(h0, ob 1 [.null, .null, .int 0, .int 0])] (qV G (fun (u : Nat → Nat) => True) (fun u => [(h0, ob 1 [.ref (u 0), .ref (u 1), .int 0, .int 0])])) := by
  refine Mt.of (own := RX2) (cc := cX2_init) (by decide) rfl (Nat.le_of_ble_eq_true rfl) ?_
  intro p e s m below meth c A ls cx hr hlk hmn hA hl hw
  have hx := cx.1
  have hb := cx.2.1
  have hl : lv_has ls 2 [(0, .ref h0), (1, .int 40)] := hl
  refine lv_aload_n hx hb dX2_init_0 rfl (lv_at hl 0 rfl) ?_
  refine r_objInit cx ml_X2_3 hl.1 dX2_init_1 (Nat.le_of_ble_eq_true rfl) (Nat.le_of_ble_eq_true rfl) ?_
  refine lv_aload_n hx hb dX2_init_4 rfl (lv_at hl 0 rfl) ?_
  refine lv_iload_n hx hb dX2_init_5 rfl (lv_at hl 1 rfl) ?_
  refine r_newJ cx hw hA (N' := 40) (by decide +kernel) (by decide +kernel) (Nat.le_of_ble_eq_true rfl) (Nat.le_of_ble_eq_true rfl) (Nat.le_of_ble_eq_true rfl) dX2_init_6 (fun q1 H hw => ?_)
  have hw : Wd G A [(h0, ob 1 [.null, .null, .int 0, .int 0]), (q1, aJ G 40 (fun _ => 0))] s.heap _ _ := hw
  refine r_putF cx hw inX2 (ci := 1) rfl tyX2_ok nmX2 hmn 0 rfl 0 (by decide) fl_X2_9 rfl rfl rfl rfl (Nat.le_of_ble_eq_true rfl) (ws' := [(h0, ob 1 [.ref q1, .null, .int 0, .int 0]), (q1, aJ G 40 (fun _ => 0))]) rfl dX2_init_8 (fun H locs hw => ?_)
  refine lv_aload_n hx hb dX2_init_11 rfl (lv_at hl 0 rfl) ?_
  refine lv_iload_n hx hb dX2_init_12 rfl (lv_at hl 1 rfl) ?_
  refine r_newJ cx hw hA (N' := 40) (by decide +kernel) (by decide +kernel) (Nat.le_of_ble_eq_true rfl) (Nat.le_of_ble_eq_true rfl) (Nat.le_of_ble_eq_true rfl) dX2_init_13 (fun q2 H hw => ?_)
  have hw : Wd G A [(h0, ob 1 [.ref q1, .null, .int 0, .int 0]), (q1, aJ G 40 (fun _ => 0)), (q2, aJ G 40 (fun _ => 0))] s.heap _ _ := hw
  refine r_putF cx hw inX2 (ci := 1) rfl tyX2_ok nmX2 hmn 0 rfl 1 (by decide) fl_X2_15 rfl rfl rfl rfl (Nat.le_of_ble_eq_true rfl) (ws' := [(h0, ob 1 [.ref q1, .ref q2, .int 0, .int 0]), (q1, aJ G 40 (fun _ => 0)), (q2, aJ G 40 (fun _ => 0))]) rfl dX2_init_15 (fun H locs hw => ?_)
  refine lv_aload_n hx hb dX2_init_18 rfl (lv_at hl 0 rfl) ?_
  refine lv_iconst (v := 0) hx hb dX2_init_19 (by decide) ?_
  refine r_put cx hw inX2 (ci := 1) rfl tyX2_ok nmX2 0 rfl 2 (by decide) fl_X2_18 rfl rfl rfl (Nat.le_of_ble_eq_true rfl) (ws' := [(h0, ob 1 [.ref q1, .ref q2, .int 0, .int 0]), (q1, aJ G 40 (fun _ => 0)), (q2, aJ G 40 (fun _ => 0))]) rfl dX2_init_20 (fun H locs hw => ?_)
  refine lv_aload_n hx hb dX2_init_23 rfl (lv_at hl 0 rfl) ?_
  refine lv_iconst (v := 0) hx hb dX2_init_24 (by decide) ?_
  refine r_put cx hw inX2 (ci := 1) rfl tyX2_ok nmX2 0 rfl 3 (by decide) fl_X2_22 rfl rfl rfl (Nat.le_of_ble_eq_true rfl) (ws' := [(h0, ob 1 [.ref q1, .ref q2, .int 0, .int 0]), (q1, aJ G 40 (fun _ => 0)), (q2, aJ G 40 (fun _ => 0))]) rfl dX2_init_25 (fun H locs hw => ?_)
  have hw : Wd G A [(h0, ob 1 [.ref q1, .ref q2, .int 0, .int 0])] s.heap _ _ := hw.sub [0] rfl rfl
  exact r_vret cx hr hlk (fun k => [q1, q2].getD k 0) trivial hw (Nat.le_of_ble_eq_true rfl) (Nat.le_of_ble_eq_true rfl) dX2_init_28

set_option maxHeartbeats 4000000 in
set_option maxRecDepth 100000 in
theorem c_Pat200 (l : Launch) (G : Gt) (h0 : Nat) : Mt l yX2_init cX2_init 2 none ({ frames := 1, cells := 2, slots := 400, locals := 12 } : Room) G [.ref h0, .int 200] [(h0, ob 1 [.null, .null, .int 0, .int 0])] (qV G (fun (u : Nat → Nat) => True) (fun u => [(h0, ob 1 [.ref (u 0), .ref (u 1), .int 0, .int 0])])) := by
  refine Mt.of (own := RX2) (cc := cX2_init) (by decide) rfl (Nat.le_of_ble_eq_true rfl) ?_
  intro p e s m below meth c A ls cx hr hlk hmn hA hl hw
  have hx := cx.1
  have hb := cx.2.1
  have hl : lv_has ls 2 [(0, .ref h0), (1, .int 200)] := hl
  refine lv_aload_n hx hb dX2_init_0 rfl (lv_at hl 0 rfl) ?_
  refine r_objInit cx ml_X2_3 hl.1 dX2_init_1 (Nat.le_of_ble_eq_true rfl) (Nat.le_of_ble_eq_true rfl) ?_
  refine lv_aload_n hx hb dX2_init_4 rfl (lv_at hl 0 rfl) ?_
  refine lv_iload_n hx hb dX2_init_5 rfl (lv_at hl 1 rfl) ?_
  refine r_newJ cx hw hA (N' := 200) (by decide +kernel) (by decide +kernel) (Nat.le_of_ble_eq_true rfl) (Nat.le_of_ble_eq_true rfl) (Nat.le_of_ble_eq_true rfl) dX2_init_6 (fun q1 H hw => ?_)
  have hw : Wd G A [(h0, ob 1 [.null, .null, .int 0, .int 0]), (q1, aJ G 200 (fun _ => 0))] s.heap _ _ := hw
  refine r_putF cx hw inX2 (ci := 1) rfl tyX2_ok nmX2 hmn 0 rfl 0 (by decide) fl_X2_9 rfl rfl rfl rfl (Nat.le_of_ble_eq_true rfl) (ws' := [(h0, ob 1 [.ref q1, .null, .int 0, .int 0]), (q1, aJ G 200 (fun _ => 0))]) rfl dX2_init_8 (fun H locs hw => ?_)
  refine lv_aload_n hx hb dX2_init_11 rfl (lv_at hl 0 rfl) ?_
  refine lv_iload_n hx hb dX2_init_12 rfl (lv_at hl 1 rfl) ?_
  refine r_newJ cx hw hA (N' := 200) (by decide +kernel) (by decide +kernel) (Nat.le_of_ble_eq_true rfl) (Nat.le_of_ble_eq_true rfl) (Nat.le_of_ble_eq_true rfl) dX2_init_13 (fun q2 H hw => ?_)
  have hw : Wd G A [(h0, ob 1 [.ref q1, .null, .int 0, .int 0]), (q1, aJ G 200 (fun _ => 0)), (q2, aJ G 200 (fun _ => 0))] s.heap _ _ := hw
  refine r_putF cx hw inX2 (ci := 1) rfl tyX2_ok nmX2 hmn 0 rfl 1 (by decide) fl_X2_15 rfl rfl rfl rfl (Nat.le_of_ble_eq_true rfl) (ws' := [(h0, ob 1 [.ref q1, .ref q2, .int 0, .int 0]), (q1, aJ G 200 (fun _ => 0)), (q2, aJ G 200 (fun _ => 0))]) rfl dX2_init_15 (fun H locs hw => ?_)
  refine lv_aload_n hx hb dX2_init_18 rfl (lv_at hl 0 rfl) ?_
  refine lv_iconst (v := 0) hx hb dX2_init_19 (by decide) ?_
  refine r_put cx hw inX2 (ci := 1) rfl tyX2_ok nmX2 0 rfl 2 (by decide) fl_X2_18 rfl rfl rfl (Nat.le_of_ble_eq_true rfl) (ws' := [(h0, ob 1 [.ref q1, .ref q2, .int 0, .int 0]), (q1, aJ G 200 (fun _ => 0)), (q2, aJ G 200 (fun _ => 0))]) rfl dX2_init_20 (fun H locs hw => ?_)
  refine lv_aload_n hx hb dX2_init_23 rfl (lv_at hl 0 rfl) ?_
  refine lv_iconst (v := 0) hx hb dX2_init_24 (by decide) ?_
  refine r_put cx hw inX2 (ci := 1) rfl tyX2_ok nmX2 0 rfl 3 (by decide) fl_X2_22 rfl rfl rfl (Nat.le_of_ble_eq_true rfl) (ws' := [(h0, ob 1 [.ref q1, .ref q2, .int 0, .int 0]), (q1, aJ G 200 (fun _ => 0)), (q2, aJ G 200 (fun _ => 0))]) rfl dX2_init_25 (fun H locs hw => ?_)
  have hw : Wd G A [(h0, ob 1 [.ref q1, .ref q2, .int 0, .int 0])] s.heap _ _ := hw.sub [0] rfl rfl
  exact r_vret cx hr hlk (fun k => [q1, q2].getD k 0) trivial hw (Nat.le_of_ble_eq_true rfl) (Nat.le_of_ble_eq_true rfl) dX2_init_28

set_option maxHeartbeats 4000000 in
set_option maxRecDepth 100000 in
theorem c_Prog (l : Launch) (G : Gt) (h0 : Nat) : Mt l yX3_init cX3_init 2 none ({ frames := 1, cells := 6, slots := 7992, locals := 12 } : Room) G [.ref h0] [(h0, ob 2 [.int 0, .int 0, .int 0, .null, .null, .null, .null, .null, .null])] (qV G (fun (u : Nat → Nat) => True) (fun u => [(h0, ob 2 [.int 0, .int 0, .int 0, .ref (u 0), .ref (u 1), .ref (u 2), .ref (u 3), .ref (u 4), .ref (u 5)]), (u 2, aI G 72 (fl_fill (-1) 0 72))])) := by
  refine Mt.of (own := RX3) (cc := cX3_init) (by decide) rfl (Nat.le_of_ble_eq_true rfl) ?_
  intro p e s m below meth c A ls cx hr hlk hmn hA hl hw
  have hx := cx.1
  have hb := cx.2.1
  have hl : lv_has ls 2 [(0, .ref h0)] := hl
  refine lv_aload_n hx hb dX3_init_0 rfl (lv_at hl 0 rfl) ?_
  refine r_objInit cx ml_X3_5 hl.1 dX3_init_1 (Nat.le_of_ble_eq_true rfl) (Nat.le_of_ble_eq_true rfl) ?_
  refine lv_aload_n hx hb dX3_init_4 rfl (lv_at hl 0 rfl) ?_
  refine lv_sipush (v := 432) hx hb dX3_init_5 (by decide) ?_
  refine r_newI cx hw hA (N' := 432) (by decide +kernel) (by decide +kernel) (Nat.le_of_ble_eq_true rfl) (Nat.le_of_ble_eq_true rfl) (Nat.le_of_ble_eq_true rfl) dX3_init_8 (fun q1 H hw => ?_)
  have hw : Wd G A [(h0, ob 2 [.int 0, .int 0, .int 0, .null, .null, .null, .null, .null, .null]), (q1, aI G 432 (fun _ => 0))] s.heap _ _ := hw
  refine r_putF cx hw inX3 (ci := 2) rfl tyX3_ok nmX3 hmn 0 rfl 3 (by decide) fl_X3_11 rfl rfl rfl rfl (Nat.le_of_ble_eq_true rfl) (ws' := [(h0, ob 2 [.int 0, .int 0, .int 0, .ref q1, .null, .null, .null, .null, .null]), (q1, aI G 432 (fun _ => 0))]) rfl dX3_init_10 (fun H locs hw => ?_)
  refine lv_aload_n hx hb dX3_init_13 rfl (lv_at hl 0 rfl) ?_
  refine lv_bipush (v := 72) hx hb dX3_init_14 (by decide) ?_
  refine r_newI cx hw hA (N' := 72) (by decide +kernel) (by decide +kernel) (Nat.le_of_ble_eq_true rfl) (Nat.le_of_ble_eq_true rfl) (Nat.le_of_ble_eq_true rfl) dX3_init_16 (fun q2 H hw => ?_)
  have hw : Wd G A [(h0, ob 2 [.int 0, .int 0, .int 0, .ref q1, .null, .null, .null, .null, .null]), (q1, aI G 432 (fun _ => 0)), (q2, aI G 72 (fun _ => 0))] s.heap _ _ := hw
  refine r_putF cx hw inX3 (ci := 2) rfl tyX3_ok nmX3 hmn 0 rfl 4 (by decide) fl_X3_15 rfl rfl rfl rfl (Nat.le_of_ble_eq_true rfl) (ws' := [(h0, ob 2 [.int 0, .int 0, .int 0, .ref q1, .ref q2, .null, .null, .null, .null]), (q1, aI G 432 (fun _ => 0)), (q2, aI G 72 (fun _ => 0))]) rfl dX3_init_18 (fun H locs hw => ?_)
  refine lv_aload_n hx hb dX3_init_21 rfl (lv_at hl 0 rfl) ?_
  refine lv_bipush (v := 72) hx hb dX3_init_22 (by decide) ?_
  refine r_newI cx hw hA (N' := 72) (by decide +kernel) (by decide +kernel) (Nat.le_of_ble_eq_true rfl) (Nat.le_of_ble_eq_true rfl) (Nat.le_of_ble_eq_true rfl) dX3_init_24 (fun q3 H hw => ?_)
  have hw : Wd G A [(h0, ob 2 [.int 0, .int 0, .int 0, .ref q1, .ref q2, .null, .null, .null, .null]), (q1, aI G 432 (fun _ => 0)), (q2, aI G 72 (fun _ => 0)), (q3, aI G 72 (fun _ => 0))] s.heap _ _ := hw
  refine r_putF cx hw inX3 (ci := 2) rfl tyX3_ok nmX3 hmn 0 rfl 5 (by decide) fl_X3_18 rfl rfl rfl rfl (Nat.le_of_ble_eq_true rfl) (ws' := [(h0, ob 2 [.int 0, .int 0, .int 0, .ref q1, .ref q2, .ref q3, .null, .null, .null]), (q1, aI G 432 (fun _ => 0)), (q2, aI G 72 (fun _ => 0)), (q3, aI G 72 (fun _ => 0))]) rfl dX3_init_26 (fun H locs hw => ?_)
  refine lv_aload_n hx hb dX3_init_29 rfl (lv_at hl 0 rfl) ?_
  refine lv_sipush (v := 2472) hx hb dX3_init_30 (by decide) ?_
  refine r_newI cx hw hA (N' := 2472) (by decide +kernel) (by decide +kernel) (Nat.le_of_ble_eq_true rfl) (Nat.le_of_ble_eq_true rfl) (Nat.le_of_ble_eq_true rfl) dX3_init_33 (fun q4 H hw => ?_)
  have hw : Wd G A [(h0, ob 2 [.int 0, .int 0, .int 0, .ref q1, .ref q2, .ref q3, .null, .null, .null]), (q1, aI G 432 (fun _ => 0)), (q2, aI G 72 (fun _ => 0)), (q3, aI G 72 (fun _ => 0)), (q4, aI G 2472 (fun _ => 0))] s.heap _ _ := hw
  refine r_putF cx hw inX3 (ci := 2) rfl tyX3_ok nmX3 hmn 0 rfl 6 (by decide) fl_X3_21 rfl rfl rfl rfl (Nat.le_of_ble_eq_true rfl) (ws' := [(h0, ob 2 [.int 0, .int 0, .int 0, .ref q1, .ref q2, .ref q3, .ref q4, .null, .null]), (q1, aI G 432 (fun _ => 0)), (q2, aI G 72 (fun _ => 0)), (q3, aI G 72 (fun _ => 0)), (q4, aI G 2472 (fun _ => 0))]) rfl dX3_init_35 (fun H locs hw => ?_)
  refine lv_aload_n hx hb dX3_init_38 rfl (lv_at hl 0 rfl) ?_
  refine lv_sipush (v := 2472) hx hb dX3_init_39 (by decide) ?_
  refine r_newI cx hw hA (N' := 2472) (by decide +kernel) (by decide +kernel) (Nat.le_of_ble_eq_true rfl) (Nat.le_of_ble_eq_true rfl) (Nat.le_of_ble_eq_true rfl) dX3_init_42 (fun q5 H hw => ?_)
  have hw : Wd G A [(h0, ob 2 [.int 0, .int 0, .int 0, .ref q1, .ref q2, .ref q3, .ref q4, .null, .null]), (q1, aI G 432 (fun _ => 0)), (q2, aI G 72 (fun _ => 0)), (q3, aI G 72 (fun _ => 0)), (q4, aI G 2472 (fun _ => 0)), (q5, aI G 2472 (fun _ => 0))] s.heap _ _ := hw
  refine r_putF cx hw inX3 (ci := 2) rfl tyX3_ok nmX3 hmn 0 rfl 7 (by decide) fl_X3_24 rfl rfl rfl rfl (Nat.le_of_ble_eq_true rfl) (ws' := [(h0, ob 2 [.int 0, .int 0, .int 0, .ref q1, .ref q2, .ref q3, .ref q4, .ref q5, .null]), (q1, aI G 432 (fun _ => 0)), (q2, aI G 72 (fun _ => 0)), (q3, aI G 72 (fun _ => 0)), (q4, aI G 2472 (fun _ => 0)), (q5, aI G 2472 (fun _ => 0))]) rfl dX3_init_44 (fun H locs hw => ?_)
  refine lv_aload_n hx hb dX3_init_47 rfl (lv_at hl 0 rfl) ?_
  refine lv_sipush (v := 2472) hx hb dX3_init_48 (by decide) ?_
  refine r_newI cx hw hA (N' := 2472) (by decide +kernel) (by decide +kernel) (Nat.le_of_ble_eq_true rfl) (Nat.le_of_ble_eq_true rfl) (Nat.le_of_ble_eq_true rfl) dX3_init_51 (fun q6 H hw => ?_)
  have hw : Wd G A [(h0, ob 2 [.int 0, .int 0, .int 0, .ref q1, .ref q2, .ref q3, .ref q4, .ref q5, .null]), (q1, aI G 432 (fun _ => 0)), (q2, aI G 72 (fun _ => 0)), (q3, aI G 72 (fun _ => 0)), (q4, aI G 2472 (fun _ => 0)), (q5, aI G 2472 (fun _ => 0)), (q6, aI G 2472 (fun _ => 0))] s.heap _ _ := hw
  refine r_putF cx hw inX3 (ci := 2) rfl tyX3_ok nmX3 hmn 0 rfl 8 (by decide) fl_X3_27 rfl rfl rfl rfl (Nat.le_of_ble_eq_true rfl) (ws' := [(h0, ob 2 [.int 0, .int 0, .int 0, .ref q1, .ref q2, .ref q3, .ref q4, .ref q5, .ref q6]), (q1, aI G 432 (fun _ => 0)), (q2, aI G 72 (fun _ => 0)), (q3, aI G 72 (fun _ => 0)), (q4, aI G 2472 (fun _ => 0)), (q5, aI G 2472 (fun _ => 0)), (q6, aI G 2472 (fun _ => 0))]) rfl dX3_init_53 (fun H locs hw => ?_)
  refine lv_aload_n hx hb dX3_init_56 rfl (lv_at hl 0 rfl) ?_
  refine lv_iconst (v := 0) hx hb dX3_init_57 (by decide) ?_
  refine r_put cx hw inX3 (ci := 2) rfl tyX3_ok nmX3 0 rfl 0 (by decide) fl_X3_30 rfl rfl rfl (Nat.le_of_ble_eq_true rfl) (ws' := [(h0, ob 2 [.int 0, .int 0, .int 0, .ref q1, .ref q2, .ref q3, .ref q4, .ref q5, .ref q6]), (q1, aI G 432 (fun _ => 0)), (q2, aI G 72 (fun _ => 0)), (q3, aI G 72 (fun _ => 0)), (q4, aI G 2472 (fun _ => 0)), (q5, aI G 2472 (fun _ => 0)), (q6, aI G 2472 (fun _ => 0))]) rfl dX3_init_58 (fun H locs hw => ?_)
  refine lv_aload_n hx hb dX3_init_61 rfl (lv_at hl 0 rfl) ?_
  refine lv_iconst (v := 0) hx hb dX3_init_62 (by decide) ?_
  refine r_put cx hw inX3 (ci := 2) rfl tyX3_ok nmX3 0 rfl 1 (by decide) fl_X3_34 rfl rfl rfl (Nat.le_of_ble_eq_true rfl) (ws' := [(h0, ob 2 [.int 0, .int 0, .int 0, .ref q1, .ref q2, .ref q3, .ref q4, .ref q5, .ref q6]), (q1, aI G 432 (fun _ => 0)), (q2, aI G 72 (fun _ => 0)), (q3, aI G 72 (fun _ => 0)), (q4, aI G 2472 (fun _ => 0)), (q5, aI G 2472 (fun _ => 0)), (q6, aI G 2472 (fun _ => 0))]) rfl dX3_init_63 (fun H locs hw => ?_)
  refine lv_aload_n hx hb dX3_init_66 rfl (lv_at hl 0 rfl) ?_
  refine lv_iconst (v := 0) hx hb dX3_init_67 (by decide) ?_
  refine r_put cx hw inX3 (ci := 2) rfl tyX3_ok nmX3 0 rfl 2 (by decide) fl_X3_37 rfl rfl rfl (Nat.le_of_ble_eq_true rfl) (ws' := [(h0, ob 2 [.int 0, .int 0, .int 0, .ref q1, .ref q2, .ref q3, .ref q4, .ref q5, .ref q6]), (q1, aI G 432 (fun _ => 0)), (q2, aI G 72 (fun _ => 0)), (q3, aI G 72 (fun _ => 0)), (q4, aI G 2472 (fun _ => 0)), (q5, aI G 2472 (fun _ => 0)), (q6, aI G 2472 (fun _ => 0))]) rfl dX3_init_68 (fun H locs hw => ?_)
  refine lv_iconst (v := 0) hx hb dX3_init_71 (by decide) ?_
  refine lv_istore_n (lv' := [(1, .int 0), (0, .ref h0)]) hx hb dX3_init_72 rfl hl (by decide) rfl (fun ls hl => ?_)
  refine r_loop (N := 72) (fun k H locs ls => lv_has ls 2 [(1, .int (nI k)), (0, .ref h0)] ∧ Wd G A [(h0, ob 2 [.int 0, .int 0, .int 0, .ref q1, .ref q2, .ref q3, .ref q4, .ref q5, .ref q6]), (q1, aI G 432 (fun _ => 0)), (q2, aI G 72 (fun _ => 0)), (q3, aI G 72 (fl_fill (-1) 0 k)), (q4, aI G 2472 (fun _ => 0)), (q5, aI G 2472 (fun _ => 0)), (q6, aI G 2472 (fun _ => 0))] s.heap H locs) ?_ ?_ 0 (Nat.zero_le _) _ _ _ ⟨lv_sub hl [0, 1] rfl, (by rw [fl_fill_0]; exact hw)⟩
  · intro H locs ls h9
    obtain ⟨hl, hw⟩ := h9
    have hl : lv_has ls 2 [(1, .int 72), (0, .ref h0)] := hl
    have hw : Wd G A [(h0, ob 2 [.int 0, .int 0, .int 0, .ref q1, .ref q2, .ref q3, .ref q4, .ref q5, .ref q6]), (q1, aI G 432 (fun _ => 0)), (q2, aI G 72 (fun _ => 0)), (q3, aI G 72 (fl_fill (-1) 0 72)), (q4, aI G 2472 (fun _ => 0)), (q5, aI G 2472 (fun _ => 0)), (q6, aI G 2472 (fun _ => 0))] s.heap _ _ := hw
    refine lv_iload_n hx hb dX3_init_73 rfl (lv_at hl 0 rfl) ?_
    refine lv_bipush (v := 72) hx hb dX3_init_74 (by decide) ?_
    refine lv_icmp_ge (tgt := 92) hx hb dX3_init_76 (by decide) (fun _ => ?_) (fun c9 => absurd (by decide) c9)
    have hw : Wd G A [(h0, ob 2 [.int 0, .int 0, .int 0, .ref q1, .ref q2, .ref q3, .ref q4, .ref q5, .ref q6]), (q3, aI G 72 (fl_fill (-1) 0 72))] s.heap _ _ := hw.sub [0, 3] rfl rfl
    exact r_vret cx hr hlk (fun k => [q1, q2, q3, q4, q5, q6].getD k 0) trivial hw (Nat.le_of_ble_eq_true rfl) (Nat.le_of_ble_eq_true rfl) dX3_init_92
  · intro k H locs ls hk h9 ih
    obtain ⟨hl, hw⟩ := h9
    refine lv_iload_n hx hb dX3_init_73 rfl (lv_at hl 0 rfl) ?_
    refine lv_bipush (v := 72) hx hb dX3_init_74 (by decide) ?_
    refine lv_icmp_ge (tgt := 92) hx hb dX3_init_76 (by decide) (fun c9 => absurd c9 (nI_ge hk (by decide))) (fun _ => ?_)
    refine lv_aload_n hx hb dX3_init_79 rfl (lv_at hl 1 rfl) ?_
    refine r_get cx hw inX3 (ci := 2) rfl 0 rfl 5 (by decide) fl_X3_18 rfl dX3_init_80 ?_
    refine lv_iload_n hx hb dX3_init_83 rfl (lv_at hl 0 rfl) ?_
    refine lv_iconst (v := (-1)) hx hb dX3_init_84 (by decide) ?_
    refine r_iast cx hw 3 rfl (vp_in_nI hk (by decide)) (ws' := [(h0, ob 2 [.int 0, .int 0, .int 0, .ref q1, .ref q2, .ref q3, .ref q4, .ref q5, .ref q6]), (q1, aI G 432 (fun _ => 0)), (q2, aI G 72 (fun _ => 0)), (q3, aI G 72 (fl_fill (-1) 0 (k + 1))), (q4, aI G 2472 (fun _ => 0)), (q5, aI G 2472 (fun _ => 0)), (q6, aI G 2472 (fun _ => 0))]) (by rw [nI_clamp (Nat.lt_trans hk (by decide))]; simp only [fl_fill_succ]; rfl) dX3_init_85 (fun H locs hw => ?_)
    refine lv_iinc (v := nI (k + 1)) (lv' := [(1, .int (nI (k + 1))), (0, .ref h0)]) hx hb dX3_init_86 hl (k := 0) rfl (nI_1 k) (by decide) rfl (fun ls hl => ?_)
    refine lv_goto (tgt := 73) hx hb dX3_init_89 (by decide) ?_
    exact ih H locs ls ⟨lv_sub hl [0, 1] rfl, hw.sub [0, 1, 2, 3, 4, 5, 6] rfl rfl⟩
