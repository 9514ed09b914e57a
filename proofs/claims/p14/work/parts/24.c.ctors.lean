set_option maxHeartbeats 4000000 in
set_option maxRecDepth 100000 in
theorem c_Pbegin (l : Launch) (G : Gt) (h0 : Nat) (a1 : Nat) (a2 : Nat) (z1 : Int32) (z2 : Int32) (k : Int32) : Mt l yX2_begin cX2_begin 2 none ({ frames := 0, cells := 0, slots := 0, locals := 0 } : Room) G [.ref h0, .int k] [(h0, ob 1 [.ref a1, .ref a2, .int z1, .int z2])] (qV G (fun (w : Unit) => True) (fun w => [(h0, ob 1 [.ref a1, .ref a2, .int 0, .int k])])) := by
  refine Mt.of (own := RX2) (cc := cX2_begin) (by decide) rfl (Nat.le_of_ble_eq_true rfl) ?_
  intro p e s m below meth c A ls cx hr hlk hmn hA hl hw
  have hx := cx.1
  have hb := cx.2.1
  have hl : lv_has ls 2 [(0, .ref h0), (1, .int k)] := hl
  refine lv_aload_n hx hb dX2_begin_0 rfl (lv_at hl 0 rfl) ?_
  refine lv_iconst (v := 0) hx hb dX2_begin_1 (by decide) ?_
  refine r_put cx hw inX2 (ci := 1) rfl tyX2_ok nmX2 0 rfl 2 (by decide) fl_X2_18 rfl rfl rfl (Nat.le_of_ble_eq_true rfl) (ws' := [(h0, ob 1 [.ref a1, .ref a2, .int 0, .int z2])]) rfl dX2_begin_2 (fun H locs hw => ?_)
  refine lv_aload_n hx hb dX2_begin_5 rfl (lv_at hl 0 rfl) ?_
  refine lv_iload_n hx hb dX2_begin_6 rfl (lv_at hl 1 rfl) ?_
  refine r_put cx hw inX2 (ci := 1) rfl tyX2_ok nmX2 0 rfl 3 (by decide) fl_X2_22 rfl rfl rfl (Nat.le_of_ble_eq_true rfl) (ws' := [(h0, ob 1 [.ref a1, .ref a2, .int 0, .int k])]) rfl dX2_begin_7 (fun H locs hw => ?_)
  have hw : Wd G A [(h0, ob 1 [.ref a1, .ref a2, .int 0, .int k])] s.heap _ _ := hw.sub [0] rfl rfl
  exact r_vret cx hr hlk () trivial hw (Nat.le_of_ble_eq_true rfl) (Nat.le_of_ble_eq_true rfl) dX2_begin_10

set_option maxHeartbeats 4000000 in
set_option maxRecDepth 100000 in
theorem c_Obegin (l : Launch) (G : Gt) (h0 : Nat) (k0 : Nat) (p0 : Nat) (v0 : Nat) (w1 : Nat) (w2 : Nat) (y1 : Int32) (y2 : Int32) (z0 : Int32) (z1 : Int32) (z2 : Int32) (z3 : Int32) (z4 : Int32) (z5 : Int32) (z6 : Int32) : Mt l yX1_begin cX1_begin 2 none ({ frames := 1, cells := 0, slots := 0, locals := 21 } : Room) G [.ref h0] [(h0, ob 0 [.int z0, .int z1, .int z2, .int z3, .int z4, .int z5, .int z6, .ref k0, .ref p0, .ref v0]), (p0, aI G 8 (fun _ => 0)), (v0, ob 1 [.ref w1, .ref w2, .int y1, .int y2])] (qV G (fun (w : Unit) => True) (fun w => [(h0, ob 0 [.int (-1), .int 0, .int 0, .int 0, .int 0, .int 0, .int 0, .ref k0, .ref p0, .ref v0]), (p0, aI G 8 (fun _ => 0)), (v0, ob 1 [.ref w1, .ref w2, .int 0, .int 0])])) := by
  refine Mt.of (own := RX1) (cc := cX1_begin) (by decide) rfl (Nat.le_of_ble_eq_true rfl) ?_
  intro p e s m below meth c A ls cx hr hlk hmn hA hl hw
  have hx := cx.1
  have hb := cx.2.1
  have hl : lv_has ls 2 [(0, .ref h0)] := hl
  refine lv_aload_n hx hb dX1_begin_0 rfl (lv_at hl 0 rfl) ?_
  refine lv_iconst (v := (-1)) hx hb dX1_begin_1 (by decide) ?_
  refine r_put cx hw inX1 (ci := 0) rfl tyX1_ok nmX1 0 rfl 0 (by decide) fl_X1_31 rfl rfl rfl (Nat.le_of_ble_eq_true rfl) (ws' := [(h0, ob 0 [.int (-1), .int z1, .int z2, .int z3, .int z4, .int z5, .int z6, .ref k0, .ref p0, .ref v0]), (p0, aI G 8 (fun _ => 0)), (v0, ob 1 [.ref w1, .ref w2, .int y1, .int y2])]) rfl dX1_begin_2 (fun H locs hw => ?_)
  refine lv_aload_n hx hb dX1_begin_5 rfl (lv_at hl 0 rfl) ?_
  refine lv_iconst (v := 0) hx hb dX1_begin_6 (by decide) ?_
  refine r_put cx hw inX1 (ci := 0) rfl tyX1_ok nmX1 0 rfl 1 (by decide) fl_X1_35 rfl rfl rfl (Nat.le_of_ble_eq_true rfl) (ws' := [(h0, ob 0 [.int (-1), .int 0, .int z2, .int z3, .int z4, .int z5, .int z6, .ref k0, .ref p0, .ref v0]), (p0, aI G 8 (fun _ => 0)), (v0, ob 1 [.ref w1, .ref w2, .int y1, .int y2])]) rfl dX1_begin_7 (fun H locs hw => ?_)
  refine lv_aload_n hx hb dX1_begin_10 rfl (lv_at hl 0 rfl) ?_
  refine lv_iconst (v := 0) hx hb dX1_begin_11 (by decide) ?_
  refine r_put cx hw inX1 (ci := 0) rfl tyX1_ok nmX1 0 rfl 2 (by decide) fl_X1_38 rfl rfl rfl (Nat.le_of_ble_eq_true rfl) (ws' := [(h0, ob 0 [.int (-1), .int 0, .int 0, .int z3, .int z4, .int z5, .int z6, .ref k0, .ref p0, .ref v0]), (p0, aI G 8 (fun _ => 0)), (v0, ob 1 [.ref w1, .ref w2, .int y1, .int y2])]) rfl dX1_begin_12 (fun H locs hw => ?_)
  refine lv_aload_n hx hb dX1_begin_15 rfl (lv_at hl 0 rfl) ?_
  refine lv_iconst (v := 0) hx hb dX1_begin_16 (by decide) ?_
  refine r_put cx hw inX1 (ci := 0) rfl tyX1_ok nmX1 0 rfl 3 (by decide) fl_X1_41 rfl rfl rfl (Nat.le_of_ble_eq_true rfl) (ws' := [(h0, ob 0 [.int (-1), .int 0, .int 0, .int 0, .int z4, .int z5, .int z6, .ref k0, .ref p0, .ref v0]), (p0, aI G 8 (fun _ => 0)), (v0, ob 1 [.ref w1, .ref w2, .int y1, .int y2])]) rfl dX1_begin_17 (fun H locs hw => ?_)
  refine lv_aload_n hx hb dX1_begin_20 rfl (lv_at hl 0 rfl) ?_
  refine lv_iconst (v := 0) hx hb dX1_begin_21 (by decide) ?_
  refine r_put cx hw inX1 (ci := 0) rfl tyX1_ok nmX1 0 rfl 4 (by decide) fl_X1_44 rfl rfl rfl (Nat.le_of_ble_eq_true rfl) (ws' := [(h0, ob 0 [.int (-1), .int 0, .int 0, .int 0, .int 0, .int z5, .int z6, .ref k0, .ref p0, .ref v0]), (p0, aI G 8 (fun _ => 0)), (v0, ob 1 [.ref w1, .ref w2, .int y1, .int y2])]) rfl dX1_begin_22 (fun H locs hw => ?_)
  refine lv_aload_n hx hb dX1_begin_25 rfl (lv_at hl 0 rfl) ?_
  refine lv_iconst (v := 0) hx hb dX1_begin_26 (by decide) ?_
  refine r_put cx hw inX1 (ci := 0) rfl tyX1_ok nmX1 0 rfl 5 (by decide) fl_X1_47 rfl rfl rfl (Nat.le_of_ble_eq_true rfl) (ws' := [(h0, ob 0 [.int (-1), .int 0, .int 0, .int 0, .int 0, .int 0, .int z6, .ref k0, .ref p0, .ref v0]), (p0, aI G 8 (fun _ => 0)), (v0, ob 1 [.ref w1, .ref w2, .int y1, .int y2])]) rfl dX1_begin_27 (fun H locs hw => ?_)
  refine lv_aload_n hx hb dX1_begin_30 rfl (lv_at hl 0 rfl) ?_
  refine lv_iconst (v := 0) hx hb dX1_begin_31 (by decide) ?_
  refine r_put cx hw inX1 (ci := 0) rfl tyX1_ok nmX1 0 rfl 6 (by decide) fl_X1_50 rfl rfl rfl (Nat.le_of_ble_eq_true rfl) (ws' := [(h0, ob 0 [.int (-1), .int 0, .int 0, .int 0, .int 0, .int 0, .int 0, .ref k0, .ref p0, .ref v0]), (p0, aI G 8 (fun _ => 0)), (v0, ob 1 [.ref w1, .ref w2, .int y1, .int y2])]) rfl dX1_begin_32 (fun H locs hw => ?_)
  refine lv_aload_n hx hb dX1_begin_35 rfl (lv_at hl 0 rfl) ?_
  refine r_get cx hw inX1 (ci := 0) rfl 0 rfl 9 (by decide) fl_X1_24 rfl dX1_begin_36 ?_
  refine lv_iconst (v := 0) hx hb dX1_begin_39 (by decide) ?_
  refine r_callVV (As := [.int 0]) (rest := []) (wr := [(h0, ob 0 [.int (-1), .int 0, .int 0, .int 0, .int 0, .int 0, .int 0, .ref k0, .ref p0, .ref v0]), (p0, aI G 8 (fun _ => 0))]) cx hw hA (c_Pbegin l G v0 w1 w2 y1 y2 0) [2] [0, 1] rfl rfl rfl rfl rfl 2 rfl (ci := 1) rfl ml_X1_53 im_X2_begin se_X2_begin in_X2 co_X2_begin rfl hd_X2_begin rfl ⟨Nat.le_of_ble_eq_true rfl, Nat.le_of_ble_eq_true rfl⟩ hl.1 rfl (Nat.le_of_ble_eq_true rfl) dX1_begin_40 ⟨Nat.le_of_ble_eq_true rfl, Nat.le_of_ble_eq_true rfl⟩ (fun u1 H locs hr2 hw => ?_)
  have hw : Wd G A [(h0, ob 0 [.int (-1), .int 0, .int 0, .int 0, .int 0, .int 0, .int 0, .ref k0, .ref p0, .ref v0]), (p0, aI G 8 (fun _ => 0)), (v0, ob 1 [.ref w1, .ref w2, .int 0, .int 0])] s.heap _ _ := hw
  refine lv_iconst (v := 0) hx hb dX1_begin_43 (by decide) ?_
  refine lv_istore_n (lv' := [(1, .int 0), (0, .ref h0)]) hx hb dX1_begin_44 rfl hl (by decide) rfl (fun ls hl => ?_)
  refine lv_iload_n hx hb dX1_begin_45 rfl (lv_at hl 0 rfl) ?_
  refine lv_bipush (v := 8) hx hb dX1_begin_46 (by decide) ?_
  refine lv_icmp_ge (tgt := 64) hx hb dX1_begin_48 (by decide) (fun c9 => absurd c9 (by decide)) (fun _ => ?_)
  refine lv_aload_n hx hb dX1_begin_51 rfl (lv_at hl 1 rfl) ?_
  refine r_get cx hw inX1 (ci := 0) rfl 0 rfl 8 (by decide) fl_X1_15 rfl dX1_begin_52 ?_
  refine lv_iload_n hx hb dX1_begin_55 rfl (lv_at hl 0 rfl) ?_
  refine lv_iconst (v := 0) hx hb dX1_begin_56 (by decide) ?_
  refine r_iast cx hw 1 rfl (inL (by decide +kernel)) (ws' := [(h0, ob 0 [.int (-1), .int 0, .int 0, .int 0, .int 0, .int 0, .int 0, .ref k0, .ref p0, .ref v0]), (p0, aI G 8 (fun _ => 0)), (v0, ob 1 [.ref w1, .ref w2, .int 0, .int 0])]) (by rw [upd00]; rfl) dX1_begin_57 (fun H locs hw => ?_)
  refine lv_iinc (v := 1) (lv' := [(1, .int 1), (0, .ref h0)]) hx hb dX1_begin_58 hl (k := 0) rfl (by decide +kernel) (by decide) rfl (fun ls hl => ?_)
  refine lv_goto (tgt := 45) hx hb dX1_begin_61 (by decide) ?_
  refine lv_iload_n hx hb dX1_begin_45 rfl (lv_at hl 0 rfl) ?_
  refine lv_bipush (v := 8) hx hb dX1_begin_46 (by decide) ?_
  refine lv_icmp_ge (tgt := 64) hx hb dX1_begin_48 (by decide) (fun c9 => absurd c9 (by decide)) (fun _ => ?_)
  refine lv_aload_n hx hb dX1_begin_51 rfl (lv_at hl 1 rfl) ?_
  refine r_get cx hw inX1 (ci := 0) rfl 0 rfl 8 (by decide) fl_X1_15 rfl dX1_begin_52 ?_
  refine lv_iload_n hx hb dX1_begin_55 rfl (lv_at hl 0 rfl) ?_
  refine lv_iconst (v := 0) hx hb dX1_begin_56 (by decide) ?_
  refine r_iast cx hw 1 rfl (inL (by decide +kernel)) (ws' := [(h0, ob 0 [.int (-1), .int 0, .int 0, .int 0, .int 0, .int 0, .int 0, .ref k0, .ref p0, .ref v0]), (p0, aI G 8 (fun _ => 0)), (v0, ob 1 [.ref w1, .ref w2, .int 0, .int 0])]) (by rw [upd00]; rfl) dX1_begin_57 (fun H locs hw => ?_)
  refine lv_iinc (v := 2) (lv' := [(1, .int 2), (0, .ref h0)]) hx hb dX1_begin_58 hl (k := 0) rfl (by decide +kernel) (by decide) rfl (fun ls hl => ?_)
  refine lv_goto (tgt := 45) hx hb dX1_begin_61 (by decide) ?_
  refine lv_iload_n hx hb dX1_begin_45 rfl (lv_at hl 0 rfl) ?_
  refine lv_bipush (v := 8) hx hb dX1_begin_46 (by decide) ?_
  refine lv_icmp_ge (tgt := 64) hx hb dX1_begin_48 (by decide) (fun c9 => absurd c9 (by decide)) (fun _ => ?_)
  refine lv_aload_n hx hb dX1_begin_51 rfl (lv_at hl 1 rfl) ?_
  refine r_get cx hw inX1 (ci := 0) rfl 0 rfl 8 (by decide) fl_X1_15 rfl dX1_begin_52 ?_
  refine lv_iload_n hx hb dX1_begin_55 rfl (lv_at hl 0 rfl) ?_
  refine lv_iconst (v := 0) hx hb dX1_begin_56 (by decide) ?_
  refine r_iast cx hw 1 rfl (inL (by decide +kernel)) (ws' := [(h0, ob 0 [.int (-1), .int 0, .int 0, .int 0, .int 0, .int 0, .int 0, .ref k0, .ref p0, .ref v0]), (p0, aI G 8 (fun _ => 0)), (v0, ob 1 [.ref w1, .ref w2, .int 0, .int 0])]) (by rw [upd00]; rfl) dX1_begin_57 (fun H locs hw => ?_)
  refine lv_iinc (v := 3) (lv' := [(1, .int 3), (0, .ref h0)]) hx hb dX1_begin_58 hl (k := 0) rfl (by decide +kernel) (by decide) rfl (fun ls hl => ?_)
  refine lv_goto (tgt := 45) hx hb dX1_begin_61 (by decide) ?_
  refine lv_iload_n hx hb dX1_begin_45 rfl (lv_at hl 0 rfl) ?_
  refine lv_bipush (v := 8) hx hb dX1_begin_46 (by decide) ?_
  refine lv_icmp_ge (tgt := 64) hx hb dX1_begin_48 (by decide) (fun c9 => absurd c9 (by decide)) (fun _ => ?_)
  refine lv_aload_n hx hb dX1_begin_51 rfl (lv_at hl 1 rfl) ?_
  refine r_get cx hw inX1 (ci := 0) rfl 0 rfl 8 (by decide) fl_X1_15 rfl dX1_begin_52 ?_
  refine lv_iload_n hx hb dX1_begin_55 rfl (lv_at hl 0 rfl) ?_
  refine lv_iconst (v := 0) hx hb dX1_begin_56 (by decide) ?_
  refine r_iast cx hw 1 rfl (inL (by decide +kernel)) (ws' := [(h0, ob 0 [.int (-1), .int 0, .int 0, .int 0, .int 0, .int 0, .int 0, .ref k0, .ref p0, .ref v0]), (p0, aI G 8 (fun _ => 0)), (v0, ob 1 [.ref w1, .ref w2, .int 0, .int 0])]) (by rw [upd00]; rfl) dX1_begin_57 (fun H locs hw => ?_)
  refine lv_iinc (v := 4) (lv' := [(1, .int 4), (0, .ref h0)]) hx hb dX1_begin_58 hl (k := 0) rfl (by decide +kernel) (by decide) rfl (fun ls hl => ?_)
  refine lv_goto (tgt := 45) hx hb dX1_begin_61 (by decide) ?_
  refine lv_iload_n hx hb dX1_begin_45 rfl (lv_at hl 0 rfl) ?_
  refine lv_bipush (v := 8) hx hb dX1_begin_46 (by decide) ?_
  refine lv_icmp_ge (tgt := 64) hx hb dX1_begin_48 (by decide) (fun c9 => absurd c9 (by decide)) (fun _ => ?_)
  refine lv_aload_n hx hb dX1_begin_51 rfl (lv_at hl 1 rfl) ?_
  refine r_get cx hw inX1 (ci := 0) rfl 0 rfl 8 (by decide) fl_X1_15 rfl dX1_begin_52 ?_
  refine lv_iload_n hx hb dX1_begin_55 rfl (lv_at hl 0 rfl) ?_
  refine lv_iconst (v := 0) hx hb dX1_begin_56 (by decide) ?_
  refine r_iast cx hw 1 rfl (inL (by decide +kernel)) (ws' := [(h0, ob 0 [.int (-1), .int 0, .int 0, .int 0, .int 0, .int 0, .int 0, .ref k0, .ref p0, .ref v0]), (p0, aI G 8 (fun _ => 0)), (v0, ob 1 [.ref w1, .ref w2, .int 0, .int 0])]) (by rw [upd00]; rfl) dX1_begin_57 (fun H locs hw => ?_)
  refine lv_iinc (v := 5) (lv' := [(1, .int 5), (0, .ref h0)]) hx hb dX1_begin_58 hl (k := 0) rfl (by decide +kernel) (by decide) rfl (fun ls hl => ?_)
  refine lv_goto (tgt := 45) hx hb dX1_begin_61 (by decide) ?_
  refine lv_iload_n hx hb dX1_begin_45 rfl (lv_at hl 0 rfl) ?_
  refine lv_bipush (v := 8) hx hb dX1_begin_46 (by decide) ?_
  refine lv_icmp_ge (tgt := 64) hx hb dX1_begin_48 (by decide) (fun c9 => absurd c9 (by decide)) (fun _ => ?_)
  refine lv_aload_n hx hb dX1_begin_51 rfl (lv_at hl 1 rfl) ?_
  refine r_get cx hw inX1 (ci := 0) rfl 0 rfl 8 (by decide) fl_X1_15 rfl dX1_begin_52 ?_
  refine lv_iload_n hx hb dX1_begin_55 rfl (lv_at hl 0 rfl) ?_
  refine lv_iconst (v := 0) hx hb dX1_begin_56 (by decide) ?_
  refine r_iast cx hw 1 rfl (inL (by decide +kernel)) (ws' := [(h0, ob 0 [.int (-1), .int 0, .int 0, .int 0, .int 0, .int 0, .int 0, .ref k0, .ref p0, .ref v0]), (p0, aI G 8 (fun _ => 0)), (v0, ob 1 [.ref w1, .ref w2, .int 0, .int 0])]) (by rw [upd00]; rfl) dX1_begin_57 (fun H locs hw => ?_)
  refine lv_iinc (v := 6) (lv' := [(1, .int 6), (0, .ref h0)]) hx hb dX1_begin_58 hl (k := 0) rfl (by decide +kernel) (by decide) rfl (fun ls hl => ?_)
  refine lv_goto (tgt := 45) hx hb dX1_begin_61 (by decide) ?_
  refine lv_iload_n hx hb dX1_begin_45 rfl (lv_at hl 0 rfl) ?_
  refine lv_bipush (v := 8) hx hb dX1_begin_46 (by decide) ?_
  refine lv_icmp_ge (tgt := 64) hx hb dX1_begin_48 (by decide) (fun c9 => absurd c9 (by decide)) (fun _ => ?_)
  refine lv_aload_n hx hb dX1_begin_51 rfl (lv_at hl 1 rfl) ?_
  refine r_get cx hw inX1 (ci := 0) rfl 0 rfl 8 (by decide) fl_X1_15 rfl dX1_begin_52 ?_
  refine lv_iload_n hx hb dX1_begin_55 rfl (lv_at hl 0 rfl) ?_
  refine lv_iconst (v := 0) hx hb dX1_begin_56 (by decide) ?_
  refine r_iast cx hw 1 rfl (inL (by decide +kernel)) (ws' := [(h0, ob 0 [.int (-1), .int 0, .int 0, .int 0, .int 0, .int 0, .int 0, .ref k0, .ref p0, .ref v0]), (p0, aI G 8 (fun _ => 0)), (v0, ob 1 [.ref w1, .ref w2, .int 0, .int 0])]) (by rw [upd00]; rfl) dX1_begin_57 (fun H locs hw => ?_)
  refine lv_iinc (v := 7) (lv' := [(1, .int 7), (0, .ref h0)]) hx hb dX1_begin_58 hl (k := 0) rfl (by decide +kernel) (by decide) rfl (fun ls hl => ?_)
  refine lv_goto (tgt := 45) hx hb dX1_begin_61 (by decide) ?_
  refine lv_iload_n hx hb dX1_begin_45 rfl (lv_at hl 0 rfl) ?_
  refine lv_bipush (v := 8) hx hb dX1_begin_46 (by decide) ?_
  refine lv_icmp_ge (tgt := 64) hx hb dX1_begin_48 (by decide) (fun c9 => absurd c9 (by decide)) (fun _ => ?_)
  refine lv_aload_n hx hb dX1_begin_51 rfl (lv_at hl 1 rfl) ?_
  refine r_get cx hw inX1 (ci := 0) rfl 0 rfl 8 (by decide) fl_X1_15 rfl dX1_begin_52 ?_
  refine lv_iload_n hx hb dX1_begin_55 rfl (lv_at hl 0 rfl) ?_
  refine lv_iconst (v := 0) hx hb dX1_begin_56 (by decide) ?_
  refine r_iast cx hw 1 rfl (inL (by decide +kernel)) (ws' := [(h0, ob 0 [.int (-1), .int 0, .int 0, .int 0, .int 0, .int 0, .int 0, .ref k0, .ref p0, .ref v0]), (p0, aI G 8 (fun _ => 0)), (v0, ob 1 [.ref w1, .ref w2, .int 0, .int 0])]) (by rw [upd00]; rfl) dX1_begin_57 (fun H locs hw => ?_)
  refine lv_iinc (v := 8) (lv' := [(1, .int 8), (0, .ref h0)]) hx hb dX1_begin_58 hl (k := 0) rfl (by decide +kernel) (by decide) rfl (fun ls hl => ?_)
  refine lv_goto (tgt := 45) hx hb dX1_begin_61 (by decide) ?_
  refine lv_iload_n hx hb dX1_begin_45 rfl (lv_at hl 0 rfl) ?_
  refine lv_bipush (v := 8) hx hb dX1_begin_46 (by decide) ?_
  refine lv_icmp_ge (tgt := 64) hx hb dX1_begin_48 (by decide) (fun _ => ?_) (fun c9 => absurd (by decide) c9)
  have hw : Wd G A [(h0, ob 0 [.int (-1), .int 0, .int 0, .int 0, .int 0, .int 0, .int 0, .ref k0, .ref p0, .ref v0]), (p0, aI G 8 (fun _ => 0)), (v0, ob 1 [.ref w1, .ref w2, .int 0, .int 0])] s.heap _ _ := hw.sub [0, 1, 2] rfl rfl
  exact r_vret cx hr hlk () trivial hw (Nat.le_of_ble_eq_true rfl) (Nat.le_of_ble_eq_true rfl) dX1_begin_64

set_option maxHeartbeats 4000000 in
set_option maxRecDepth 100000 in
theorem c_Out (l : Launch) (G : Gt) (h0 : Nat) : Mt l yX1_init cX1_init 1 none ({ frames := 2, cells := 5, slots := 152, locals := 42 } : Room) G [.ref h0] [(h0, ob 0 [.int 0, .int 0, .int 0, .int 0, .int 0, .int 0, .int 0, .null, .null, .null])] (qV G (fun (w : Nat → Nat) => True) (fun w => [(h0, ob 0 [.int (-1), .int 0, .int 0, .int 0, .int 0, .int 0, .int 0, .ref (w 0), .ref (w 1), .ref (w 2)]), (w 0, aJ G 60 (fun _ => 0)), (w 1, aI G 8 (fun _ => 0)), (w 2, ob 1 [.ref (w 3), .ref (w 4), .int 0, .int 0]), (w 3, aJ G 40 (fun _ => 0)), (w 4, aJ G 40 (fun _ => 0))])) := by
  refine Mt.of (own := RX1) (cc := cX1_init) (by decide) rfl (Nat.le_of_ble_eq_true rfl) ?_
  intro p e s m below meth c A ls cx hr hlk hmn hA hl hw
  have hx := cx.1
  have hb := cx.2.1
  have hl : lv_has ls 1 [(0, .ref h0)] := hl
  refine lv_aload_n hx hb dX1_init_0 rfl (lv_at hl 0 rfl) ?_
  refine r_objInit cx ml_X1_3 hl.1 dX1_init_1 (Nat.le_of_ble_eq_true rfl) (Nat.le_of_ble_eq_true rfl) ?_
  refine lv_aload_n hx hb dX1_init_4 rfl (lv_at hl 0 rfl) ?_
  refine lv_bipush (v := 60) hx hb dX1_init_5 (by decide) ?_
  refine r_newJ cx hw hA (N' := 60) (by decide +kernel) (by decide +kernel) (Nat.le_of_ble_eq_true rfl) (Nat.le_of_ble_eq_true rfl) (Nat.le_of_ble_eq_true rfl) dX1_init_7 (fun q1 H hw => ?_)
  have hw : Wd G A [(h0, ob 0 [.int 0, .int 0, .int 0, .int 0, .int 0, .int 0, .int 0, .null, .null, .null]), (q1, aJ G 60 (fun _ => 0))] s.heap _ _ := hw
  refine r_putF cx hw inX1 (ci := 0) rfl tyX1_ok nmX1 hmn 0 rfl 7 (by decide) fl_X1_11 rfl rfl rfl rfl (Nat.le_of_ble_eq_true rfl) (ws' := [(h0, ob 0 [.int 0, .int 0, .int 0, .int 0, .int 0, .int 0, .int 0, .ref q1, .null, .null]), (q1, aJ G 60 (fun _ => 0))]) rfl dX1_init_9 (fun H locs hw => ?_)
  refine lv_aload_n hx hb dX1_init_12 rfl (lv_at hl 0 rfl) ?_
  refine lv_bipush (v := 8) hx hb dX1_init_13 (by decide) ?_
  refine r_newI cx hw hA (N' := 8) (by decide +kernel) (by decide +kernel) (Nat.le_of_ble_eq_true rfl) (Nat.le_of_ble_eq_true rfl) (Nat.le_of_ble_eq_true rfl) dX1_init_15 (fun q2 H hw => ?_)
  have hw : Wd G A [(h0, ob 0 [.int 0, .int 0, .int 0, .int 0, .int 0, .int 0, .int 0, .ref q1, .null, .null]), (q1, aJ G 60 (fun _ => 0)), (q2, aI G 8 (fun _ => 0))] s.heap _ _ := hw
  refine r_putF cx hw inX1 (ci := 0) rfl tyX1_ok nmX1 hmn 0 rfl 8 (by decide) fl_X1_15 rfl rfl rfl rfl (Nat.le_of_ble_eq_true rfl) (ws' := [(h0, ob 0 [.int 0, .int 0, .int 0, .int 0, .int 0, .int 0, .int 0, .ref q1, .ref q2, .null]), (q1, aJ G 60 (fun _ => 0)), (q2, aI G 8 (fun _ => 0))]) rfl dX1_init_17 (fun H locs hw => ?_)
  refine lv_aload_n hx hb dX1_init_20 rfl (lv_at hl 0 rfl) ?_
  refine r_new cx hw hA inX2 (ci := 1) rfl tyX2_ok cl_X1_19 ia_X2 in_X2 nfX2_ok (Nat.le_of_ble_eq_true rfl) (Nat.le_of_ble_eq_true rfl) dX1_init_21 (fun q3 H hw => ?_)
  have hw : Wd G A [(h0, ob 0 [.int 0, .int 0, .int 0, .int 0, .int 0, .int 0, .int 0, .ref q1, .ref q2, .null]), (q1, aJ G 60 (fun _ => 0)), (q2, aI G 8 (fun _ => 0)), (q3, ob 1 [.null, .null, .int 0, .int 0])] s.heap _ _ := hw
  refine lv_dup hx hb dX1_init_24 rfl ?_
  refine lv_bipush (v := 40) hx hb dX1_init_25 (by decide) ?_
  refine r_callIV (As := [.int 40]) (rest := [.ref q3, .ref h0]) (wr := [(h0, ob 0 [.int 0, .int 0, .int 0, .int 0, .int 0, .int 0, .int 0, .ref q1, .ref q2, .null]), (q1, aJ G 60 (fun _ => 0)), (q2, aI G 8 (fun _ => 0))]) cx hw hA (c_Pat40 l G q3) [3] [0, 1, 2] rfl rfl rfl rfl rfl ml_X1_21 im_X2_init in_X2 co_X2_init rfl hd_X2_init rfl ⟨Nat.le_of_ble_eq_true rfl, Nat.le_of_ble_eq_true rfl⟩ hl.1 rfl (Nat.le_of_ble_eq_true rfl) dX1_init_27 ⟨Nat.le_of_ble_eq_true rfl, Nat.le_of_ble_eq_true rfl⟩ (fun u4 H locs hr5 hw => ?_)
  have hw : Wd G A [(h0, ob 0 [.int 0, .int 0, .int 0, .int 0, .int 0, .int 0, .int 0, .ref q1, .ref q2, .null]), (q1, aJ G 60 (fun _ => 0)), (q2, aI G 8 (fun _ => 0)), (q3, ob 1 [.ref (u4 0), .ref (u4 1), .int 0, .int 0]), ((u4 0), aJ G 40 (fun _ => 0)), ((u4 1), aJ G 40 (fun _ => 0))] s.heap _ _ := hw
  refine r_putF cx hw inX1 (ci := 0) rfl tyX1_ok nmX1 hmn 0 rfl 9 (by decide) fl_X1_24 rfl rfl rfl rfl (Nat.le_of_ble_eq_true rfl) (ws' := [(h0, ob 0 [.int 0, .int 0, .int 0, .int 0, .int 0, .int 0, .int 0, .ref q1, .ref q2, .ref q3]), (q1, aJ G 60 (fun _ => 0)), (q2, aI G 8 (fun _ => 0)), (q3, ob 1 [.ref (u4 0), .ref (u4 1), .int 0, .int 0]), ((u4 0), aJ G 40 (fun _ => 0)), ((u4 1), aJ G 40 (fun _ => 0))]) rfl dX1_init_30 (fun H locs hw => ?_)
  refine lv_aload_n hx hb dX1_init_33 rfl (lv_at hl 0 rfl) ?_
  refine r_callVV (As := []) (rest := []) (wr := [(q1, aJ G 60 (fun _ => 0)), ((u4 0), aJ G 40 (fun _ => 0)), ((u4 1), aJ G 40 (fun _ => 0))]) cx hw hA (c_Obegin l G h0 q1 q2 q3 (u4 0) (u4 1) 0 0 0 0 0 0 0 0 0) [0, 2, 3] [1, 4, 5] rfl rfl rfl rfl rfl 0 rfl (ci := 0) rfl ml_X1_28 im_X1_begin se_X1_begin in_X1 co_X1_begin rfl hd_X1_begin rfl ⟨Nat.le_of_ble_eq_true rfl, Nat.le_of_ble_eq_true rfl⟩ hl.1 rfl (Nat.le_of_ble_eq_true rfl) dX1_init_34 ⟨Nat.le_of_ble_eq_true rfl, Nat.le_of_ble_eq_true rfl⟩ (fun u6 H locs hr7 hw => ?_)
  have hw : Wd G A [(q1, aJ G 60 (fun _ => 0)), ((u4 0), aJ G 40 (fun _ => 0)), ((u4 1), aJ G 40 (fun _ => 0)), (h0, ob 0 [.int (-1), .int 0, .int 0, .int 0, .int 0, .int 0, .int 0, .ref q1, .ref q2, .ref q3]), (q2, aI G 8 (fun _ => 0)), (q3, ob 1 [.ref (u4 0), .ref (u4 1), .int 0, .int 0])] s.heap _ _ := hw
  have hw : Wd G A [(h0, ob 0 [.int (-1), .int 0, .int 0, .int 0, .int 0, .int 0, .int 0, .ref q1, .ref q2, .ref q3]), (q1, aJ G 60 (fun _ => 0)), (q2, aI G 8 (fun _ => 0)), (q3, ob 1 [.ref (u4 0), .ref (u4 1), .int 0, .int 0]), ((u4 0), aJ G 40 (fun _ => 0)), ((u4 1), aJ G 40 (fun _ => 0))] s.heap _ _ := hw.sub [3, 0, 4, 5, 1, 2] rfl rfl
  exact r_vret cx hr hlk (fun k => [q1, q2, q3, (u4 0), (u4 1)].getD k 0) trivial hw (Nat.le_of_ble_eq_true rfl) (Nat.le_of_ble_eq_true rfl) dX1_init_37

/-- Numbers.make: the kind above, the bits below -/
def x_make (k b : Int32) : Int64 := (k.toInt64 <<< ((32 : Int32).toInt64 &&& 63)) ||| (b.toInt64 &&& 4294967295)
def fl_reg (i : Nat) : Nat → Int64 := fun j => if j < i then x_make 3 (nI j) else 0
theorem fl_reg_0 : fl_reg 0 = fun _ => 0 := by funext j; simp [fl_reg]
theorem fl_reg_succ (i : Nat) : vp_updL (fl_reg i) i (x_make 3 (nI i)) = fl_reg (i + 1) := by
  funext j
  by_cases h : j = i
  · subst h; simp [vp_updL, fl_reg]
  · by_cases h2 : j < i
    · have h3 : j < i + 1 := by omega
      simp [vp_updL, fl_reg, h, h2, h3]
    · have h3 : ¬ j < i + 1 := by omega
      simp [vp_updL, fl_reg, h, h2, h3]

set_option maxHeartbeats 4000000 in
set_option maxRecDepth 100000 in
theorem c_make (l : Launch) (G : Gt) (k : Int32) (b : Int32) : Mt l yX0_make cX0_make 2 (some .long) ({ frames := 0, cells := 0, slots := 0, locals := 0 } : Room) G [.int k, .int b] [] (qL G (fun (r : Int64) (w : Unit) => r = x_make k b) (fun w => [])) := by
  refine Mt.of (own := RX0) (cc := cX0_make) (by decide) rfl (Nat.le_of_ble_eq_true rfl) ?_
  intro p e s m below meth c A ls cx hr hlk hmn hA hl hw
  have hx := cx.1
  have hb := cx.2.1
  have hl : lv_has ls 2 [(0, .int k), (1, .int b)] := hl
  refine lv_iload_n hx hb dX0_make_0 rfl (lv_at hl 0 rfl) ?_
  refine lv_i2l hx hb dX0_make_1 rfl ?_
  refine lv_topl (fun v1 ev1 => ?_)
  refine lv_bipush (v := 32) hx hb dX0_make_2 (by decide) ?_
  refine lv_lshl hx hb dX0_make_4 rfl ?_
  refine lv_topl (fun v2 ev2 => ?_)
  refine lv_iload_n hx hb dX0_make_5 rfl (lv_at hl 1 rfl) ?_
  refine lv_i2l hx hb dX0_make_6 rfl ?_
  refine lv_topl (fun v3 ev3 => ?_)
  refine lv_ldc2 hx hb cx.2.2.2.1 (cx.2.2.2.2.1 _ cs_X0_7) dX0_make_7 ?_
  refine lv_land hx hb dX0_make_10 ?_
  refine lv_topl (fun v4 ev4 => ?_)
  refine lv_lor hx hb dX0_make_11 ?_
  refine lv_topl (fun v5 ev5 => ?_)
  have hw : Wd G A [] s.heap _ _ := hw.sub [] rfl rfl
  exact r_lret cx hr hlk () (by subst_vars; rfl) hw (Nat.le_of_ble_eq_true rfl) (Nat.le_of_ble_eq_true rfl) dX0_make_12

set_option maxHeartbeats 4000000 in
set_option maxRecDepth 100000 in
theorem c_Worker (l : Launch) (G : Gt) (h0 : Nat) (a1 : Nat) (a2 : Nat) (a3 : Nat) : Mt l yX10_init cX10_init 5 none ({ frames := 2, cells := 10, slots := 1864, locals := 33 } : Room) G [.ref h0, .ref a1, .ref a2, .ref a3] [(h0, ob 9 [.int 0, .int 0, .int 0, .null, .null, .null, .int 0, .int 0, .int 0, .int 0, .null, .null, .int 0, .int 0, .null, .null, .null, .null])] (qV G (fun (w : Nat → Nat) => True) (fun w => [(h0, ob 9 [.int 6, .int 3, .int 120, .ref a1, .ref a2, .ref a3, .int 0, .int 0, .int 0, .int 0, .ref (w 0), .ref (w 1), .int 0, .int 0, .ref (w 2), .ref (w 3), .ref (w 4), .ref (w 5)]), (w 0, aI G 780 (fun _ => 0)), (w 1, aJ G 260 (fun _ => 0)), (w 4, aJ G 8 (fl_reg 8)), (w 5, aJ G 8 (fun _ => 0)), (w 2, ob 1 [.ref (w 6), .ref (w 7), .int 0, .int 0]), (w 6, aJ G 200 (fun _ => 0)), (w 7, aJ G 200 (fun _ => 0)), (w 3, ob 1 [.ref (w 8), .ref (w 9), .int 0, .int 0]), (w 8, aJ G 200 (fun _ => 0)), (w 9, aJ G 200 (fun _ => 0))])) := by
  refine Mt.of (own := RX10) (cc := cX10_init) (by decide) rfl (Nat.le_of_ble_eq_true rfl) ?_
  intro p e s m below meth c A ls cx hr hlk hmn hA hl hw
  have hx := cx.1
  have hb := cx.2.1
  have hl : lv_has ls 5 [(0, .ref h0), (1, .ref a1), (2, .ref a2), (3, .ref a3)] := hl
  refine lv_aload_n hx hb dX10_init_0 rfl (lv_at hl 0 rfl) ?_
  refine r_objInit cx ml_X10_5 hl.1 dX10_init_1 (Nat.le_of_ble_eq_true rfl) (Nat.le_of_ble_eq_true rfl) ?_
  refine lv_aload_n hx hb dX10_init_4 rfl (lv_at hl 0 rfl) ?_
  refine lv_bipush (v := 6) hx hb dX10_init_5 (by decide) ?_
  refine r_put cx hw inX10 (ci := 9) rfl tyX10_ok nmX10 0 rfl 0 (by decide) fl_X10_11 rfl rfl rfl (Nat.le_of_ble_eq_true rfl) (ws' := [(h0, ob 9 [.int 6, .int 0, .int 0, .null, .null, .null, .int 0, .int 0, .int 0, .int 0, .null, .null, .int 0, .int 0, .null, .null, .null, .null])]) rfl dX10_init_7 (fun H locs hw => ?_)
  refine lv_aload_n hx hb dX10_init_10 rfl (lv_at hl 0 rfl) ?_
  refine lv_iconst (v := 3) hx hb dX10_init_11 (by decide) ?_
  refine r_put cx hw inX10 (ci := 9) rfl tyX10_ok nmX10 0 rfl 1 (by decide) fl_X10_15 rfl rfl rfl (Nat.le_of_ble_eq_true rfl) (ws' := [(h0, ob 9 [.int 6, .int 3, .int 0, .null, .null, .null, .int 0, .int 0, .int 0, .int 0, .null, .null, .int 0, .int 0, .null, .null, .null, .null])]) rfl dX10_init_12 (fun H locs hw => ?_)
  refine lv_aload_n hx hb dX10_init_15 rfl (lv_at hl 0 rfl) ?_
  refine lv_bipush (v := 120) hx hb dX10_init_16 (by decide) ?_
  refine r_put cx hw inX10 (ci := 9) rfl tyX10_ok nmX10 0 rfl 2 (by decide) fl_X10_18 rfl rfl rfl (Nat.le_of_ble_eq_true rfl) (ws' := [(h0, ob 9 [.int 6, .int 3, .int 120, .null, .null, .null, .int 0, .int 0, .int 0, .int 0, .null, .null, .int 0, .int 0, .null, .null, .null, .null])]) rfl dX10_init_18 (fun H locs hw => ?_)
  refine lv_aload_n hx hb dX10_init_21 rfl (lv_at hl 0 rfl) ?_
  refine lv_aload_n hx hb dX10_init_22 rfl (lv_at hl 1 rfl) ?_
  refine r_putF cx hw inX10 (ci := 9) rfl tyX10_ok nmX10 hmn 0 rfl 3 (by decide) fl_X10_21 rfl rfl rfl rfl (Nat.le_of_ble_eq_true rfl) (ws' := [(h0, ob 9 [.int 6, .int 3, .int 120, .ref a1, .null, .null, .int 0, .int 0, .int 0, .int 0, .null, .null, .int 0, .int 0, .null, .null, .null, .null])]) rfl dX10_init_23 (fun H locs hw => ?_)
  refine lv_aload_n hx hb dX10_init_26 rfl (lv_at hl 0 rfl) ?_
  refine lv_aload_n hx hb dX10_init_27 rfl (lv_at hl 2 rfl) ?_
  refine r_putF cx hw inX10 (ci := 9) rfl tyX10_ok nmX10 hmn 0 rfl 4 (by decide) fl_X10_25 rfl rfl rfl rfl (Nat.le_of_ble_eq_true rfl) (ws' := [(h0, ob 9 [.int 6, .int 3, .int 120, .ref a1, .ref a2, .null, .int 0, .int 0, .int 0, .int 0, .null, .null, .int 0, .int 0, .null, .null, .null, .null])]) rfl dX10_init_28 (fun H locs hw => ?_)
  refine lv_aload_n hx hb dX10_init_31 rfl (lv_at hl 0 rfl) ?_
  refine lv_aload_n hx hb dX10_init_32 rfl (lv_at hl 3 rfl) ?_
  refine r_put cx hw inX10 (ci := 9) rfl tyX10_ok nmX10 0 rfl 5 (by decide) fl_X10_29 rfl rfl rfl (Nat.le_of_ble_eq_true rfl) (ws' := [(h0, ob 9 [.int 6, .int 3, .int 120, .ref a1, .ref a2, .ref a3, .int 0, .int 0, .int 0, .int 0, .null, .null, .int 0, .int 0, .null, .null, .null, .null])]) rfl dX10_init_33 (fun H locs hw => ?_)
  refine lv_aload_n hx hb dX10_init_36 rfl (lv_at hl 0 rfl) ?_
  refine lv_sipush (v := 780) hx hb dX10_init_37 (by decide) ?_
  refine r_newI cx hw hA (N' := 780) (by decide +kernel) (by decide +kernel) (Nat.le_of_ble_eq_true rfl) (Nat.le_of_ble_eq_true rfl) (Nat.le_of_ble_eq_true rfl) dX10_init_40 (fun q1 H hw => ?_)
  have hw : Wd G A [(h0, ob 9 [.int 6, .int 3, .int 120, .ref a1, .ref a2, .ref a3, .int 0, .int 0, .int 0, .int 0, .null, .null, .int 0, .int 0, .null, .null, .null, .null]), (q1, aI G 780 (fun _ => 0))] s.heap _ _ := hw
  refine r_putF cx hw inX10 (ci := 9) rfl tyX10_ok nmX10 hmn 0 rfl 10 (by decide) fl_X10_33 rfl rfl rfl rfl (Nat.le_of_ble_eq_true rfl) (ws' := [(h0, ob 9 [.int 6, .int 3, .int 120, .ref a1, .ref a2, .ref a3, .int 0, .int 0, .int 0, .int 0, .ref q1, .null, .int 0, .int 0, .null, .null, .null, .null]), (q1, aI G 780 (fun _ => 0))]) rfl dX10_init_42 (fun H locs hw => ?_)
  refine lv_aload_n hx hb dX10_init_45 rfl (lv_at hl 0 rfl) ?_
  refine lv_sipush (v := 260) hx hb dX10_init_46 (by decide) ?_
  refine r_newJ cx hw hA (N' := 260) (by decide +kernel) (by decide +kernel) (Nat.le_of_ble_eq_true rfl) (Nat.le_of_ble_eq_true rfl) (Nat.le_of_ble_eq_true rfl) dX10_init_49 (fun q2 H hw => ?_)
  have hw : Wd G A [(h0, ob 9 [.int 6, .int 3, .int 120, .ref a1, .ref a2, .ref a3, .int 0, .int 0, .int 0, .int 0, .ref q1, .null, .int 0, .int 0, .null, .null, .null, .null]), (q1, aI G 780 (fun _ => 0)), (q2, aJ G 260 (fun _ => 0))] s.heap _ _ := hw
  refine r_putF cx hw inX10 (ci := 9) rfl tyX10_ok nmX10 hmn 0 rfl 11 (by decide) fl_X10_37 rfl rfl rfl rfl (Nat.le_of_ble_eq_true rfl) (ws' := [(h0, ob 9 [.int 6, .int 3, .int 120, .ref a1, .ref a2, .ref a3, .int 0, .int 0, .int 0, .int 0, .ref q1, .ref q2, .int 0, .int 0, .null, .null, .null, .null]), (q1, aI G 780 (fun _ => 0)), (q2, aJ G 260 (fun _ => 0))]) rfl dX10_init_51 (fun H locs hw => ?_)
  refine lv_aload_n hx hb dX10_init_54 rfl (lv_at hl 0 rfl) ?_
  refine r_new cx hw hA inX2 (ci := 1) rfl tyX2_ok cl_X10_41 ia_X2 in_X2 nfX2_ok (Nat.le_of_ble_eq_true rfl) (Nat.le_of_ble_eq_true rfl) dX10_init_55 (fun q3 H hw => ?_)
  have hw : Wd G A [(h0, ob 9 [.int 6, .int 3, .int 120, .ref a1, .ref a2, .ref a3, .int 0, .int 0, .int 0, .int 0, .ref q1, .ref q2, .int 0, .int 0, .null, .null, .null, .null]), (q1, aI G 780 (fun _ => 0)), (q2, aJ G 260 (fun _ => 0)), (q3, ob 1 [.null, .null, .int 0, .int 0])] s.heap _ _ := hw
  refine lv_dup hx hb dX10_init_58 rfl ?_
  refine lv_sipush (v := 200) hx hb dX10_init_59 (by decide) ?_
  refine r_callIV (As := [.int 200]) (rest := [.ref q3, .ref h0]) (wr := [(h0, ob 9 [.int 6, .int 3, .int 120, .ref a1, .ref a2, .ref a3, .int 0, .int 0, .int 0, .int 0, .ref q1, .ref q2, .int 0, .int 0, .null, .null, .null, .null]), (q1, aI G 780 (fun _ => 0)), (q2, aJ G 260 (fun _ => 0))]) cx hw hA (c_Pat200 l G q3) [3] [0, 1, 2] rfl rfl rfl rfl rfl ml_X10_43 im_X2_init in_X2 co_X2_init rfl hd_X2_init rfl ⟨Nat.le_of_ble_eq_true rfl, Nat.le_of_ble_eq_true rfl⟩ hl.1 rfl (Nat.le_of_ble_eq_true rfl) dX10_init_62 ⟨Nat.le_of_ble_eq_true rfl, Nat.le_of_ble_eq_true rfl⟩ (fun u4 H locs hr5 hw => ?_)
  have hw : Wd G A [(h0, ob 9 [.int 6, .int 3, .int 120, .ref a1, .ref a2, .ref a3, .int 0, .int 0, .int 0, .int 0, .ref q1, .ref q2, .int 0, .int 0, .null, .null, .null, .null]), (q1, aI G 780 (fun _ => 0)), (q2, aJ G 260 (fun _ => 0)), (q3, ob 1 [.ref (u4 0), .ref (u4 1), .int 0, .int 0]), ((u4 0), aJ G 200 (fun _ => 0)), ((u4 1), aJ G 200 (fun _ => 0))] s.heap _ _ := hw
  refine r_put cx hw inX10 (ci := 9) rfl tyX10_ok nmX10 0 rfl 14 (by decide) fl_X10_46 rfl rfl rfl (Nat.le_of_ble_eq_true rfl) (ws' := [(h0, ob 9 [.int 6, .int 3, .int 120, .ref a1, .ref a2, .ref a3, .int 0, .int 0, .int 0, .int 0, .ref q1, .ref q2, .int 0, .int 0, .ref q3, .null, .null, .null]), (q1, aI G 780 (fun _ => 0)), (q2, aJ G 260 (fun _ => 0)), (q3, ob 1 [.ref (u4 0), .ref (u4 1), .int 0, .int 0]), ((u4 0), aJ G 200 (fun _ => 0)), ((u4 1), aJ G 200 (fun _ => 0))]) rfl dX10_init_65 (fun H locs hw => ?_)
  refine lv_aload_n hx hb dX10_init_68 rfl (lv_at hl 0 rfl) ?_
  refine r_new cx hw hA inX2 (ci := 1) rfl tyX2_ok cl_X10_41 ia_X2 in_X2 nfX2_ok (Nat.le_of_ble_eq_true rfl) (Nat.le_of_ble_eq_true rfl) dX10_init_69 (fun q6 H hw => ?_)
  have hw : Wd G A [(h0, ob 9 [.int 6, .int 3, .int 120, .ref a1, .ref a2, .ref a3, .int 0, .int 0, .int 0, .int 0, .ref q1, .ref q2, .int 0, .int 0, .ref q3, .null, .null, .null]), (q1, aI G 780 (fun _ => 0)), (q2, aJ G 260 (fun _ => 0)), (q3, ob 1 [.ref (u4 0), .ref (u4 1), .int 0, .int 0]), ((u4 0), aJ G 200 (fun _ => 0)), ((u4 1), aJ G 200 (fun _ => 0)), (q6, ob 1 [.null, .null, .int 0, .int 0])] s.heap _ _ := hw
  refine lv_dup hx hb dX10_init_72 rfl ?_
  refine lv_sipush (v := 200) hx hb dX10_init_73 (by decide) ?_
  refine r_callIV (As := [.int 200]) (rest := [.ref q6, .ref h0]) (wr := [(h0, ob 9 [.int 6, .int 3, .int 120, .ref a1, .ref a2, .ref a3, .int 0, .int 0, .int 0, .int 0, .ref q1, .ref q2, .int 0, .int 0, .ref q3, .null, .null, .null]), (q1, aI G 780 (fun _ => 0)), (q2, aJ G 260 (fun _ => 0)), (q3, ob 1 [.ref (u4 0), .ref (u4 1), .int 0, .int 0]), ((u4 0), aJ G 200 (fun _ => 0)), ((u4 1), aJ G 200 (fun _ => 0))]) cx hw hA (c_Pat200 l G q6) [6] [0, 1, 2, 3, 4, 5] rfl rfl rfl rfl rfl ml_X10_43 im_X2_init in_X2 co_X2_init rfl hd_X2_init rfl ⟨Nat.le_of_ble_eq_true rfl, Nat.le_of_ble_eq_true rfl⟩ hl.1 rfl (Nat.le_of_ble_eq_true rfl) dX10_init_76 ⟨Nat.le_of_ble_eq_true rfl, Nat.le_of_ble_eq_true rfl⟩ (fun u7 H locs hr8 hw => ?_)
  have hw : Wd G A [(h0, ob 9 [.int 6, .int 3, .int 120, .ref a1, .ref a2, .ref a3, .int 0, .int 0, .int 0, .int 0, .ref q1, .ref q2, .int 0, .int 0, .ref q3, .null, .null, .null]), (q1, aI G 780 (fun _ => 0)), (q2, aJ G 260 (fun _ => 0)), (q3, ob 1 [.ref (u4 0), .ref (u4 1), .int 0, .int 0]), ((u4 0), aJ G 200 (fun _ => 0)), ((u4 1), aJ G 200 (fun _ => 0)), (q6, ob 1 [.ref (u7 0), .ref (u7 1), .int 0, .int 0]), ((u7 0), aJ G 200 (fun _ => 0)), ((u7 1), aJ G 200 (fun _ => 0))] s.heap _ _ := hw
  refine r_put cx hw inX10 (ci := 9) rfl tyX10_ok nmX10 0 rfl 15 (by decide) fl_X10_50 rfl rfl rfl (Nat.le_of_ble_eq_true rfl) (ws' := [(h0, ob 9 [.int 6, .int 3, .int 120, .ref a1, .ref a2, .ref a3, .int 0, .int 0, .int 0, .int 0, .ref q1, .ref q2, .int 0, .int 0, .ref q3, .ref q6, .null, .null]), (q1, aI G 780 (fun _ => 0)), (q2, aJ G 260 (fun _ => 0)), (q3, ob 1 [.ref (u4 0), .ref (u4 1), .int 0, .int 0]), ((u4 0), aJ G 200 (fun _ => 0)), ((u4 1), aJ G 200 (fun _ => 0)), (q6, ob 1 [.ref (u7 0), .ref (u7 1), .int 0, .int 0]), ((u7 0), aJ G 200 (fun _ => 0)), ((u7 1), aJ G 200 (fun _ => 0))]) rfl dX10_init_79 (fun H locs hw => ?_)
  refine lv_aload_n hx hb dX10_init_82 rfl (lv_at hl 0 rfl) ?_
  refine lv_bipush (v := 8) hx hb dX10_init_83 (by decide) ?_
  refine r_newJ cx hw hA (N' := 8) (by decide +kernel) (by decide +kernel) (Nat.le_of_ble_eq_true rfl) (Nat.le_of_ble_eq_true rfl) (Nat.le_of_ble_eq_true rfl) dX10_init_85 (fun q9 H hw => ?_)
  have hw : Wd G A [(h0, ob 9 [.int 6, .int 3, .int 120, .ref a1, .ref a2, .ref a3, .int 0, .int 0, .int 0, .int 0, .ref q1, .ref q2, .int 0, .int 0, .ref q3, .ref q6, .null, .null]), (q1, aI G 780 (fun _ => 0)), (q2, aJ G 260 (fun _ => 0)), (q3, ob 1 [.ref (u4 0), .ref (u4 1), .int 0, .int 0]), ((u4 0), aJ G 200 (fun _ => 0)), ((u4 1), aJ G 200 (fun _ => 0)), (q6, ob 1 [.ref (u7 0), .ref (u7 1), .int 0, .int 0]), ((u7 0), aJ G 200 (fun _ => 0)), ((u7 1), aJ G 200 (fun _ => 0)), (q9, aJ G 8 (fun _ => 0))] s.heap _ _ := hw
  refine r_putF cx hw inX10 (ci := 9) rfl tyX10_ok nmX10 hmn 0 rfl 16 (by decide) fl_X10_55 rfl rfl rfl rfl (Nat.le_of_ble_eq_true rfl) (ws' := [(h0, ob 9 [.int 6, .int 3, .int 120, .ref a1, .ref a2, .ref a3, .int 0, .int 0, .int 0, .int 0, .ref q1, .ref q2, .int 0, .int 0, .ref q3, .ref q6, .ref q9, .null]), (q1, aI G 780 (fun _ => 0)), (q2, aJ G 260 (fun _ => 0)), (q3, ob 1 [.ref (u4 0), .ref (u4 1), .int 0, .int 0]), ((u4 0), aJ G 200 (fun _ => 0)), ((u4 1), aJ G 200 (fun _ => 0)), (q6, ob 1 [.ref (u7 0), .ref (u7 1), .int 0, .int 0]), ((u7 0), aJ G 200 (fun _ => 0)), ((u7 1), aJ G 200 (fun _ => 0)), (q9, aJ G 8 (fun _ => 0))]) rfl dX10_init_87 (fun H locs hw => ?_)
  refine lv_aload_n hx hb dX10_init_90 rfl (lv_at hl 0 rfl) ?_
  refine lv_bipush (v := 8) hx hb dX10_init_91 (by decide) ?_
  refine r_newJ cx hw hA (N' := 8) (by decide +kernel) (by decide +kernel) (Nat.le_of_ble_eq_true rfl) (Nat.le_of_ble_eq_true rfl) (Nat.le_of_ble_eq_true rfl) dX10_init_93 (fun q10 H hw => ?_)
  have hw : Wd G A [(h0, ob 9 [.int 6, .int 3, .int 120, .ref a1, .ref a2, .ref a3, .int 0, .int 0, .int 0, .int 0, .ref q1, .ref q2, .int 0, .int 0, .ref q3, .ref q6, .ref q9, .null]), (q1, aI G 780 (fun _ => 0)), (q2, aJ G 260 (fun _ => 0)), (q3, ob 1 [.ref (u4 0), .ref (u4 1), .int 0, .int 0]), ((u4 0), aJ G 200 (fun _ => 0)), ((u4 1), aJ G 200 (fun _ => 0)), (q6, ob 1 [.ref (u7 0), .ref (u7 1), .int 0, .int 0]), ((u7 0), aJ G 200 (fun _ => 0)), ((u7 1), aJ G 200 (fun _ => 0)), (q9, aJ G 8 (fun _ => 0)), (q10, aJ G 8 (fun _ => 0))] s.heap _ _ := hw
  refine r_putF cx hw inX10 (ci := 9) rfl tyX10_ok nmX10 hmn 0 rfl 17 (by decide) fl_X10_58 rfl rfl rfl rfl (Nat.le_of_ble_eq_true rfl) (ws' := [(h0, ob 9 [.int 6, .int 3, .int 120, .ref a1, .ref a2, .ref a3, .int 0, .int 0, .int 0, .int 0, .ref q1, .ref q2, .int 0, .int 0, .ref q3, .ref q6, .ref q9, .ref q10]), (q1, aI G 780 (fun _ => 0)), (q2, aJ G 260 (fun _ => 0)), (q3, ob 1 [.ref (u4 0), .ref (u4 1), .int 0, .int 0]), ((u4 0), aJ G 200 (fun _ => 0)), ((u4 1), aJ G 200 (fun _ => 0)), (q6, ob 1 [.ref (u7 0), .ref (u7 1), .int 0, .int 0]), ((u7 0), aJ G 200 (fun _ => 0)), ((u7 1), aJ G 200 (fun _ => 0)), (q9, aJ G 8 (fun _ => 0)), (q10, aJ G 8 (fun _ => 0))]) rfl dX10_init_95 (fun H locs hw => ?_)
  refine lv_iconst (v := 0) hx hb dX10_init_98 (by decide) ?_
  refine lv_istore (lv' := [(4, .int 0), (0, .ref h0), (1, .ref a1), (2, .ref a2), (3, .ref a3)]) hx hb dX10_init_99 hl (by decide) rfl (fun ls hl => ?_)
  refine r_loop (N := 8) (fun k H locs ls => lv_has ls 5 [(4, .int (nI k)), (0, .ref h0), (1, .ref a1), (2, .ref a2), (3, .ref a3)] ∧ Wd G A [(h0, ob 9 [.int 6, .int 3, .int 120, .ref a1, .ref a2, .ref a3, .int 0, .int 0, .int 0, .int 0, .ref q1, .ref q2, .int 0, .int 0, .ref q3, .ref q6, .ref q9, .ref q10]), (q1, aI G 780 (fun _ => 0)), (q2, aJ G 260 (fun _ => 0)), (q3, ob 1 [.ref (u4 0), .ref (u4 1), .int 0, .int 0]), ((u4 0), aJ G 200 (fun _ => 0)), ((u4 1), aJ G 200 (fun _ => 0)), (q6, ob 1 [.ref (u7 0), .ref (u7 1), .int 0, .int 0]), ((u7 0), aJ G 200 (fun _ => 0)), ((u7 1), aJ G 200 (fun _ => 0)), (q9, aJ G 8 (fl_reg k)), (q10, aJ G 8 (fun _ => 0))] s.heap H locs) ?_ ?_ 0 (Nat.zero_le _) _ _ _ ⟨lv_sub hl [0, 1, 2, 3, 4] rfl, (by rw [fl_reg_0]; exact hw)⟩
  · intro H locs ls h9
    obtain ⟨hl, hw⟩ := h9
    have hl : lv_has ls 5 [(4, .int 8), (0, .ref h0), (1, .ref a1), (2, .ref a2), (3, .ref a3)] := hl
    have hw : Wd G A [(h0, ob 9 [.int 6, .int 3, .int 120, .ref a1, .ref a2, .ref a3, .int 0, .int 0, .int 0, .int 0, .ref q1, .ref q2, .int 0, .int 0, .ref q3, .ref q6, .ref q9, .ref q10]), (q1, aI G 780 (fun _ => 0)), (q2, aJ G 260 (fun _ => 0)), (q3, ob 1 [.ref (u4 0), .ref (u4 1), .int 0, .int 0]), ((u4 0), aJ G 200 (fun _ => 0)), ((u4 1), aJ G 200 (fun _ => 0)), (q6, ob 1 [.ref (u7 0), .ref (u7 1), .int 0, .int 0]), ((u7 0), aJ G 200 (fun _ => 0)), ((u7 1), aJ G 200 (fun _ => 0)), (q9, aJ G 8 (fl_reg 8)), (q10, aJ G 8 (fun _ => 0))] s.heap _ _ := hw
    refine lv_iload hx hb dX10_init_101 (lv_at hl 0 rfl) ?_
    refine lv_bipush (v := 8) hx hb dX10_init_103 (by decide) ?_
    refine lv_icmp_ge (tgt := 127) hx hb dX10_init_105 (by decide) (fun _ => ?_) (fun c9 => absurd (by decide) c9)
    have hw : Wd G A [(h0, ob 9 [.int 6, .int 3, .int 120, .ref a1, .ref a2, .ref a3, .int 0, .int 0, .int 0, .int 0, .ref q1, .ref q2, .int 0, .int 0, .ref q3, .ref q6, .ref q9, .ref q10]), (q1, aI G 780 (fun _ => 0)), (q2, aJ G 260 (fun _ => 0)), (q9, aJ G 8 (fl_reg 8)), (q10, aJ G 8 (fun _ => 0)), (q3, ob 1 [.ref (u4 0), .ref (u4 1), .int 0, .int 0]), ((u4 0), aJ G 200 (fun _ => 0)), ((u4 1), aJ G 200 (fun _ => 0)), (q6, ob 1 [.ref (u7 0), .ref (u7 1), .int 0, .int 0]), ((u7 0), aJ G 200 (fun _ => 0)), ((u7 1), aJ G 200 (fun _ => 0))] s.heap _ _ := hw.sub [0, 1, 2, 9, 10, 3, 4, 5, 6, 7, 8] rfl rfl
    exact r_vret cx hr hlk (fun k => [q1, q2, q3, q6, q9, q10, (u4 0), (u4 1), (u7 0), (u7 1)].getD k 0) trivial hw (Nat.le_of_ble_eq_true rfl) (Nat.le_of_ble_eq_true rfl) dX10_init_127
  · intro k H locs ls hk h9 ih
    obtain ⟨hl, hw⟩ := h9
    refine lv_iload hx hb dX10_init_101 (lv_at hl 0 rfl) ?_
    refine lv_bipush (v := 8) hx hb dX10_init_103 (by decide) ?_
    refine lv_icmp_ge (tgt := 127) hx hb dX10_init_105 (by decide) (fun c9 => absurd c9 (nI_ge hk (by decide))) (fun _ => ?_)
    refine lv_aload_n hx hb dX10_init_108 rfl (lv_at hl 1 rfl) ?_
    refine r_get cx hw inX10 (ci := 9) rfl 0 rfl 16 (by decide) fl_X10_55 rfl dX10_init_109 ?_
    refine lv_iload hx hb dX10_init_112 (lv_at hl 0 rfl) ?_
    refine lv_iconst (v := 3) hx hb dX10_init_114 (by decide) ?_
    refine lv_iload hx hb dX10_init_115 (lv_at hl 0 rfl) ?_
    refine r_callS0L (As := [.int 3, .int (nI k)]) (rest := [.int (nI k), .ref q9]) cx hw hA (c_make l G 3 (nI k)) ml_X10_63 st_X0_make in_X0 co_X0_make hd_X0_make rfl ⟨Nat.le_of_ble_eq_true rfl, Nat.le_of_ble_eq_true rfl⟩ hl.1 rfl (Nat.le_of_ble_eq_true rfl) dX10_init_117 ⟨Nat.le_of_ble_eq_true rfl, Nat.le_of_ble_eq_true rfl⟩ (fun r13 H locs hr13 hw => ?_)
    have h9 := Eq.symm hr13
    subst h9
    refine r_last cx hw 9 rfl (vp_in_nI hk (by decide)) (ws' := [(h0, ob 9 [.int 6, .int 3, .int 120, .ref a1, .ref a2, .ref a3, .int 0, .int 0, .int 0, .int 0, .ref q1, .ref q2, .int 0, .int 0, .ref q3, .ref q6, .ref q9, .ref q10]), (q1, aI G 780 (fun _ => 0)), (q2, aJ G 260 (fun _ => 0)), (q3, ob 1 [.ref (u4 0), .ref (u4 1), .int 0, .int 0]), ((u4 0), aJ G 200 (fun _ => 0)), ((u4 1), aJ G 200 (fun _ => 0)), (q6, ob 1 [.ref (u7 0), .ref (u7 1), .int 0, .int 0]), ((u7 0), aJ G 200 (fun _ => 0)), ((u7 1), aJ G 200 (fun _ => 0)), (q9, aJ G 8 (fl_reg (k + 1))), (q10, aJ G 8 (fun _ => 0))]) (by rw [nI_clamp (Nat.lt_trans hk (by decide))]; simp only [fl_reg_succ]; rfl) dX10_init_120 (fun H locs hw => ?_)
    refine lv_iinc (v := nI (k + 1)) (lv' := [(4, .int (nI (k + 1))), (0, .ref h0), (1, .ref a1), (2, .ref a2), (3, .ref a3)]) hx hb dX10_init_121 hl (k := 0) rfl (nI_1 k) (by decide) rfl (fun ls hl => ?_)
    refine lv_goto (tgt := 101) hx hb dX10_init_124 (by decide) ?_
    exact ih H locs ls ⟨lv_sub hl [0, 1, 2, 3, 4] rfl, hw.sub [0, 1, 2, 3, 4, 5, 6, 7, 8, 9, 10] rfl rfl⟩

