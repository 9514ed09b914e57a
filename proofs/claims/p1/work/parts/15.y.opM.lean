set_option maxHeartbeats 4000000 in
set_option maxRecDepth 100000 in
theorem ma_op (l : Launch) (G : Gt) (h0 : Nat) (u : Nat → Nat) (a : Int32) (g : Int32) (d : Int32) : Mt l yX12_op cX12_op 4 (some .int) ({ frames := 5, cells := 0, slots := 0, locals := 111 } : Room) G [.ref h0, .int a, .int g, .int d] [(h0, ob 11 [.int 0, .int 0, .ref (u 0), .int 0, .int 0, .int (-1), .int 0, .int 0, .ref (u 1), .ref (u 2), .ref (u 3), .ref (u 4), .ref (u 5), .ref (u 6), .ref (u 7), .ref (u 8), .ref (u 9), .int 0, .int 0, .ref (u 10), .ref (u 11), .ref (u 12), .ref (u 13), .ref (u 14), .ref (u 15), .ref (u 16), .ref (u 17), .int 0, .int 0, .ref (u 18), .ref (u 19), .ref (u 20), .int 0, .ref (u 21), .ref (u 22), .ref (u 23), .int 0, .int 0, .ref (u 24), .ref (u 25), .ref (u 26), .ref (u 27), .int 1, .int 0, .int 0, .int 0, .int 0, .int 0, .int 0, .int 0, .ref (u 28), .ref (u 29), .ref (u 30), .ref (u 31), .ref (u 32), .ref (u 33), .int 0, .ref (u 34), .int 0, .ref (u 35), .ref (u 36), .ref (u 37), .ref (u 38), .ref (u 39), .ref (u 40), .int 0, .int 0, .int 0, .int 0, .int 0, .ref (u 41), .ref (u 42), .ref (u 43), .int 0, .ref (u 44), .int 0, .int 0, .int 0, .ref (u 45), .ref (u 46), .ref (u 47), .ref (u 48), .ref (u 49), .ref (u 50), .ref (u 51), .ref (u 52), .ref (u 53), .int 0, .int 0, .int 0, .int 0, .int 0, .int 0, .int 0, .int 0, .int 0, .int 0, .int 0, .ref (u 54), .ref (u 55), .ref (u 56), .ref (u 57), .ref (u 58), .ref (u 59), .ref (u 60), .ref (u 61), .ref (u 62), .ref (u 63), .ref (u 64), .ref (u 65), .int 0, .int 0, .ref (u 66), .ref (u 67), .ref (u 68), .ref (u 69), .ref (u 70), .ref (u 71), .int 0, .ref (u 72), .ref (u 73), .ref (u 74), .int 0, .ref (u 75), .ref (u 76), .ref (u 77), .int 0, .ref (u 78), .ref (u 79), .ref (u 80), .ref (u 81), .ref (u 82), .int 0, .int 0, .ref (u 83), .ref (u 84), .ref (u 85), .ref (u 86), .ref (u 87), .int 0, .ref (u 88)])] (qI G (fun (r : Int32) (w : Unit) => r = fop a g d) (fun w => [])) := by
  refine Mt.of (own := RX12) (cc := cX12_op) (by decide) rfl (Nat.le_of_ble_eq_true rfl) ?_
  intro p e s m below meth c A ls cx hr hlk hmn hA hl hw
  have hx := cx.1
  have hb := cx.2.1
  have hl : lv_has ls 4 [(0, .ref h0), (1, .int a), (2, .int g), (3, .int d)] := hl
  refine lv_iload_n hx hb dX12_op_0 rfl (lv_at hl 2 rfl) ?_
  refine r_callS0I (As := [.int g]) (rest := []) cx hw hA (k_misSign l G g) ml_X12_345 st_X12_isSign in_X12 co_X12_isSign hd_X12_isSign rfl ⟨Nat.le_of_ble_eq_true rfl, Nat.le_of_ble_eq_true rfl⟩ hl.1 rfl (Nat.le_of_ble_eq_true rfl) dX12_op_1 ⟨Nat.le_of_ble_eq_true rfl, Nat.le_of_ble_eq_true rfl⟩ (fun r2 H locs hr2 hw => ?_)
  rcases hr2 with hr2 | hr2
  · obtain ⟨c3, hr2⟩ := hr2
    subst hr2
    subst c3
    refine lv_if_ne (tgt := 9) hx hb dX12_op_4 (by decide) (fun _ => ?_) (fun c9 => absurd c9 (by decide))
    refine lv_aload_n hx hb dX12_op_9 rfl (lv_at hl 0 rfl) ?_
    refine lv_iload_n hx hb dX12_op_10 rfl (lv_at hl 2 rfl) ?_
    refine lv_iconst (v := 1) hx hb dX12_op_11 (by decide) ?_
    refine lv_iload_n hx hb dX12_op_12 rfl (lv_at hl 1 rfl) ?_
    refine lv_iconst (v := 1) hx hb dX12_op_13 (by decide) ?_
    refine lv_iload_n hx hb dX12_op_14 rfl (lv_at hl 3 rfl) ?_
    refine r_callVV (As := [.int 43, .int 1, .int a, .int 1, .int d]) (rest := []) (wr := []) cx hw hA (g_j43 l G h0 u a d) [0] [] rfl rfl rfl rfl rfl 0 rfl (ci := 11) rfl ml_X12_348 im_X12_join se_X12_join in_X12 co_X12_join rfl hd_X12_join rfl ⟨Nat.le_of_ble_eq_true rfl, Nat.le_of_ble_eq_true rfl⟩ hl.1 rfl (Nat.le_of_ble_eq_true rfl) dX12_op_15 ⟨Nat.le_of_ble_eq_true rfl, Nat.le_of_ble_eq_true rfl⟩ (fun u4 H locs hr5 hw => ?_)
    have hw : Wd G A [(h0, ob 11 [.int 1, .int (m_ap43 a d), .ref (u 0), .int 0, .int 0, .int (-1), .int 0, .int 0, .ref (u 1), .ref (u 2), .ref (u 3), .ref (u 4), .ref (u 5), .ref (u 6), .ref (u 7), .ref (u 8), .ref (u 9), .int 0, .int 0, .ref (u 10), .ref (u 11), .ref (u 12), .ref (u 13), .ref (u 14), .ref (u 15), .ref (u 16), .ref (u 17), .int 0, .int 0, .ref (u 18), .ref (u 19), .ref (u 20), .int 0, .ref (u 21), .ref (u 22), .ref (u 23), .int 0, .int 0, .ref (u 24), .ref (u 25), .ref (u 26), .ref (u 27), .int 1, .int 0, .int 0, .int 0, .int 0, .int 0, .int 0, .int 0, .ref (u 28), .ref (u 29), .ref (u 30), .ref (u 31), .ref (u 32), .ref (u 33), .int 0, .ref (u 34), .int 0, .ref (u 35), .ref (u 36), .ref (u 37), .ref (u 38), .ref (u 39), .ref (u 40), .int 0, .int 0, .int 0, .int 0, .int 0, .ref (u 41), .ref (u 42), .ref (u 43), .int 0, .ref (u 44), .int 0, .int 0, .int 0, .ref (u 45), .ref (u 46), .ref (u 47), .ref (u 48), .ref (u 49), .ref (u 50), .ref (u 51), .ref (u 52), .ref (u 53), .int 0, .int 0, .int 0, .int 0, .int 0, .int 0, .int 0, .int 0, .int 0, .int 0, .int 0, .ref (u 54), .ref (u 55), .ref (u 56), .ref (u 57), .ref (u 58), .ref (u 59), .ref (u 60), .ref (u 61), .ref (u 62), .ref (u 63), .ref (u 64), .ref (u 65), .int 0, .int 0, .ref (u 66), .ref (u 67), .ref (u 68), .ref (u 69), .ref (u 70), .ref (u 71), .int 0, .ref (u 72), .ref (u 73), .ref (u 74), .int 0, .ref (u 75), .ref (u 76), .ref (u 77), .int 0, .ref (u 78), .ref (u 79), .ref (u 80), .ref (u 81), .ref (u 82), .int 0, .int 0, .ref (u 83), .ref (u 84), .ref (u 85), .ref (u 86), .ref (u 87), .int 0, .ref (u 88)])] s.heap _ _ := hw
    refine lv_aload_n hx hb dX12_op_18 rfl (lv_at hl 0 rfl) ?_
    refine r_get cx hw inX12 (ci := 11) rfl 0 rfl 1 (by decide) fl_X12_308 rfl dX12_op_19 ?_
    have hw : Wd G A [] s.heap _ _ := hw.sub [] rfl rfl
    exact r_iret cx hr hlk () (eq43 a d) hw (Nat.le_of_ble_eq_true rfl) (Nat.le_of_ble_eq_true rfl) dX12_op_22
  rcases hr2 with hr2 | hr2
  · obtain ⟨c6, hr2⟩ := hr2
    subst hr2
    subst c6
    refine lv_if_ne (tgt := 9) hx hb dX12_op_4 (by decide) (fun _ => ?_) (fun c9 => absurd c9 (by decide))
    refine lv_aload_n hx hb dX12_op_9 rfl (lv_at hl 0 rfl) ?_
    refine lv_iload_n hx hb dX12_op_10 rfl (lv_at hl 2 rfl) ?_
    refine lv_iconst (v := 1) hx hb dX12_op_11 (by decide) ?_
    refine lv_iload_n hx hb dX12_op_12 rfl (lv_at hl 1 rfl) ?_
    refine lv_iconst (v := 1) hx hb dX12_op_13 (by decide) ?_
    refine lv_iload_n hx hb dX12_op_14 rfl (lv_at hl 3 rfl) ?_
    refine r_callVV (As := [.int 45, .int 1, .int a, .int 1, .int d]) (rest := []) (wr := []) cx hw hA (g_j45 l G h0 u a d) [0] [] rfl rfl rfl rfl rfl 0 rfl (ci := 11) rfl ml_X12_348 im_X12_join se_X12_join in_X12 co_X12_join rfl hd_X12_join rfl ⟨Nat.le_of_ble_eq_true rfl, Nat.le_of_ble_eq_true rfl⟩ hl.1 rfl (Nat.le_of_ble_eq_true rfl) dX12_op_15 ⟨Nat.le_of_ble_eq_true rfl, Nat.le_of_ble_eq_true rfl⟩ (fun u7 H locs hr8 hw => ?_)
    have hw : Wd G A [(h0, ob 11 [.int 1, .int (m_ap45 a d), .ref (u 0), .int 0, .int 0, .int (-1), .int 0, .int 0, .ref (u 1), .ref (u 2), .ref (u 3), .ref (u 4), .ref (u 5), .ref (u 6), .ref (u 7), .ref (u 8), .ref (u 9), .int 0, .int 0, .ref (u 10), .ref (u 11), .ref (u 12), .ref (u 13), .ref (u 14), .ref (u 15), .ref (u 16), .ref (u 17), .int 0, .int 0, .ref (u 18), .ref (u 19), .ref (u 20), .int 0, .ref (u 21), .ref (u 22), .ref (u 23), .int 0, .int 0, .ref (u 24), .ref (u 25), .ref (u 26), .ref (u 27), .int 1, .int 0, .int 0, .int 0, .int 0, .int 0, .int 0, .int 0, .ref (u 28), .ref (u 29), .ref (u 30), .ref (u 31), .ref (u 32), .ref (u 33), .int 0, .ref (u 34), .int 0, .ref (u 35), .ref (u 36), .ref (u 37), .ref (u 38), .ref (u 39), .ref (u 40), .int 0, .int 0, .int 0, .int 0, .int 0, .ref (u 41), .ref (u 42), .ref (u 43), .int 0, .ref (u 44), .int 0, .int 0, .int 0, .ref (u 45), .ref (u 46), .ref (u 47), .ref (u 48), .ref (u 49), .ref (u 50), .ref (u 51), .ref (u 52), .ref (u 53), .int 0, .int 0, .int 0, .int 0, .int 0, .int 0, .int 0, .int 0, .int 0, .int 0, .int 0, .ref (u 54), .ref (u 55), .ref (u 56), .ref (u 57), .ref (u 58), .ref (u 59), .ref (u 60), .ref (u 61), .ref (u 62), .ref (u 63), .ref (u 64), .ref (u 65), .int 0, .int 0, .ref (u 66), .ref (u 67), .ref (u 68), .ref (u 69), .ref (u 70), .ref (u 71), .int 0, .ref (u 72), .ref (u 73), .ref (u 74), .int 0, .ref (u 75), .ref (u 76), .ref (u 77), .int 0, .ref (u 78), .ref (u 79), .ref (u 80), .ref (u 81), .ref (u 82), .int 0, .int 0, .ref (u 83), .ref (u 84), .ref (u 85), .ref (u 86), .ref (u 87), .int 0, .ref (u 88)])] s.heap _ _ := hw
    refine lv_aload_n hx hb dX12_op_18 rfl (lv_at hl 0 rfl) ?_
    refine r_get cx hw inX12 (ci := 11) rfl 0 rfl 1 (by decide) fl_X12_308 rfl dX12_op_19 ?_
    have hw : Wd G A [] s.heap _ _ := hw.sub [] rfl rfl
    exact r_iret cx hr hlk () (eq45 a d) hw (Nat.le_of_ble_eq_true rfl) (Nat.le_of_ble_eq_true rfl) dX12_op_22
  rcases hr2 with hr2 | hr2
  · obtain ⟨c9, hr2⟩ := hr2
    subst hr2
    subst c9
    refine lv_if_ne (tgt := 9) hx hb dX12_op_4 (by decide) (fun _ => ?_) (fun c9 => absurd c9 (by decide))
    refine lv_aload_n hx hb dX12_op_9 rfl (lv_at hl 0 rfl) ?_
    refine lv_iload_n hx hb dX12_op_10 rfl (lv_at hl 2 rfl) ?_
    refine lv_iconst (v := 1) hx hb dX12_op_11 (by decide) ?_
    refine lv_iload_n hx hb dX12_op_12 rfl (lv_at hl 1 rfl) ?_
    refine lv_iconst (v := 1) hx hb dX12_op_13 (by decide) ?_
    refine lv_iload_n hx hb dX12_op_14 rfl (lv_at hl 3 rfl) ?_
    refine r_callVV (As := [.int 42, .int 1, .int a, .int 1, .int d]) (rest := []) (wr := []) cx hw hA (g_j42 l G h0 u a d) [0] [] rfl rfl rfl rfl rfl 0 rfl (ci := 11) rfl ml_X12_348 im_X12_join se_X12_join in_X12 co_X12_join rfl hd_X12_join rfl ⟨Nat.le_of_ble_eq_true rfl, Nat.le_of_ble_eq_true rfl⟩ hl.1 rfl (Nat.le_of_ble_eq_true rfl) dX12_op_15 ⟨Nat.le_of_ble_eq_true rfl, Nat.le_of_ble_eq_true rfl⟩ (fun u10 H locs hr11 hw => ?_)
    have hw : Wd G A [(h0, ob 11 [.int 1, .int (m_ap42 a d), .ref (u 0), .int 0, .int 0, .int (-1), .int 0, .int 0, .ref (u 1), .ref (u 2), .ref (u 3), .ref (u 4), .ref (u 5), .ref (u 6), .ref (u 7), .ref (u 8), .ref (u 9), .int 0, .int 0, .ref (u 10), .ref (u 11), .ref (u 12), .ref (u 13), .ref (u 14), .ref (u 15), .ref (u 16), .ref (u 17), .int 0, .int 0, .ref (u 18), .ref (u 19), .ref (u 20), .int 0, .ref (u 21), .ref (u 22), .ref (u 23), .int 0, .int 0, .ref (u 24), .ref (u 25), .ref (u 26), .ref (u 27), .int 1, .int 0, .int 0, .int 0, .int 0, .int 0, .int 0, .int 0, .ref (u 28), .ref (u 29), .ref (u 30), .ref (u 31), .ref (u 32), .ref (u 33), .int 0, .ref (u 34), .int 0, .ref (u 35), .ref (u 36), .ref (u 37), .ref (u 38), .ref (u 39), .ref (u 40), .int 0, .int 0, .int 0, .int 0, .int 0, .ref (u 41), .ref (u 42), .ref (u 43), .int 0, .ref (u 44), .int 0, .int 0, .int 0, .ref (u 45), .ref (u 46), .ref (u 47), .ref (u 48), .ref (u 49), .ref (u 50), .ref (u 51), .ref (u 52), .ref (u 53), .int 0, .int 0, .int 0, .int 0, .int 0, .int 0, .int 0, .int 0, .int 0, .int 0, .int 0, .ref (u 54), .ref (u 55), .ref (u 56), .ref (u 57), .ref (u 58), .ref (u 59), .ref (u 60), .ref (u 61), .ref (u 62), .ref (u 63), .ref (u 64), .ref (u 65), .int 0, .int 0, .ref (u 66), .ref (u 67), .ref (u 68), .ref (u 69), .ref (u 70), .ref (u 71), .int 0, .ref (u 72), .ref (u 73), .ref (u 74), .int 0, .ref (u 75), .ref (u 76), .ref (u 77), .int 0, .ref (u 78), .ref (u 79), .ref (u 80), .ref (u 81), .ref (u 82), .int 0, .int 0, .ref (u 83), .ref (u 84), .ref (u 85), .ref (u 86), .ref (u 87), .int 0, .ref (u 88)])] s.heap _ _ := hw
    refine lv_aload_n hx hb dX12_op_18 rfl (lv_at hl 0 rfl) ?_
    refine r_get cx hw inX12 (ci := 11) rfl 0 rfl 1 (by decide) fl_X12_308 rfl dX12_op_19 ?_
    have hw : Wd G A [] s.heap _ _ := hw.sub [] rfl rfl
    exact r_iret cx hr hlk () (eq42 a d) hw (Nat.le_of_ble_eq_true rfl) (Nat.le_of_ble_eq_true rfl) dX12_op_22
  rcases hr2 with hr2 | hr2
  · obtain ⟨c12, hr2⟩ := hr2
    subst hr2
    subst c12
    refine lv_if_ne (tgt := 9) hx hb dX12_op_4 (by decide) (fun _ => ?_) (fun c9 => absurd c9 (by decide))
    refine lv_aload_n hx hb dX12_op_9 rfl (lv_at hl 0 rfl) ?_
    refine lv_iload_n hx hb dX12_op_10 rfl (lv_at hl 2 rfl) ?_
    refine lv_iconst (v := 1) hx hb dX12_op_11 (by decide) ?_
    refine lv_iload_n hx hb dX12_op_12 rfl (lv_at hl 1 rfl) ?_
    refine lv_iconst (v := 1) hx hb dX12_op_13 (by decide) ?_
    refine lv_iload_n hx hb dX12_op_14 rfl (lv_at hl 3 rfl) ?_
    refine r_callVV (As := [.int 47, .int 1, .int a, .int 1, .int d]) (rest := []) (wr := []) cx hw hA (g_j47 l G h0 u a d) [0] [] rfl rfl rfl rfl rfl 0 rfl (ci := 11) rfl ml_X12_348 im_X12_join se_X12_join in_X12 co_X12_join rfl hd_X12_join rfl ⟨Nat.le_of_ble_eq_true rfl, Nat.le_of_ble_eq_true rfl⟩ hl.1 rfl (Nat.le_of_ble_eq_true rfl) dX12_op_15 ⟨Nat.le_of_ble_eq_true rfl, Nat.le_of_ble_eq_true rfl⟩ (fun u13 H locs hr14 hw => ?_)
    have hw : Wd G A [(h0, ob 11 [.int 1, .int (m_ap47 a d), .ref (u 0), .int 0, .int 0, .int (-1), .int 0, .int 0, .ref (u 1), .ref (u 2), .ref (u 3), .ref (u 4), .ref (u 5), .ref (u 6), .ref (u 7), .ref (u 8), .ref (u 9), .int 0, .int 0, .ref (u 10), .ref (u 11), .ref (u 12), .ref (u 13), .ref (u 14), .ref (u 15), .ref (u 16), .ref (u 17), .int 0, .int 0, .ref (u 18), .ref (u 19), .ref (u 20), .int 0, .ref (u 21), .ref (u 22), .ref (u 23), .int 0, .int 0, .ref (u 24), .ref (u 25), .ref (u 26), .ref (u 27), .int 1, .int 0, .int 0, .int 0, .int 0, .int 0, .int 0, .int 0, .ref (u 28), .ref (u 29), .ref (u 30), .ref (u 31), .ref (u 32), .ref (u 33), .int 0, .ref (u 34), .int 0, .ref (u 35), .ref (u 36), .ref (u 37), .ref (u 38), .ref (u 39), .ref (u 40), .int 0, .int 0, .int 0, .int 0, .int 0, .ref (u 41), .ref (u 42), .ref (u 43), .int 0, .ref (u 44), .int 0, .int 0, .int 0, .ref (u 45), .ref (u 46), .ref (u 47), .ref (u 48), .ref (u 49), .ref (u 50), .ref (u 51), .ref (u 52), .ref (u 53), .int 0, .int 0, .int 0, .int 0, .int 0, .int 0, .int 0, .int 0, .int 0, .int 0, .int 0, .ref (u 54), .ref (u 55), .ref (u 56), .ref (u 57), .ref (u 58), .ref (u 59), .ref (u 60), .ref (u 61), .ref (u 62), .ref (u 63), .ref (u 64), .ref (u 65), .int 0, .int 0, .ref (u 66), .ref (u 67), .ref (u 68), .ref (u 69), .ref (u 70), .ref (u 71), .int 0, .ref (u 72), .ref (u 73), .ref (u 74), .int 0, .ref (u 75), .ref (u 76), .ref (u 77), .int 0, .ref (u 78), .ref (u 79), .ref (u 80), .ref (u 81), .ref (u 82), .int 0, .int 0, .ref (u 83), .ref (u 84), .ref (u 85), .ref (u 86), .ref (u 87), .int 0, .ref (u 88)])] s.heap _ _ := hw
    refine lv_aload_n hx hb dX12_op_18 rfl (lv_at hl 0 rfl) ?_
    refine r_get cx hw inX12 (ci := 11) rfl 0 rfl 1 (by decide) fl_X12_308 rfl dX12_op_19 ?_
    have hw : Wd G A [] s.heap _ _ := hw.sub [] rfl rfl
    exact r_iret cx hr hlk () (eq47 a d) hw (Nat.le_of_ble_eq_true rfl) (Nat.le_of_ble_eq_true rfl) dX12_op_22
  rcases hr2 with hr2 | hr2
  · obtain ⟨c15, hr2⟩ := hr2
    subst hr2
    subst c15
    refine lv_if_ne (tgt := 9) hx hb dX12_op_4 (by decide) (fun _ => ?_) (fun c9 => absurd c9 (by decide))
    refine lv_aload_n hx hb dX12_op_9 rfl (lv_at hl 0 rfl) ?_
    refine lv_iload_n hx hb dX12_op_10 rfl (lv_at hl 2 rfl) ?_
    refine lv_iconst (v := 1) hx hb dX12_op_11 (by decide) ?_
    refine lv_iload_n hx hb dX12_op_12 rfl (lv_at hl 1 rfl) ?_
    refine lv_iconst (v := 1) hx hb dX12_op_13 (by decide) ?_
    refine lv_iload_n hx hb dX12_op_14 rfl (lv_at hl 3 rfl) ?_
    refine r_callVV (As := [.int 37, .int 1, .int a, .int 1, .int d]) (rest := []) (wr := []) cx hw hA (g_j37 l G h0 u a d) [0] [] rfl rfl rfl rfl rfl 0 rfl (ci := 11) rfl ml_X12_348 im_X12_join se_X12_join in_X12 co_X12_join rfl hd_X12_join rfl ⟨Nat.le_of_ble_eq_true rfl, Nat.le_of_ble_eq_true rfl⟩ hl.1 rfl (Nat.le_of_ble_eq_true rfl) dX12_op_15 ⟨Nat.le_of_ble_eq_true rfl, Nat.le_of_ble_eq_true rfl⟩ (fun u16 H locs hr17 hw => ?_)
    have hw : Wd G A [(h0, ob 11 [.int 0, .int (m_ap37 a d), .ref (u 0), .int 0, .int 0, .int (-1), .int 0, .int 0, .ref (u 1), .ref (u 2), .ref (u 3), .ref (u 4), .ref (u 5), .ref (u 6), .ref (u 7), .ref (u 8), .ref (u 9), .int 0, .int 0, .ref (u 10), .ref (u 11), .ref (u 12), .ref (u 13), .ref (u 14), .ref (u 15), .ref (u 16), .ref (u 17), .int 0, .int 0, .ref (u 18), .ref (u 19), .ref (u 20), .int 0, .ref (u 21), .ref (u 22), .ref (u 23), .int 0, .int 0, .ref (u 24), .ref (u 25), .ref (u 26), .ref (u 27), .int 1, .int 0, .int 0, .int 0, .int 0, .int 0, .int 0, .int 0, .ref (u 28), .ref (u 29), .ref (u 30), .ref (u 31), .ref (u 32), .ref (u 33), .int 0, .ref (u 34), .int 0, .ref (u 35), .ref (u 36), .ref (u 37), .ref (u 38), .ref (u 39), .ref (u 40), .int 0, .int 0, .int 0, .int 0, .int 0, .ref (u 41), .ref (u 42), .ref (u 43), .int 0, .ref (u 44), .int 0, .int 0, .int 0, .ref (u 45), .ref (u 46), .ref (u 47), .ref (u 48), .ref (u 49), .ref (u 50), .ref (u 51), .ref (u 52), .ref (u 53), .int 0, .int 0, .int 0, .int 0, .int 0, .int 0, .int 0, .int 0, .int 0, .int 0, .int 0, .ref (u 54), .ref (u 55), .ref (u 56), .ref (u 57), .ref (u 58), .ref (u 59), .ref (u 60), .ref (u 61), .ref (u 62), .ref (u 63), .ref (u 64), .ref (u 65), .int 0, .int 0, .ref (u 66), .ref (u 67), .ref (u 68), .ref (u 69), .ref (u 70), .ref (u 71), .int 0, .ref (u 72), .ref (u 73), .ref (u 74), .int 0, .ref (u 75), .ref (u 76), .ref (u 77), .int 0, .ref (u 78), .ref (u 79), .ref (u 80), .ref (u 81), .ref (u 82), .int 0, .int 0, .ref (u 83), .ref (u 84), .ref (u 85), .ref (u 86), .ref (u 87), .int 0, .ref (u 88)])] s.heap _ _ := hw
    refine lv_aload_n hx hb dX12_op_18 rfl (lv_at hl 0 rfl) ?_
    refine r_get cx hw inX12 (ci := 11) rfl 0 rfl 1 (by decide) fl_X12_308 rfl dX12_op_19 ?_
    have hw : Wd G A [] s.heap _ _ := hw.sub [] rfl rfl
    exact r_iret cx hr hlk () (eq37 a d) hw (Nat.le_of_ble_eq_true rfl) (Nat.le_of_ble_eq_true rfl) dX12_op_22
  rcases hr2 with hr2 | hr2
  · obtain ⟨c18, hr2⟩ := hr2
    subst hr2
    subst c18
    refine lv_if_ne (tgt := 9) hx hb dX12_op_4 (by decide) (fun _ => ?_) (fun c9 => absurd c9 (by decide))
    refine lv_aload_n hx hb dX12_op_9 rfl (lv_at hl 0 rfl) ?_
    refine lv_iload_n hx hb dX12_op_10 rfl (lv_at hl 2 rfl) ?_
    refine lv_iconst (v := 1) hx hb dX12_op_11 (by decide) ?_
    refine lv_iload_n hx hb dX12_op_12 rfl (lv_at hl 1 rfl) ?_
    refine lv_iconst (v := 1) hx hb dX12_op_13 (by decide) ?_
    refine lv_iload_n hx hb dX12_op_14 rfl (lv_at hl 3 rfl) ?_
    refine r_callVV (As := [.int 60, .int 1, .int a, .int 1, .int d]) (rest := []) (wr := []) cx hw hA (g_j60 l G h0 u a d) [0] [] rfl rfl rfl rfl rfl 0 rfl (ci := 11) rfl ml_X12_348 im_X12_join se_X12_join in_X12 co_X12_join rfl hd_X12_join rfl ⟨Nat.le_of_ble_eq_true rfl, Nat.le_of_ble_eq_true rfl⟩ hl.1 rfl (Nat.le_of_ble_eq_true rfl) dX12_op_15 ⟨Nat.le_of_ble_eq_true rfl, Nat.le_of_ble_eq_true rfl⟩ (fun u19 H locs hr20 hw => ?_)
    have hw : Wd G A [(h0, ob 11 [.int 0, .int (m_ap60 a d), .ref (u 0), .int 0, .int 0, .int (-1), .int 0, .int 0, .ref (u 1), .ref (u 2), .ref (u 3), .ref (u 4), .ref (u 5), .ref (u 6), .ref (u 7), .ref (u 8), .ref (u 9), .int 0, .int 0, .ref (u 10), .ref (u 11), .ref (u 12), .ref (u 13), .ref (u 14), .ref (u 15), .ref (u 16), .ref (u 17), .int 0, .int 0, .ref (u 18), .ref (u 19), .ref (u 20), .int 0, .ref (u 21), .ref (u 22), .ref (u 23), .int 0, .int 0, .ref (u 24), .ref (u 25), .ref (u 26), .ref (u 27), .int 1, .int 0, .int 0, .int 0, .int 0, .int 0, .int 0, .int 0, .ref (u 28), .ref (u 29), .ref (u 30), .ref (u 31), .ref (u 32), .ref (u 33), .int 0, .ref (u 34), .int 0, .ref (u 35), .ref (u 36), .ref (u 37), .ref (u 38), .ref (u 39), .ref (u 40), .int 0, .int 0, .int 0, .int 0, .int 0, .ref (u 41), .ref (u 42), .ref (u 43), .int 0, .ref (u 44), .int 0, .int 0, .int 0, .ref (u 45), .ref (u 46), .ref (u 47), .ref (u 48), .ref (u 49), .ref (u 50), .ref (u 51), .ref (u 52), .ref (u 53), .int 0, .int 0, .int 0, .int 0, .int 0, .int 0, .int 0, .int 0, .int 0, .int 0, .int 0, .ref (u 54), .ref (u 55), .ref (u 56), .ref (u 57), .ref (u 58), .ref (u 59), .ref (u 60), .ref (u 61), .ref (u 62), .ref (u 63), .ref (u 64), .ref (u 65), .int 0, .int 0, .ref (u 66), .ref (u 67), .ref (u 68), .ref (u 69), .ref (u 70), .ref (u 71), .int 0, .ref (u 72), .ref (u 73), .ref (u 74), .int 0, .ref (u 75), .ref (u 76), .ref (u 77), .int 0, .ref (u 78), .ref (u 79), .ref (u 80), .ref (u 81), .ref (u 82), .int 0, .int 0, .ref (u 83), .ref (u 84), .ref (u 85), .ref (u 86), .ref (u 87), .int 0, .ref (u 88)])] s.heap _ _ := hw
    refine lv_aload_n hx hb dX12_op_18 rfl (lv_at hl 0 rfl) ?_
    refine r_get cx hw inX12 (ci := 11) rfl 0 rfl 1 (by decide) fl_X12_308 rfl dX12_op_19 ?_
    have hw : Wd G A [] s.heap _ _ := hw.sub [] rfl rfl
    exact r_iret cx hr hlk () (eq60 a d) hw (Nat.le_of_ble_eq_true rfl) (Nat.le_of_ble_eq_true rfl) dX12_op_22
  rcases hr2 with hr2 | hr2
  · obtain ⟨c21, hr2⟩ := hr2
    subst hr2
    subst c21
    refine lv_if_ne (tgt := 9) hx hb dX12_op_4 (by decide) (fun _ => ?_) (fun c9 => absurd c9 (by decide))
    refine lv_aload_n hx hb dX12_op_9 rfl (lv_at hl 0 rfl) ?_
    refine lv_iload_n hx hb dX12_op_10 rfl (lv_at hl 2 rfl) ?_
    refine lv_iconst (v := 1) hx hb dX12_op_11 (by decide) ?_
    refine lv_iload_n hx hb dX12_op_12 rfl (lv_at hl 1 rfl) ?_
    refine lv_iconst (v := 1) hx hb dX12_op_13 (by decide) ?_
    refine lv_iload_n hx hb dX12_op_14 rfl (lv_at hl 3 rfl) ?_
    refine r_callVV (As := [.int 61, .int 1, .int a, .int 1, .int d]) (rest := []) (wr := []) cx hw hA (g_j61 l G h0 u a d) [0] [] rfl rfl rfl rfl rfl 0 rfl (ci := 11) rfl ml_X12_348 im_X12_join se_X12_join in_X12 co_X12_join rfl hd_X12_join rfl ⟨Nat.le_of_ble_eq_true rfl, Nat.le_of_ble_eq_true rfl⟩ hl.1 rfl (Nat.le_of_ble_eq_true rfl) dX12_op_15 ⟨Nat.le_of_ble_eq_true rfl, Nat.le_of_ble_eq_true rfl⟩ (fun u22 H locs hr23 hw => ?_)
    have hw : Wd G A [(h0, ob 11 [.int 0, .int (m_ap61 a d), .ref (u 0), .int 0, .int 0, .int (-1), .int 0, .int 0, .ref (u 1), .ref (u 2), .ref (u 3), .ref (u 4), .ref (u 5), .ref (u 6), .ref (u 7), .ref (u 8), .ref (u 9), .int 0, .int 0, .ref (u 10), .ref (u 11), .ref (u 12), .ref (u 13), .ref (u 14), .ref (u 15), .ref (u 16), .ref (u 17), .int 0, .int 0, .ref (u 18), .ref (u 19), .ref (u 20), .int 0, .ref (u 21), .ref (u 22), .ref (u 23), .int 0, .int 0, .ref (u 24), .ref (u 25), .ref (u 26), .ref (u 27), .int 1, .int 0, .int 0, .int 0, .int 0, .int 0, .int 0, .int 0, .ref (u 28), .ref (u 29), .ref (u 30), .ref (u 31), .ref (u 32), .ref (u 33), .int 0, .ref (u 34), .int 0, .ref (u 35), .ref (u 36), .ref (u 37), .ref (u 38), .ref (u 39), .ref (u 40), .int 0, .int 0, .int 0, .int 0, .int 0, .ref (u 41), .ref (u 42), .ref (u 43), .int 0, .ref (u 44), .int 0, .int 0, .int 0, .ref (u 45), .ref (u 46), .ref (u 47), .ref (u 48), .ref (u 49), .ref (u 50), .ref (u 51), .ref (u 52), .ref (u 53), .int 0, .int 0, .int 0, .int 0, .int 0, .int 0, .int 0, .int 0, .int 0, .int 0, .int 0, .ref (u 54), .ref (u 55), .ref (u 56), .ref (u 57), .ref (u 58), .ref (u 59), .ref (u 60), .ref (u 61), .ref (u 62), .ref (u 63), .ref (u 64), .ref (u 65), .int 0, .int 0, .ref (u 66), .ref (u 67), .ref (u 68), .ref (u 69), .ref (u 70), .ref (u 71), .int 0, .ref (u 72), .ref (u 73), .ref (u 74), .int 0, .ref (u 75), .ref (u 76), .ref (u 77), .int 0, .ref (u 78), .ref (u 79), .ref (u 80), .ref (u 81), .ref (u 82), .int 0, .int 0, .ref (u 83), .ref (u 84), .ref (u 85), .ref (u 86), .ref (u 87), .int 0, .ref (u 88)])] s.heap _ _ := hw
    refine lv_aload_n hx hb dX12_op_18 rfl (lv_at hl 0 rfl) ?_
    refine r_get cx hw inX12 (ci := 11) rfl 0 rfl 1 (by decide) fl_X12_308 rfl dX12_op_19 ?_
    have hw : Wd G A [] s.heap _ _ := hw.sub [] rfl rfl
    exact r_iret cx hr hlk () (eq61 a d) hw (Nat.le_of_ble_eq_true rfl) (Nat.le_of_ble_eq_true rfl) dX12_op_22
  obtain ⟨c24, c25, c26, c27, c28, c29, c30, hr2⟩ := hr2
  subst hr2
  refine lv_if_ne (tgt := 9) hx hb dX12_op_4 (by decide) (fun c9 => absurd (by decide) c9) (fun _ => ?_)
  refine lv_iconst (v := 0) hx hb dX12_op_7 (by decide) ?_
  have hw : Wd G A [] s.heap _ _ := hw.sub [] rfl rfl
  exact r_iret cx hr hlk () (by unfold fop; rw [if_neg c24, if_neg c25, if_neg c26, if_neg c27, if_neg c28, if_neg c29, if_neg c30]) hw (Nat.le_of_ble_eq_true rfl) (Nat.le_of_ble_eq_true rfl) dX12_op_8
