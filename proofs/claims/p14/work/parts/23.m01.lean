theorem p_X11_feedFour_b3_ex : ∃ f : Nat → Int32 → Int32 → Mem → Option Mem, (∀ (a1 : Int32) (a2 : Int32) (μ : Mem), f  0 a1 a2 μ = none) ∧ (∀ (n : Nat) (a1 : Int32) (a2 : Int32) (μ : Mem), f  (n + 1) a1 a2 μ = (if a2 < (0 : Int32) then some μ else (if (800 : Int32) ≤ (μ.1 0 1) then some μ else bv (((a1.toUInt32 >>> (a2.toUInt32 &&& Int32.toUInt32 31)).toInt32) &&& (255 : Int32)) (fun v3 => gd (inb (μ.1 0 1) 800) (bv (sF μ 1 (μ.1 0 1).toNatClampNeg v3) (fun μ4 => bv (sF μ4 0 1 ((μ4.1 0 1) + (1 : Int32))) (fun μ5 => bv (a2 + (-8)) (fun v6 => f n a1 v6 μ5)))))))) := ⟨fun n => Nat.rec (fun (a1 : Int32) (a2 : Int32) (μ : Mem) => none) (fun _ ih => fun (a1 : Int32) (a2 : Int32) (μ : Mem) => (if a2 < (0 : Int32) then some μ else (if (800 : Int32) ≤ (μ.1 0 1) then some μ else bv (((a1.toUInt32 >>> (a2.toUInt32 &&& Int32.toUInt32 31)).toInt32) &&& (255 : Int32)) (fun v3 => gd (inb (μ.1 0 1) 800) (bv (sF μ 1 (μ.1 0 1).toNatClampNeg v3) (fun μ4 => bv (sF μ4 0 1 ((μ4.1 0 1) + (1 : Int32))) (fun μ5 => bv (a2 + (-8)) (fun v6 => ih a1 v6 μ5)))))))) n, fun  _ _ _ => rfl, fun  _ _ _ _ => rfl⟩
noncomputable def p_X11_feedFour_b3 : Nat → Int32 → Int32 → Mem → Option Mem := Classical.choose p_X11_feedFour_b3_ex
theorem p_X11_feedFour_b3_z (a1 : Int32) (a2 : Int32) (μ : Mem) : p_X11_feedFour_b3  0 a1 a2 μ = none := (Classical.choose_spec p_X11_feedFour_b3_ex).1  a1 a2 μ
theorem p_X11_feedFour_b3_s (n : Nat) (a1 : Int32) (a2 : Int32) (μ : Mem) : p_X11_feedFour_b3  (n + 1) a1 a2 μ = (if a2 < (0 : Int32) then some μ else (if (800 : Int32) ≤ (μ.1 0 1) then some μ else bv (((a1.toUInt32 >>> (a2.toUInt32 &&& Int32.toUInt32 31)).toInt32) &&& (255 : Int32)) (fun v3 => gd (inb (μ.1 0 1) 800) (bv (sF μ 1 (μ.1 0 1).toNatClampNeg v3) (fun μ4 => bv (sF μ4 0 1 ((μ4.1 0 1) + (1 : Int32))) (fun μ5 => bv (a2 + (-8)) (fun v6 => p_X11_feedFour_b3  n a1 v6 μ5))))))) := (Classical.choose_spec p_X11_feedFour_b3_ex).2  n a1 a2 μ
set_option maxHeartbeats 4000000 in
set_option maxRecDepth 100000 in
theorem t_X11_feedFour_b3 (l : Launch) (G : Gt) (ad : Nat → Nat) (av : List Value) {μz : Mem} : ∀ (n : Nat) (a1 : Int32) (a2 : Int32) (μ : Mem), p_X11_feedFour_b3  n a1 a2 μ = some μz → Bk l cX11_feedFour 3 RX11 none ({ frames := 0, cells := 0, slots := 0, locals := 0 } : Room) G av (eV 0 G ad μz) (wd 0 G ad μ) 3 [(0, .ref (ad 0)), (1, .int a1), (2, .int a2)] [] := by
  intro n
  induction n with
  | zero => intro a1 a2 μ h; rw [p_X11_feedFour_b3_z] at h; cases h
  | succ n ih =>
    intro a1 a2 μ h p e s m below meth c A ls H locs cx hr hlk hA hl hw
    have hx := cx.1
    have hb := cx.2.1
    rw [p_X11_feedFour_b3_s] at h
    refine lv_iload_n hx hb dX11_feedFour_3 rfl (lv_at hl 2 rfl) ?_
    refine lv_if_lt (tgt := 49) hx hb dX11_feedFour_4 (by decide) (fun c1 => ?_) (fun c1 => ?_)
    · rw [if_pos c1] at h
      exact g_vret cx hr hlk hw h dX11_feedFour_49
    · rw [if_neg c1] at h
      refine lv_aload_n hx hb dX11_feedFour_7 rfl (lv_at hl 0 rfl) ?_
      refine g_get cx hw inX11 (ci := 10) rfl 1 (by decide) rfl (v := .int (μ.1 0 1)) shx_0 rfl fl_X11_13 dX11_feedFour_8 ?_
      refine lv_sipush (v := 800) hx hb dX11_feedFour_11 (by decide) ?_
      refine lv_icmp_ge (tgt := 49) hx hb dX11_feedFour_14 (by decide) (fun c2 => ?_) (fun c2 => ?_)
      · rw [if_pos c2] at h
        exact g_vret cx hr hlk hw h dX11_feedFour_49
      · rw [if_neg c2] at h
        refine lv_aload_n hx hb dX11_feedFour_17 rfl (lv_at hl 0 rfl) ?_
        refine g_get cx hw inX11 (ci := 10) rfl 0 (by decide) rfl (v := .ref (ad 1)) shx_0 rfl fl_X11_9 dX11_feedFour_18 ?_
        refine lv_aload_n hx hb dX11_feedFour_21 rfl (lv_at hl 0 rfl) ?_
        refine g_get cx hw inX11 (ci := 10) rfl 1 (by decide) rfl (v := .int (μ.1 0 1)) shx_0 rfl fl_X11_13 dX11_feedFour_22 ?_
        refine lv_iload_n hx hb dX11_feedFour_25 rfl (lv_at hl 1 rfl) ?_
        refine lv_iload_n hx hb dX11_feedFour_26 rfl (lv_at hl 2 rfl) ?_
        refine lv_iushr hx hb dX11_feedFour_27 rfl ?_
        refine lv_sipush (v := 255) hx hb dX11_feedFour_28 (by decide) ?_
        refine lv_iand hx hb dX11_feedFour_31 ?_
        obtain ⟨v3, ev3, h⟩ := bv_ex h
        refine lv_topi (fun y9 z9 => ?_)
        obtain rfl : v3 = y9 := ev3.trans z9.symm
        refine g_iast cx hw shx_1 h dX11_feedFour_32 (fun μ4 H locs h hw => ?_)
        refine lv_aload_n hx hb dX11_feedFour_33 rfl (lv_at hl 0 rfl) ?_
        refine lv_dup hx hb dX11_feedFour_34 rfl ?_
        refine g_get cx hw inX11 (ci := 10) rfl 1 (by decide) rfl (v := .int (μ4.1 0 1)) shx_0 rfl fl_X11_13 dX11_feedFour_35 ?_
        refine lv_iconst (v := 1) hx hb dX11_feedFour_38 (by decide) ?_
        refine lv_iadd hx hb dX11_feedFour_39 ?_
        refine g_put cx hw inX11 (ci := 10) rfl tyX11_ok nmX11 1 (by decide) rfl rfl rfl rfl shx_0 h fl_X11_13 dX11_feedFour_40 (fun μ5 H locs h hw => ?_)
        obtain ⟨v6, ev6, h⟩ := bv_ex h
        refine lv_iinc (v := v6) (lv' := [(2, .int v6), (0, .ref (ad 0)), (1, .int a1)]) hx hb dX11_feedFour_43 hl (k := 2) rfl (by rw [ev6]; rfl) (by decide) rfl (fun ls hl => ?_)
        refine lv_goto (tgt := 3) hx hb dX11_feedFour_46 (by decide) ?_
        exact ih a1 v6 μ5 h p e s m below meth c A ls H locs cx hr hlk hA (lv_sub hl [1, 2, 0] rfl) hw
theorem p_X11_feedFour_ex : ∃ f : Int32 → Mem → Option Mem, ∀ (a1 : Int32) (μ : Mem), f a1 μ = p_X11_feedFour_b3  FUEL a1 (24 : Int32) μ := ⟨fun (a1 : Int32) (μ : Mem) => p_X11_feedFour_b3  FUEL a1 (24 : Int32) μ, fun _ _ => rfl⟩
noncomputable def p_X11_feedFour : Int32 → Mem → Option Mem := Classical.choose p_X11_feedFour_ex
theorem p_X11_feedFour_eq (a1 : Int32) (μ : Mem) : p_X11_feedFour a1 μ = p_X11_feedFour_b3  FUEL a1 (24 : Int32) μ := Classical.choose_spec p_X11_feedFour_ex a1 μ
set_option maxHeartbeats 4000000 in
set_option maxRecDepth 100000 in
theorem t_X11_feedFour (l : Launch) (G : Gt) (ad : Nat → Nat) (a1 : Int32) (μ : Mem) {μz : Mem} (h : p_X11_feedFour a1 μ = some μz) : Mt l yX11_feedFour cX11_feedFour 3 none ({ frames := 0, cells := 0, slots := 0, locals := 0 } : Room) G [.ref (ad 0), .int a1] (wd 0 G ad μ) (eV 0 G ad μz) := by
  refine Bk.mt (by decide) rfl (Nat.le_of_ble_eq_true rfl) ?_
  intro p e s m below meth c A ls H locs cx hr hlk hA hl hw
  have hx := cx.1
  have hb := cx.2.1
  have hl : lv_has ls 3 [(0, .ref (ad 0)), (1, .int a1)] := hl
  rw [p_X11_feedFour_eq] at h
  refine lv_bipush (v := 24) hx hb dX11_feedFour_0 (by decide) ?_
  refine lv_istore_n (lv' := [(2, .int 24), (0, .ref (ad 0)), (1, .int a1)]) hx hb dX11_feedFour_2 rfl hl (by decide) rfl (fun ls hl => ?_)
  exact t_X11_feedFour_b3 l G ad _  FUEL a1 (24 : Int32) μ h p e s m below meth c A ls H locs cx hr hlk hA (lv_sub hl [1, 2, 0] rfl) hw

theorem p_X11_feed_ex : ∃ f : Int32 → Int32 → Int32 → Int32 → Int32 → Mem → Option (Int32 × Mem), ∀ (a1 : Int32) (a2 : Int32) (a3 : Int32) (a4 : Int32) (a5 : Int32) (μ : Mem), f a1 a2 a3 a4 a5 μ = (if ((μ.1 0 1) + (20 : Int32)) ≤ (800 : Int32) then bw (p_X11_feedFour a1 μ) (fun μ2 => bw (p_X11_feedFour a2 μ2) (fun μ4 => bw (p_X11_feedFour a3 μ4) (fun μ6 => bw (p_X11_feedFour a4 μ6) (fun μ8 => bw (p_X11_feedFour a5 μ8) (fun μ10 => some ((μ10.1 0 1), μ10)))))) else some ((-1 : Int32), μ)) := ⟨fun (a1 : Int32) (a2 : Int32) (a3 : Int32) (a4 : Int32) (a5 : Int32) (μ : Mem) => (if ((μ.1 0 1) + (20 : Int32)) ≤ (800 : Int32) then bw (p_X11_feedFour a1 μ) (fun μ2 => bw (p_X11_feedFour a2 μ2) (fun μ4 => bw (p_X11_feedFour a3 μ4) (fun μ6 => bw (p_X11_feedFour a4 μ6) (fun μ8 => bw (p_X11_feedFour a5 μ8) (fun μ10 => some ((μ10.1 0 1), μ10)))))) else some ((-1 : Int32), μ)), fun _ _ _ _ _ _ => rfl⟩
noncomputable def p_X11_feed : Int32 → Int32 → Int32 → Int32 → Int32 → Mem → Option (Int32 × Mem) := Classical.choose p_X11_feed_ex
theorem p_X11_feed_eq (a1 : Int32) (a2 : Int32) (a3 : Int32) (a4 : Int32) (a5 : Int32) (μ : Mem) : p_X11_feed a1 a2 a3 a4 a5 μ = (if ((μ.1 0 1) + (20 : Int32)) ≤ (800 : Int32) then bw (p_X11_feedFour a1 μ) (fun μ2 => bw (p_X11_feedFour a2 μ2) (fun μ4 => bw (p_X11_feedFour a3 μ4) (fun μ6 => bw (p_X11_feedFour a4 μ6) (fun μ8 => bw (p_X11_feedFour a5 μ8) (fun μ10 => some ((μ10.1 0 1), μ10)))))) else some ((-1 : Int32), μ)) := Classical.choose_spec p_X11_feed_ex a1 a2 a3 a4 a5 μ
set_option maxHeartbeats 4000000 in
set_option maxRecDepth 100000 in
theorem t_X11_feed (l : Launch) (G : Gt) (ad : Nat → Nat) (a1 : Int32) (a2 : Int32) (a3 : Int32) (a4 : Int32) (a5 : Int32) (μ : Mem) {r : Int32} {μz : Mem} (h : p_X11_feed a1 a2 a3 a4 a5 μ = some (r, μz)) : Mt l yX11_feed cX11_feed 6 (some .int) ({ frames := 1, cells := 0, slots := 0, locals := 22 } : Room) G [.ref (ad 0), .int a1, .int a2, .int a3, .int a4, .int a5] (wd 0 G ad μ) (eI 0 G ad r μz) := by
  refine Bk.mt (by decide) rfl (Nat.le_of_ble_eq_true rfl) ?_
  intro p e s m below meth c A ls H locs cx hr hlk hA hl hw
  have hx := cx.1
  have hb := cx.2.1
  have hl : lv_has ls 6 [(0, .ref (ad 0)), (1, .int a1), (2, .int a2), (3, .int a3), (4, .int a4), (5, .int a5)] := hl
  rw [p_X11_feed_eq] at h
  refine lv_aload_n hx hb dX11_feed_0 rfl (lv_at hl 0 rfl) ?_
  refine g_get cx hw inX11 (ci := 10) rfl 1 (by decide) rfl (v := .int (μ.1 0 1)) shx_0 rfl fl_X11_13 dX11_feed_1 ?_
  refine lv_bipush (v := 20) hx hb dX11_feed_4 (by decide) ?_
  refine lv_iadd hx hb dX11_feed_6 ?_
  refine lv_sipush (v := 800) hx hb dX11_feed_7 (by decide) ?_
  refine lv_icmp_le (tgt := 15) hx hb dX11_feed_10 (by decide) (fun c1 => ?_) (fun c1 => ?_)
  · rw [if_pos c1] at h
    refine lv_aload_n hx hb dX11_feed_15 rfl (lv_at hl 0 rfl) ?_
    refine lv_iload_n hx hb dX11_feed_16 rfl (lv_at hl 1 rfl) ?_
    obtain ⟨μ2, gμ2, h⟩ := bw_some h
    refine g_callVV (As := [.int a1]) (rest := []) cx hw hA (t_X11_feedFour l G ad a1 μ gμ2) shx_0 rfl ml_X11_121 im_X11_feedFour se_X11_feedFour in_X11 co_X11_feedFour rfl hd_X11_feedFour rfl ⟨(Nat.le_of_ble_eq_true rfl), (Nat.le_of_ble_eq_true rfl)⟩ hl.1 rfl (Nat.le_of_ble_eq_true rfl) dX11_feed_17 ⟨rfl, rfl⟩ (fun H locs hw => ?_)
    refine lv_aload_n hx hb dX11_feed_20 rfl (lv_at hl 0 rfl) ?_
    refine lv_iload_n hx hb dX11_feed_21 rfl (lv_at hl 2 rfl) ?_
    obtain ⟨μ4, gμ4, h⟩ := bw_some h
    refine g_callVV (As := [.int a2]) (rest := []) cx hw hA (t_X11_feedFour l G ad a2 μ2 gμ4) shx_0 rfl ml_X11_121 im_X11_feedFour se_X11_feedFour in_X11 co_X11_feedFour rfl hd_X11_feedFour rfl ⟨(Nat.le_of_ble_eq_true rfl), (Nat.le_of_ble_eq_true rfl)⟩ hl.1 rfl (Nat.le_of_ble_eq_true rfl) dX11_feed_22 ⟨rfl, rfl⟩ (fun H locs hw => ?_)
    refine lv_aload_n hx hb dX11_feed_25 rfl (lv_at hl 0 rfl) ?_
    refine lv_iload_n hx hb dX11_feed_26 rfl (lv_at hl 3 rfl) ?_
    obtain ⟨μ6, gμ6, h⟩ := bw_some h
    refine g_callVV (As := [.int a3]) (rest := []) cx hw hA (t_X11_feedFour l G ad a3 μ4 gμ6) shx_0 rfl ml_X11_121 im_X11_feedFour se_X11_feedFour in_X11 co_X11_feedFour rfl hd_X11_feedFour rfl ⟨(Nat.le_of_ble_eq_true rfl), (Nat.le_of_ble_eq_true rfl)⟩ hl.1 rfl (Nat.le_of_ble_eq_true rfl) dX11_feed_27 ⟨rfl, rfl⟩ (fun H locs hw => ?_)
    refine lv_aload_n hx hb dX11_feed_30 rfl (lv_at hl 0 rfl) ?_
    refine lv_iload hx hb dX11_feed_31 (lv_at hl 4 rfl) ?_
    obtain ⟨μ8, gμ8, h⟩ := bw_some h
    refine g_callVV (As := [.int a4]) (rest := []) cx hw hA (t_X11_feedFour l G ad a4 μ6 gμ8) shx_0 rfl ml_X11_121 im_X11_feedFour se_X11_feedFour in_X11 co_X11_feedFour rfl hd_X11_feedFour rfl ⟨(Nat.le_of_ble_eq_true rfl), (Nat.le_of_ble_eq_true rfl)⟩ hl.1 rfl (Nat.le_of_ble_eq_true rfl) dX11_feed_33 ⟨rfl, rfl⟩ (fun H locs hw => ?_)
    refine lv_aload_n hx hb dX11_feed_36 rfl (lv_at hl 0 rfl) ?_
    refine lv_iload hx hb dX11_feed_37 (lv_at hl 5 rfl) ?_
    obtain ⟨μ10, gμ10, h⟩ := bw_some h
    refine g_callVV (As := [.int a5]) (rest := []) cx hw hA (t_X11_feedFour l G ad a5 μ8 gμ10) shx_0 rfl ml_X11_121 im_X11_feedFour se_X11_feedFour in_X11 co_X11_feedFour rfl hd_X11_feedFour rfl ⟨(Nat.le_of_ble_eq_true rfl), (Nat.le_of_ble_eq_true rfl)⟩ hl.1 rfl (Nat.le_of_ble_eq_true rfl) dX11_feed_39 ⟨rfl, rfl⟩ (fun H locs hw => ?_)
    refine lv_aload_n hx hb dX11_feed_42 rfl (lv_at hl 0 rfl) ?_
    refine g_get cx hw inX11 (ci := 10) rfl 1 (by decide) rfl (v := .int (μ10.1 0 1)) shx_0 rfl fl_X11_13 dX11_feed_43 ?_
    exact g_iret cx hr hlk hw h dX11_feed_46
  · rw [if_neg c1] at h
    refine lv_iconst (v := (-1)) hx hb dX11_feed_13 (by decide) ?_
    exact g_iret cx hr hlk hw h dX11_feed_14

theorem p_X11_end_ex : ∃ f : Int32 → Mem → Option (Int32 × Mem), ∀ (a1 : Int32) (μ : Mem), f a1 μ = (if a1 < (0 : Int32) then some ((-1 : Int32), μ) else (if a1 ≤ (μ.1 0 1) then bv (sF μ 0 1 a1) (fun μ3 => some (a1, μ3)) else some ((-1 : Int32), μ))) := ⟨fun (a1 : Int32) (μ : Mem) => (if a1 < (0 : Int32) then some ((-1 : Int32), μ) else (if a1 ≤ (μ.1 0 1) then bv (sF μ 0 1 a1) (fun μ3 => some (a1, μ3)) else some ((-1 : Int32), μ))), fun _ _ => rfl⟩
noncomputable def p_X11_end : Int32 → Mem → Option (Int32 × Mem) := Classical.choose p_X11_end_ex
theorem p_X11_end_eq (a1 : Int32) (μ : Mem) : p_X11_end a1 μ = (if a1 < (0 : Int32) then some ((-1 : Int32), μ) else (if a1 ≤ (μ.1 0 1) then bv (sF μ 0 1 a1) (fun μ3 => some (a1, μ3)) else some ((-1 : Int32), μ))) := Classical.choose_spec p_X11_end_ex a1 μ
set_option maxHeartbeats 4000000 in
set_option maxRecDepth 100000 in
theorem t_X11_end (l : Launch) (G : Gt) (ad : Nat → Nat) (a1 : Int32) (μ : Mem) {r : Int32} {μz : Mem} (h : p_X11_end a1 μ = some (r, μz)) : Mt l yX11_end cX11_end 2 (some .int) ({ frames := 0, cells := 0, slots := 0, locals := 0 } : Room) G [.ref (ad 0), .int a1] (wd 0 G ad μ) (eI 0 G ad r μz) := by
  refine Bk.mt (by decide) rfl (Nat.le_of_ble_eq_true rfl) ?_
  intro p e s m below meth c A ls H locs cx hr hlk hA hl hw
  have hx := cx.1
  have hb := cx.2.1
  have hl : lv_has ls 2 [(0, .ref (ad 0)), (1, .int a1)] := hl
  rw [p_X11_end_eq] at h
  refine lv_iload_n hx hb dX11_end_0 rfl (lv_at hl 1 rfl) ?_
  refine lv_if_lt (tgt := 12) hx hb dX11_end_1 (by decide) (fun c1 => ?_) (fun c1 => ?_)
  · rw [if_pos c1] at h
    refine lv_iconst (v := (-1)) hx hb dX11_end_12 (by decide) ?_
    exact g_iret cx hr hlk hw h dX11_end_13
  · rw [if_neg c1] at h
    refine lv_iload_n hx hb dX11_end_4 rfl (lv_at hl 1 rfl) ?_
    refine lv_aload_n hx hb dX11_end_5 rfl (lv_at hl 0 rfl) ?_
    refine g_get cx hw inX11 (ci := 10) rfl 1 (by decide) rfl (v := .int (μ.1 0 1)) shx_0 rfl fl_X11_13 dX11_end_6 ?_
    refine lv_icmp_le (tgt := 14) hx hb dX11_end_9 (by decide) (fun c2 => ?_) (fun c2 => ?_)
    · rw [if_pos c2] at h
      refine lv_aload_n hx hb dX11_end_14 rfl (lv_at hl 0 rfl) ?_
      refine lv_iload_n hx hb dX11_end_15 rfl (lv_at hl 1 rfl) ?_
      refine g_put cx hw inX11 (ci := 10) rfl tyX11_ok nmX11 1 (by decide) rfl rfl rfl rfl shx_0 h fl_X11_13 dX11_end_16 (fun μ3 H locs h hw => ?_)
      refine lv_iload_n hx hb dX11_end_19 rfl (lv_at hl 1 rfl) ?_
      exact g_iret cx hr hlk hw h dX11_end_20
    · rw [if_neg c2] at h
      refine lv_iconst (v := (-1)) hx hb dX11_end_12 (by decide) ?_
      exact g_iret cx hr hlk hw h dX11_end_13

theorem p_X4_begin_ex : ∃ f : Int32 → Mem → Option Mem, ∀ (a1 : Int32) (μ : Mem), f a1 μ = bv (sF μ 16 1 (imin a1 (800 : Int32))) (fun μ1 => bv (sF μ1 16 2 (0 : Int32)) (fun μ2 => bv (sF μ2 16 3 (-1 : Int32)) (fun μ3 => some μ3))) := ⟨fun (a1 : Int32) (μ : Mem) => bv (sF μ 16 1 (imin a1 (800 : Int32))) (fun μ1 => bv (sF μ1 16 2 (0 : Int32)) (fun μ2 => bv (sF μ2 16 3 (-1 : Int32)) (fun μ3 => some μ3))), fun _ _ => rfl⟩
noncomputable def p_X4_begin : Int32 → Mem → Option Mem := Classical.choose p_X4_begin_ex
theorem p_X4_begin_eq (a1 : Int32) (μ : Mem) : p_X4_begin a1 μ = bv (sF μ 16 1 (imin a1 (800 : Int32))) (fun μ1 => bv (sF μ1 16 2 (0 : Int32)) (fun μ2 => bv (sF μ2 16 3 (-1 : Int32)) (fun μ3 => some μ3))) := Classical.choose_spec p_X4_begin_ex a1 μ
set_option maxHeartbeats 4000000 in
set_option maxRecDepth 100000 in
theorem t_X4_begin (l : Launch) (G : Gt) (ad : Nat → Nat) (a1 : Int32) (μ : Mem) {μz : Mem} (h : p_X4_begin a1 μ = some μz) : Mt l yX4_begin cX4_begin 2 none ({ frames := 1, cells := 0, slots := 0, locals := 24 } : Room) G [.ref (ad 16), .int a1] (wd 0 G ad μ) (eV 0 G ad μz) := by
  refine Bk.mt (by decide) rfl (Nat.le_of_ble_eq_true rfl) ?_
  intro p e s m below meth c A ls H locs cx hr hlk hA hl hw
  have hx := cx.1
  have hb := cx.2.1
  have hl : lv_has ls 2 [(0, .ref (ad 16)), (1, .int a1)] := hl
  rw [p_X4_begin_eq] at h
  refine lv_aload_n hx hb dX4_begin_0 rfl (lv_at hl 0 rfl) ?_
  refine lv_iload_n hx hb dX4_begin_1 rfl (lv_at hl 1 rfl) ?_
  refine lv_aload_n hx hb dX4_begin_2 rfl (lv_at hl 0 rfl) ?_
  refine g_get cx hw inX4 (ci := 3) rfl 0 (by decide) rfl (v := .ref (ad 1)) shx_16 rfl fl_X4_9 dX4_begin_3 ?_
  refine g_alen1 cx hw shx_1 (v := 800) (by decide +kernel) dX4_begin_6 ?_
  refine r_mmin (v := (imin a1 (800 : Int32))) cx ml_X4_37 hl.1 (Nat.le_of_ble_eq_true rfl) (Nat.le_of_ble_eq_true rfl) (Nat.le_of_ble_eq_true rfl) (Nat.le_of_ble_eq_true rfl) rfl dX4_begin_7 ?_
  refine g_put cx hw inX4 (ci := 3) rfl tyX4_ok nmX4 1 (by decide) rfl rfl rfl rfl shx_16 h fl_X4_15 dX4_begin_10 (fun μ1 H locs h hw => ?_)
  refine lv_aload_n hx hb dX4_begin_13 rfl (lv_at hl 0 rfl) ?_
  refine lv_iconst (v := 0) hx hb dX4_begin_14 (by decide) ?_
  refine g_put cx hw inX4 (ci := 3) rfl tyX4_ok nmX4 2 (by decide) rfl rfl rfl rfl shx_16 h fl_X4_19 dX4_begin_15 (fun μ2 H locs h hw => ?_)
  refine lv_aload_n hx hb dX4_begin_18 rfl (lv_at hl 0 rfl) ?_
  refine lv_iconst (v := (-1)) hx hb dX4_begin_19 (by decide) ?_
  refine g_put cx hw inX4 (ci := 3) rfl tyX4_ok nmX4 3 (by decide) rfl rfl rfl rfl shx_16 h fl_X4_22 dX4_begin_20 (fun μ3 H locs h hw => ?_)
  exact g_vret cx hr hlk hw h dX4_begin_23

theorem p_X11_takeTape_ex : ∃ f : Mem → Option Mem, ∀  (μ : Mem), f  μ = bw (p_X4_begin (μ.1 0 1) μ) (fun μ1 => bv (sF μ1 0 1 (0 : Int32)) (fun μ3 => some μ3)) := ⟨fun  (μ : Mem) => bw (p_X4_begin (μ.1 0 1) μ) (fun μ1 => bv (sF μ1 0 1 (0 : Int32)) (fun μ3 => some μ3)), fun _ => rfl⟩
noncomputable def p_X11_takeTape : Mem → Option Mem := Classical.choose p_X11_takeTape_ex
theorem p_X11_takeTape_eq  (μ : Mem) : p_X11_takeTape  μ = bw (p_X4_begin (μ.1 0 1) μ) (fun μ1 => bv (sF μ1 0 1 (0 : Int32)) (fun μ3 => some μ3)) := Classical.choose_spec p_X11_takeTape_ex  μ
set_option maxHeartbeats 4000000 in
set_option maxRecDepth 100000 in
theorem t_X11_takeTape (l : Launch) (G : Gt) (ad : Nat → Nat)  (μ : Mem) {μz : Mem} (h : p_X11_takeTape  μ = some μz) : Mt l yX11_takeTape cX11_takeTape 1 none ({ frames := 2, cells := 0, slots := 0, locals := 45 } : Room) G [.ref (ad 0)] (wd 0 G ad μ) (eV 0 G ad μz) := by
  refine Bk.mt (by decide) rfl (Nat.le_of_ble_eq_true rfl) ?_
  intro p e s m below meth c A ls H locs cx hr hlk hA hl hw
  have hx := cx.1
  have hb := cx.2.1
  have hl : lv_has ls 1 [(0, .ref (ad 0))] := hl
  rw [p_X11_takeTape_eq] at h
  refine lv_aload_n hx hb dX11_takeTape_0 rfl (lv_at hl 0 rfl) ?_
  refine g_get cx hw inX11 (ci := 10) rfl 3 (by decide) rfl (v := .ref (ad 16)) shx_0 rfl fl_X11_35 dX11_takeTape_1 ?_
  refine lv_aload_n hx hb dX11_takeTape_4 rfl (lv_at hl 0 rfl) ?_
  refine g_get cx hw inX11 (ci := 10) rfl 1 (by decide) rfl (v := .int (μ.1 0 1)) shx_0 rfl fl_X11_13 dX11_takeTape_5 ?_
  obtain ⟨μ1, gμ1, h⟩ := bw_some h
  refine g_callVV (As := [.int (μ.1 0 1)]) (rest := []) cx hw hA (t_X4_begin l G ad (μ.1 0 1) μ gμ1) shx_16 rfl ml_X11_155 im_X4_begin se_X4_begin in_X4 co_X4_begin rfl hd_X4_begin rfl ⟨(Nat.le_of_ble_eq_true rfl), (Nat.le_of_ble_eq_true rfl)⟩ hl.1 rfl (Nat.le_of_ble_eq_true rfl) dX11_takeTape_8 ⟨rfl, rfl⟩ (fun H locs hw => ?_)
  refine lv_aload_n hx hb dX11_takeTape_11 rfl (lv_at hl 0 rfl) ?_
  refine lv_iconst (v := 0) hx hb dX11_takeTape_12 (by decide) ?_
  refine g_put cx hw inX11 (ci := 10) rfl tyX11_ok nmX11 1 (by decide) rfl rfl rfl rfl shx_0 h fl_X11_13 dX11_takeTape_13 (fun μ3 H locs h hw => ?_)
  exact g_vret cx hr hlk hw h dX11_takeTape_16

theorem p_X3_clear_b17_ex : ∃ f : Nat → Nat → Int32 → Mem → Option Mem, (∀ (a0 : Nat) (a1 : Int32) (μ : Mem), f  0 a0 a1 μ = none) ∧ (∀ (n : Nat) (a0 : Nat) (a1 : Int32) (μ : Mem), f  (n + 1) a0 a1 μ = (if (72 : Int32) ≤ a1 then some μ else gd (inb a1 72) (bv (sF μ (a0 + 3) a1.toNatClampNeg (-1 : Int32)) (fun μ5 => bv (a1 + 1) (fun v6 => f n a0 v6 μ5))))) := ⟨fun n => Nat.rec (fun (a0 : Nat) (a1 : Int32) (μ : Mem) => none) (fun _ ih => fun (a0 : Nat) (a1 : Int32) (μ : Mem) => (if (72 : Int32) ≤ a1 then some μ else gd (inb a1 72) (bv (sF μ (a0 + 3) a1.toNatClampNeg (-1 : Int32)) (fun μ5 => bv (a1 + 1) (fun v6 => ih a0 v6 μ5))))) n, fun  _ _ _ => rfl, fun  _ _ _ _ => rfl⟩
noncomputable def p_X3_clear_b17 : Nat → Nat → Int32 → Mem → Option Mem := Classical.choose p_X3_clear_b17_ex
theorem p_X3_clear_b17_z (a0 : Nat) (a1 : Int32) (μ : Mem) : p_X3_clear_b17  0 a0 a1 μ = none := (Classical.choose_spec p_X3_clear_b17_ex).1  a0 a1 μ
theorem p_X3_clear_b17_s (n : Nat) (a0 : Nat) (a1 : Int32) (μ : Mem) : p_X3_clear_b17  (n + 1) a0 a1 μ = (if (72 : Int32) ≤ a1 then some μ else gd (inb a1 72) (bv (sF μ (a0 + 3) a1.toNatClampNeg (-1 : Int32)) (fun μ5 => bv (a1 + 1) (fun v6 => p_X3_clear_b17  n a0 v6 μ5)))) := (Classical.choose_spec p_X3_clear_b17_ex).2  n a0 a1 μ
set_option maxHeartbeats 4000000 in
set_option maxRecDepth 100000 in
theorem t_X3_clear_b17 (l : Launch) (G : Gt) (ad : Nat → Nat) (av : List Value) {μz : Mem} : ∀ (n : Nat) (a0 : Nat) (q0 : sh 0 a0 = (0, 2)) (a1 : Int32) (μ : Mem), p_X3_clear_b17  n a0 a1 μ = some μz → Bk l cX3_clear 2 RX3 none ({ frames := 0, cells := 0, slots := 0, locals := 0 } : Room) G av (eV 0 G ad μz) (wd 0 G ad μ) 17 [(0, .ref (ad a0)), (1, .int a1)] [] := by
  intro n
  induction n with
  | zero => intro a0 q0 a1 μ h; rw [p_X3_clear_b17_z] at h; cases h
  | succ n ih =>
    intro a0 q0 a1 μ h p e s m below meth c A ls H locs cx hr hlk hA hl hw
    have hx := cx.1
    have hb := cx.2.1
    rw [p_X3_clear_b17_s] at h
    refine lv_iload_n hx hb dX3_clear_17 rfl (lv_at hl 1 rfl) ?_
    refine lv_bipush (v := 72) hx hb dX3_clear_18 (by decide) ?_
    refine lv_icmp_ge (tgt := 36) hx hb dX3_clear_20 (by decide) (fun c4 => ?_) (fun c4 => ?_)
    · rw [if_pos c4] at h
      exact g_vret cx hr hlk hw h dX3_clear_36
    · rw [if_neg c4] at h
      refine lv_aload_n hx hb dX3_clear_23 rfl (lv_at hl 0 rfl) ?_
      refine g_get cx hw inX3 (ci := 2) rfl 5 (by decide) rfl (v := .ref (ad (a0 + 3))) q0 rfl fl_X3_18 dX3_clear_24 ?_
      refine lv_iload_n hx hb dX3_clear_27 rfl (lv_at hl 1 rfl) ?_
      refine lv_iconst (v := (-1)) hx hb dX3_clear_28 (by decide) ?_
      refine g_iast cx hw (rl_X3_5 q0) h dX3_clear_29 (fun μ5 H locs h hw => ?_)
      obtain ⟨v6, ev6, h⟩ := bv_ex h
      refine lv_iinc (v := v6) (lv' := [(1, .int v6), (0, .ref (ad a0))]) hx hb dX3_clear_30 hl (k := 1) rfl (by rw [ev6]; rfl) (by decide) rfl (fun ls hl => ?_)
      refine lv_goto (tgt := 17) hx hb dX3_clear_33 (by decide) ?_
      exact ih a0 q0 v6 μ5 h p e s m below meth c A ls H locs cx hr hlk hA (lv_sub hl [1, 0] rfl) hw
theorem p_X3_clear_ex : ∃ f : Nat → Mem → Option Mem, ∀ (a0 : Nat) (μ : Mem), f a0 μ = bv (sF μ a0 0 (0 : Int32)) (fun μ1 => bv (sF μ1 a0 1 (0 : Int32)) (fun μ2 => bv (sF μ2 a0 2 (0 : Int32)) (fun μ3 => p_X3_clear_b17  FUEL a0 (0 : Int32) μ3))) := ⟨fun (a0 : Nat) (μ : Mem) => bv (sF μ a0 0 (0 : Int32)) (fun μ1 => bv (sF μ1 a0 1 (0 : Int32)) (fun μ2 => bv (sF μ2 a0 2 (0 : Int32)) (fun μ3 => p_X3_clear_b17  FUEL a0 (0 : Int32) μ3))), fun _ _ => rfl⟩
noncomputable def p_X3_clear : Nat → Mem → Option Mem := Classical.choose p_X3_clear_ex
theorem p_X3_clear_eq (a0 : Nat) (μ : Mem) : p_X3_clear a0 μ = bv (sF μ a0 0 (0 : Int32)) (fun μ1 => bv (sF μ1 a0 1 (0 : Int32)) (fun μ2 => bv (sF μ2 a0 2 (0 : Int32)) (fun μ3 => p_X3_clear_b17  FUEL a0 (0 : Int32) μ3))) := Classical.choose_spec p_X3_clear_ex a0 μ
set_option maxHeartbeats 4000000 in
set_option maxRecDepth 100000 in
theorem t_X3_clear (l : Launch) (G : Gt) (ad : Nat → Nat) (a0 : Nat) (q0 : sh 0 a0 = (0, 2)) (μ : Mem) {μz : Mem} (h : p_X3_clear a0 μ = some μz) : Mt l yX3_clear cX3_clear 2 none ({ frames := 0, cells := 0, slots := 0, locals := 0 } : Room) G [.ref (ad a0)] (wd 0 G ad μ) (eV 0 G ad μz) := by
  refine Bk.mt (by decide) rfl (Nat.le_of_ble_eq_true rfl) ?_
  intro p e s m below meth c A ls H locs cx hr hlk hA hl hw
  have hx := cx.1
  have hb := cx.2.1
  have hl : lv_has ls 2 [(0, .ref (ad a0))] := hl
  rw [p_X3_clear_eq] at h
  refine lv_aload_n hx hb dX3_clear_0 rfl (lv_at hl 0 rfl) ?_
  refine lv_iconst (v := 0) hx hb dX3_clear_1 (by decide) ?_
  refine g_put cx hw inX3 (ci := 2) rfl tyX3_ok nmX3 0 (by decide) rfl rfl rfl rfl q0 h fl_X3_30 dX3_clear_2 (fun μ1 H locs h hw => ?_)
  refine lv_aload_n hx hb dX3_clear_5 rfl (lv_at hl 0 rfl) ?_
  refine lv_iconst (v := 0) hx hb dX3_clear_6 (by decide) ?_
  refine g_put cx hw inX3 (ci := 2) rfl tyX3_ok nmX3 1 (by decide) rfl rfl rfl rfl q0 h fl_X3_34 dX3_clear_7 (fun μ2 H locs h hw => ?_)
  refine lv_aload_n hx hb dX3_clear_10 rfl (lv_at hl 0 rfl) ?_
  refine lv_iconst (v := 0) hx hb dX3_clear_11 (by decide) ?_
  refine g_put cx hw inX3 (ci := 2) rfl tyX3_ok nmX3 2 (by decide) rfl rfl rfl rfl q0 h fl_X3_37 dX3_clear_12 (fun μ3 H locs h hw => ?_)
  refine lv_iconst (v := 0) hx hb dX3_clear_15 (by decide) ?_
  refine lv_istore_n (lv' := [(1, .int 0), (0, .ref (ad a0))]) hx hb dX3_clear_16 rfl hl (by decide) rfl (fun ls hl => ?_)
  exact t_X3_clear_b17 l G ad _  FUEL a0 q0 (0 : Int32) μ3 h p e s m below meth c A ls H locs cx hr hlk hA (lv_sub hl [1, 0] rfl) hw

theorem p_X4_isWell_ex : ∃ f : Mem → Option (Int32 × Mem), ∀  (μ : Mem), f  μ = (if (μ.1 16 3) = (-1 : Int32) then some ((1 : Int32), μ) else some ((0 : Int32), μ)) := ⟨fun  (μ : Mem) => (if (μ.1 16 3) = (-1 : Int32) then some ((1 : Int32), μ) else some ((0 : Int32), μ)), fun _ => rfl⟩
noncomputable def p_X4_isWell : Mem → Option (Int32 × Mem) := Classical.choose p_X4_isWell_ex
theorem p_X4_isWell_eq  (μ : Mem) : p_X4_isWell  μ = (if (μ.1 16 3) = (-1 : Int32) then some ((1 : Int32), μ) else some ((0 : Int32), μ)) := Classical.choose_spec p_X4_isWell_ex  μ
set_option maxHeartbeats 4000000 in
set_option maxRecDepth 100000 in
theorem t_X4_isWell (l : Launch) (G : Gt) (ad : Nat → Nat)  (μ : Mem) {r : Int32} {μz : Mem} (h : p_X4_isWell  μ = some (r, μz)) : Mt l yX4_isWell cX4_isWell 1 (some .boolean) ({ frames := 0, cells := 0, slots := 0, locals := 0 } : Room) G [.ref (ad 16)] (wd 0 G ad μ) (eI 0 G ad r μz) := by
  refine Bk.mt (by decide) rfl (Nat.le_of_ble_eq_true rfl) ?_
  intro p e s m below meth c A ls H locs cx hr hlk hA hl hw
  have hx := cx.1
  have hb := cx.2.1
  have hl : lv_has ls 1 [(0, .ref (ad 16))] := hl
  rw [p_X4_isWell_eq] at h
  refine lv_aload_n hx hb dX4_isWell_0 rfl (lv_at hl 0 rfl) ?_
  refine g_get cx hw inX4 (ci := 3) rfl 3 (by decide) rfl (v := .int (μ.1 16 3)) shx_16 rfl fl_X4_22 dX4_isWell_1 ?_
  refine lv_iconst (v := (-1)) hx hb dX4_isWell_4 (by decide) ?_
  refine lv_icmp_ne (tgt := 12) hx hb dX4_isWell_5 (by decide) (fun c1 => ?_) (fun c1 => ?_)
  · rw [if_neg c1] at h
    refine lv_iconst (v := 0) hx hb dX4_isWell_12 (by decide) ?_
    exact g_zret cx hr hlk rfl hw h dX4_isWell_13
  · rw [if_pos c1] at h
    refine lv_iconst (v := 1) hx hb dX4_isWell_8 (by decide) ?_
    refine lv_goto (tgt := 13) hx hb dX4_isWell_9 (by decide) ?_
    exact g_zret cx hr hlk rfl hw h dX4_isWell_13

theorem p_X4_here_ex : ∃ f : Mem → Option (Int32 × Mem), ∀  (μ : Mem), f  μ = (if (μ.1 16 2) < (0 : Int32) then some ((-1 : Int32), μ) else (if (μ.1 16 1) ≤ (μ.1 16 2) then some ((-1 : Int32), μ) else gd (inb (μ.1 16 2) 800) (some ((μ.1 1 (μ.1 16 2).toNatClampNeg), μ)))) := ⟨fun  (μ : Mem) => (if (μ.1 16 2) < (0 : Int32) then some ((-1 : Int32), μ) else (if (μ.1 16 1) ≤ (μ.1 16 2) then some ((-1 : Int32), μ) else gd (inb (μ.1 16 2) 800) (some ((μ.1 1 (μ.1 16 2).toNatClampNeg), μ)))), fun _ => rfl⟩
noncomputable def p_X4_here : Mem → Option (Int32 × Mem) := Classical.choose p_X4_here_ex
theorem p_X4_here_eq  (μ : Mem) : p_X4_here  μ = (if (μ.1 16 2) < (0 : Int32) then some ((-1 : Int32), μ) else (if (μ.1 16 1) ≤ (μ.1 16 2) then some ((-1 : Int32), μ) else gd (inb (μ.1 16 2) 800) (some ((μ.1 1 (μ.1 16 2).toNatClampNeg), μ)))) := Classical.choose_spec p_X4_here_ex  μ
set_option maxHeartbeats 4000000 in
set_option maxRecDepth 100000 in
theorem t_X4_here (l : Launch) (G : Gt) (ad : Nat → Nat)  (μ : Mem) {r : Int32} {μz : Mem} (h : p_X4_here  μ = some (r, μz)) : Mt l yX4_here cX4_here 1 (some .int) ({ frames := 0, cells := 0, slots := 0, locals := 0 } : Room) G [.ref (ad 16)] (wd 0 G ad μ) (eI 0 G ad r μz) := by
  refine Bk.mt (by decide) rfl (Nat.le_of_ble_eq_true rfl) ?_
  intro p e s m below meth c A ls H locs cx hr hlk hA hl hw
  have hx := cx.1
  have hb := cx.2.1
  have hl : lv_has ls 1 [(0, .ref (ad 16))] := hl
  rw [p_X4_here_eq] at h
  refine lv_aload_n hx hb dX4_here_0 rfl (lv_at hl 0 rfl) ?_
  refine g_get cx hw inX4 (ci := 3) rfl 2 (by decide) rfl (v := .int (μ.1 16 2)) shx_16 rfl fl_X4_19 dX4_here_1 ?_
  refine lv_if_lt (tgt := 30) hx hb dX4_here_4 (by decide) (fun c1 => ?_) (fun c1 => ?_)
  · rw [if_pos c1] at h
    refine lv_iconst (v := (-1)) hx hb dX4_here_30 (by decide) ?_
    exact g_iret cx hr hlk hw h dX4_here_31
  · rw [if_neg c1] at h
    refine lv_aload_n hx hb dX4_here_7 rfl (lv_at hl 0 rfl) ?_
    refine g_get cx hw inX4 (ci := 3) rfl 2 (by decide) rfl (v := .int (μ.1 16 2)) shx_16 rfl fl_X4_19 dX4_here_8 ?_
    refine lv_aload_n hx hb dX4_here_11 rfl (lv_at hl 0 rfl) ?_
    refine g_get cx hw inX4 (ci := 3) rfl 1 (by decide) rfl (v := .int (μ.1 16 1)) shx_16 rfl fl_X4_15 dX4_here_12 ?_
    refine lv_icmp_ge (tgt := 30) hx hb dX4_here_15 (by decide) (fun c2 => ?_) (fun c2 => ?_)
    · rw [if_pos c2] at h
      refine lv_iconst (v := (-1)) hx hb dX4_here_30 (by decide) ?_
      exact g_iret cx hr hlk hw h dX4_here_31
    · rw [if_neg c2] at h
      refine lv_aload_n hx hb dX4_here_18 rfl (lv_at hl 0 rfl) ?_
      refine g_get cx hw inX4 (ci := 3) rfl 0 (by decide) rfl (v := .ref (ad 1)) shx_16 rfl fl_X4_9 dX4_here_19 ?_
      refine lv_aload_n hx hb dX4_here_22 rfl (lv_at hl 0 rfl) ?_
      refine g_get cx hw inX4 (ci := 3) rfl 2 (by decide) rfl (v := .int (μ.1 16 2)) shx_16 rfl fl_X4_19 dX4_here_23 ?_
      refine g_iald cx hw shx_1 h dX4_here_26 (fun h => ?_)
      refine lv_goto (tgt := 31) hx hb dX4_here_27 (by decide) ?_
      exact g_iret cx hr hlk hw h dX4_here_31

theorem s_X4_isLetter_ex : ∃ f : Int32 → Int32, ∀ (a0 : Int32), f a0 = (if a0 < (97 : Int32) then (0 : Int32) else (if (108 : Int32) < a0 then (0 : Int32) else (1 : Int32))) := ⟨fun (a0 : Int32) => (if a0 < (97 : Int32) then (0 : Int32) else (if (108 : Int32) < a0 then (0 : Int32) else (1 : Int32))), fun _ => rfl⟩
noncomputable def s_X4_isLetter : Int32 → Int32 := Classical.choose s_X4_isLetter_ex
theorem s_X4_isLetter_eq (a0 : Int32) : s_X4_isLetter a0 = (if a0 < (97 : Int32) then (0 : Int32) else (if (108 : Int32) < a0 then (0 : Int32) else (1 : Int32))) := Classical.choose_spec s_X4_isLetter_ex a0
set_option maxHeartbeats 4000000 in
set_option maxRecDepth 100000 in
theorem t_X4_isLetter (l : Launch) (G : Gt) (a0 : Int32) : Mt l yX4_isLetter cX4_isLetter 1 (some .boolean) ({ frames := 0, cells := 0, slots := 0, locals := 0 } : Room) G [.int a0] [] (sI G (s_X4_isLetter a0)) := by
  obtain ⟨r, h⟩ : ∃ r, s_X4_isLetter a0 = r := ⟨_, rfl⟩
  rw [h]
  refine Bk.mt (by decide) rfl (Nat.le_of_ble_eq_true rfl) ?_
  intro p e s m below meth c A ls H locs cx hr hlk hA hl hw
  have hx := cx.1
  have hb := cx.2.1
  have hl : lv_has ls 1 [(0, .int a0)] := hl
  rw [s_X4_isLetter_eq] at h
  refine lv_iload_n hx hb dX4_isLetter_0 rfl (lv_at hl 0 rfl) ?_
  refine lv_bipush (v := 97) hx hb dX4_isLetter_1 (by decide) ?_
  refine lv_icmp_lt (tgt := 16) hx hb dX4_isLetter_3 (by decide) (fun c1 => ?_) (fun c1 => ?_)
  · rw [if_pos c1] at h
    refine lv_iconst (v := 0) hx hb dX4_isLetter_16 (by decide) ?_
    exact s_zret cx hr hlk rfl hw h dX4_isLetter_17
  · rw [if_neg c1] at h
    refine lv_iload_n hx hb dX4_isLetter_6 rfl (lv_at hl 0 rfl) ?_
    refine lv_bipush (v := 108) hx hb dX4_isLetter_7 (by decide) ?_
    refine lv_icmp_gt (tgt := 16) hx hb dX4_isLetter_9 (by decide) (fun c2 => ?_) (fun c2 => ?_)
    · rw [if_pos c2] at h
      refine lv_iconst (v := 0) hx hb dX4_isLetter_16 (by decide) ?_
      exact s_zret cx hr hlk rfl hw h dX4_isLetter_17
    · rw [if_neg c2] at h
      refine lv_iconst (v := 1) hx hb dX4_isLetter_12 (by decide) ?_
      refine lv_goto (tgt := 17) hx hb dX4_isLetter_13 (by decide) ?_
      exact s_zret cx hr hlk rfl hw h dX4_isLetter_17

theorem p_X4_fail_ex : ∃ f : Int32 → Mem → Option Mem, ∀ (a1 : Int32) (μ : Mem), f a1 μ = (if (μ.1 16 3) = (-1 : Int32) then bv (sF μ 16 3 a1) (fun μ2 => some μ2) else some μ) := ⟨fun (a1 : Int32) (μ : Mem) => (if (μ.1 16 3) = (-1 : Int32) then bv (sF μ 16 3 a1) (fun μ2 => some μ2) else some μ), fun _ _ => rfl⟩
noncomputable def p_X4_fail : Int32 → Mem → Option Mem := Classical.choose p_X4_fail_ex
theorem p_X4_fail_eq (a1 : Int32) (μ : Mem) : p_X4_fail a1 μ = (if (μ.1 16 3) = (-1 : Int32) then bv (sF μ 16 3 a1) (fun μ2 => some μ2) else some μ) := Classical.choose_spec p_X4_fail_ex a1 μ
set_option maxHeartbeats 4000000 in
set_option maxRecDepth 100000 in
theorem t_X4_fail (l : Launch) (G : Gt) (ad : Nat → Nat) (a1 : Int32) (μ : Mem) {μz : Mem} (h : p_X4_fail a1 μ = some μz) : Mt l yX4_fail cX4_fail 2 none ({ frames := 0, cells := 0, slots := 0, locals := 0 } : Room) G [.ref (ad 16), .int a1] (wd 0 G ad μ) (eV 0 G ad μz) := by
  refine Bk.mt (by decide) rfl (Nat.le_of_ble_eq_true rfl) ?_
  intro p e s m below meth c A ls H locs cx hr hlk hA hl hw
  have hx := cx.1
  have hb := cx.2.1
  have hl : lv_has ls 2 [(0, .ref (ad 16)), (1, .int a1)] := hl
  rw [p_X4_fail_eq] at h
  refine lv_aload_n hx hb dX4_fail_0 rfl (lv_at hl 0 rfl) ?_
  refine g_get cx hw inX4 (ci := 3) rfl 3 (by decide) rfl (v := .int (μ.1 16 3)) shx_16 rfl fl_X4_22 dX4_fail_1 ?_
  refine lv_iconst (v := (-1)) hx hb dX4_fail_4 (by decide) ?_
  refine lv_icmp_ne (tgt := 13) hx hb dX4_fail_5 (by decide) (fun c1 => ?_) (fun c1 => ?_)
  · rw [if_neg c1] at h
    exact g_vret cx hr hlk hw h dX4_fail_13
  · rw [if_pos c1] at h
    refine lv_aload_n hx hb dX4_fail_8 rfl (lv_at hl 0 rfl) ?_
    refine lv_iload_n hx hb dX4_fail_9 rfl (lv_at hl 1 rfl) ?_
    refine g_put cx hw inX4 (ci := 3) rfl tyX4_ok nmX4 3 (by decide) rfl rfl rfl rfl shx_16 h fl_X4_22 dX4_fail_10 (fun μ2 H locs h hw => ?_)
    exact g_vret cx hr hlk hw h dX4_fail_13

theorem p_X4_take_ex : ∃ f : Int32 → Mem → Option (Int32 × Mem), ∀ (a1 : Int32) (μ : Mem), f a1 μ = bd (p_X4_isWell μ) (fun r2 μ1 => (if r2 = (0 : Int32) then some ((0 : Int32), μ1) else bd (p_X4_here μ1) (fun r5 μ4 => (if r5 = a1 then bv (sF μ4 16 2 ((μ4.1 16 2) + (1 : Int32))) (fun μ7 => some ((1 : Int32), μ7)) else bw (p_X4_fail (μ4.1 16 2) μ4) (fun μ8 => some ((0 : Int32), μ8)))))) := ⟨fun (a1 : Int32) (μ : Mem) => bd (p_X4_isWell μ) (fun r2 μ1 => (if r2 = (0 : Int32) then some ((0 : Int32), μ1) else bd (p_X4_here μ1) (fun r5 μ4 => (if r5 = a1 then bv (sF μ4 16 2 ((μ4.1 16 2) + (1 : Int32))) (fun μ7 => some ((1 : Int32), μ7)) else bw (p_X4_fail (μ4.1 16 2) μ4) (fun μ8 => some ((0 : Int32), μ8)))))), fun _ _ => rfl⟩
noncomputable def p_X4_take : Int32 → Mem → Option (Int32 × Mem) := Classical.choose p_X4_take_ex
theorem p_X4_take_eq (a1 : Int32) (μ : Mem) : p_X4_take a1 μ = bd (p_X4_isWell μ) (fun r2 μ1 => (if r2 = (0 : Int32) then some ((0 : Int32), μ1) else bd (p_X4_here μ1) (fun r5 μ4 => (if r5 = a1 then bv (sF μ4 16 2 ((μ4.1 16 2) + (1 : Int32))) (fun μ7 => some ((1 : Int32), μ7)) else bw (p_X4_fail (μ4.1 16 2) μ4) (fun μ8 => some ((0 : Int32), μ8)))))) := Classical.choose_spec p_X4_take_ex a1 μ
set_option maxHeartbeats 4000000 in
set_option maxRecDepth 100000 in
theorem t_X4_take (l : Launch) (G : Gt) (ad : Nat → Nat) (a1 : Int32) (μ : Mem) {r : Int32} {μz : Mem} (h : p_X4_take a1 μ = some (r, μz)) : Mt l yX4_take cX4_take 2 (some .boolean) ({ frames := 1, cells := 0, slots := 0, locals := 21 } : Room) G [.ref (ad 16), .int a1] (wd 0 G ad μ) (eI 0 G ad r μz) := by
  refine Bk.mt (by decide) rfl (Nat.le_of_ble_eq_true rfl) ?_
  intro p e s m below meth c A ls H locs cx hr hlk hA hl hw
  have hx := cx.1
  have hb := cx.2.1
  have hl : lv_has ls 2 [(0, .ref (ad 16)), (1, .int a1)] := hl
  rw [p_X4_take_eq] at h
  refine lv_aload_n hx hb dX4_take_0 rfl (lv_at hl 0 rfl) ?_
  obtain ⟨r2, μ1, gr2, h⟩ := bd_some h
  refine g_callVI (As := []) (rest := []) cx hw hA (t_X4_isWell l G ad μ gr2) shx_16 rfl ml_X4_43 im_X4_isWell se_X4_isWell in_X4 co_X4_isWell rfl hd_X4_isWell rfl ⟨(Nat.le_of_ble_eq_true rfl), (Nat.le_of_ble_eq_true rfl)⟩ hl.1 rfl (Nat.le_of_ble_eq_true rfl) dX4_take_1 ⟨rfl, rfl⟩ (fun H locs hw => ?_)
  refine lv_if_ne (tgt := 9) hx hb dX4_take_4 (by decide) (fun c3 => ?_) (fun c3 => ?_)
  · rw [if_neg c3] at h
    refine lv_aload_n hx hb dX4_take_9 rfl (lv_at hl 0 rfl) ?_
    obtain ⟨r5, μ4, gr5, h⟩ := bd_some h
    refine g_callVI (As := []) (rest := []) cx hw hA (t_X4_here l G ad μ1 gr5) shx_16 rfl ml_X4_47 im_X4_here se_X4_here in_X4 co_X4_here rfl hd_X4_here rfl ⟨(Nat.le_of_ble_eq_true rfl), (Nat.le_of_ble_eq_true rfl)⟩ hl.1 rfl (Nat.le_of_ble_eq_true rfl) dX4_take_10 ⟨rfl, rfl⟩ (fun H locs hw => ?_)
    refine lv_iload_n hx hb dX4_take_13 rfl (lv_at hl 1 rfl) ?_
    refine lv_icmp_eq (tgt := 27) hx hb dX4_take_14 (by decide) (fun c6 => ?_) (fun c6 => ?_)
    · rw [if_pos c6] at h
      refine lv_aload_n hx hb dX4_take_27 rfl (lv_at hl 0 rfl) ?_
      refine lv_dup hx hb dX4_take_28 rfl ?_
      refine g_get cx hw inX4 (ci := 3) rfl 2 (by decide) rfl (v := .int (μ4.1 16 2)) shx_16 rfl fl_X4_19 dX4_take_29 ?_
      refine lv_iconst (v := 1) hx hb dX4_take_32 (by decide) ?_
      refine lv_iadd hx hb dX4_take_33 ?_
      refine g_put cx hw inX4 (ci := 3) rfl tyX4_ok nmX4 2 (by decide) rfl rfl rfl rfl shx_16 h fl_X4_19 dX4_take_34 (fun μ7 H locs h hw => ?_)
      refine lv_iconst (v := 1) hx hb dX4_take_37 (by decide) ?_
      exact g_zret cx hr hlk rfl hw h dX4_take_38
    · rw [if_neg c6] at h
      refine lv_aload_n hx hb dX4_take_17 rfl (lv_at hl 0 rfl) ?_
      refine lv_aload_n hx hb dX4_take_18 rfl (lv_at hl 0 rfl) ?_
      refine g_get cx hw inX4 (ci := 3) rfl 2 (by decide) rfl (v := .int (μ4.1 16 2)) shx_16 rfl fl_X4_19 dX4_take_19 ?_
      obtain ⟨μ8, gμ8, h⟩ := bw_some h
      refine g_callVV (As := [.int (μ4.1 16 2)]) (rest := []) cx hw hA (t_X4_fail l G ad (μ4.1 16 2) μ4 gμ8) shx_16 rfl ml_X4_51 im_X4_fail se_X4_fail in_X4 co_X4_fail rfl hd_X4_fail rfl ⟨(Nat.le_of_ble_eq_true rfl), (Nat.le_of_ble_eq_true rfl)⟩ hl.1 rfl (Nat.le_of_ble_eq_true rfl) dX4_take_22 ⟨rfl, rfl⟩ (fun H locs hw => ?_)
      refine lv_iconst (v := 0) hx hb dX4_take_25 (by decide) ?_
      exact g_zret cx hr hlk rfl hw h dX4_take_26
  · rw [if_pos c3] at h
    refine lv_iconst (v := 0) hx hb dX4_take_7 (by decide) ?_
    exact g_zret cx hr hlk rfl hw h dX4_take_8

theorem s_X4_isVar_ex : ∃ f : Int32 → Int32, ∀ (a0 : Int32), f a0 = (if a0 < (109 : Int32) then (0 : Int32) else (if (122 : Int32) < a0 then (0 : Int32) else (1 : Int32))) := ⟨fun (a0 : Int32) => (if a0 < (109 : Int32) then (0 : Int32) else (if (122 : Int32) < a0 then (0 : Int32) else (1 : Int32))), fun _ => rfl⟩
noncomputable def s_X4_isVar : Int32 → Int32 := Classical.choose s_X4_isVar_ex
theorem s_X4_isVar_eq (a0 : Int32) : s_X4_isVar a0 = (if a0 < (109 : Int32) then (0 : Int32) else (if (122 : Int32) < a0 then (0 : Int32) else (1 : Int32))) := Classical.choose_spec s_X4_isVar_ex a0
set_option maxHeartbeats 4000000 in
set_option maxRecDepth 100000 in
theorem t_X4_isVar (l : Launch) (G : Gt) (a0 : Int32) : Mt l yX4_isVar cX4_isVar 1 (some .boolean) ({ frames := 0, cells := 0, slots := 0, locals := 0 } : Room) G [.int a0] [] (sI G (s_X4_isVar a0)) := by
  obtain ⟨r, h⟩ : ∃ r, s_X4_isVar a0 = r := ⟨_, rfl⟩
  rw [h]
  refine Bk.mt (by decide) rfl (Nat.le_of_ble_eq_true rfl) ?_
  intro p e s m below meth c A ls H locs cx hr hlk hA hl hw
  have hx := cx.1
  have hb := cx.2.1
  have hl : lv_has ls 1 [(0, .int a0)] := hl
  rw [s_X4_isVar_eq] at h
  refine lv_iload_n hx hb dX4_isVar_0 rfl (lv_at hl 0 rfl) ?_
  refine lv_bipush (v := 109) hx hb dX4_isVar_1 (by decide) ?_
  refine lv_icmp_lt (tgt := 16) hx hb dX4_isVar_3 (by decide) (fun c1 => ?_) (fun c1 => ?_)
  · rw [if_pos c1] at h
    refine lv_iconst (v := 0) hx hb dX4_isVar_16 (by decide) ?_
    exact s_zret cx hr hlk rfl hw h dX4_isVar_17
  · rw [if_neg c1] at h
    refine lv_iload_n hx hb dX4_isVar_6 rfl (lv_at hl 0 rfl) ?_
    refine lv_bipush (v := 122) hx hb dX4_isVar_7 (by decide) ?_
    refine lv_icmp_gt (tgt := 16) hx hb dX4_isVar_9 (by decide) (fun c2 => ?_) (fun c2 => ?_)
    · rw [if_pos c2] at h
      refine lv_iconst (v := 0) hx hb dX4_isVar_16 (by decide) ?_
      exact s_zret cx hr hlk rfl hw h dX4_isVar_17
    · rw [if_neg c2] at h
      refine lv_iconst (v := 1) hx hb dX4_isVar_12 (by decide) ?_
      refine lv_goto (tgt := 17) hx hb dX4_isVar_13 (by decide) ?_
      exact s_zret cx hr hlk rfl hw h dX4_isVar_17

theorem p_X4_slotOf_b32_ex : ∃ f : (Int32 → Int32 → Mem → Option (Int32 × Mem)) → Int32 → Int32 → Mem → Option (Int32 × Mem), ∀ (K7 : Int32 → Int32 → Mem → Option (Int32 × Mem)) (a1 : Int32) (a2 : Int32) (μ : Mem), f K7 a1 a2 μ = bv (a2 + (-1)) (fun v4 => K7 a1 v4 μ) := ⟨fun (K7 : Int32 → Int32 → Mem → Option (Int32 × Mem)) (a1 : Int32) (a2 : Int32) (μ : Mem) => bv (a2 + (-1)) (fun v4 => K7 a1 v4 μ), fun _ _ _ _ => rfl⟩
noncomputable def p_X4_slotOf_b32 : (Int32 → Int32 → Mem → Option (Int32 × Mem)) → Int32 → Int32 → Mem → Option (Int32 × Mem) := Classical.choose p_X4_slotOf_b32_ex
theorem p_X4_slotOf_b32_eq (K7 : Int32 → Int32 → Mem → Option (Int32 × Mem)) (a1 : Int32) (a2 : Int32) (μ : Mem) : p_X4_slotOf_b32 K7 a1 a2 μ = bv (a2 + (-1)) (fun v4 => K7 a1 v4 μ) := Classical.choose_spec p_X4_slotOf_b32_ex K7 a1 a2 μ
set_option maxHeartbeats 4000000 in
set_option maxRecDepth 100000 in
theorem t_X4_slotOf_b32 (l : Launch) (G : Gt) (ad : Nat → Nat) (av : List Value) {r : Int32} {μz : Mem} (K7 : Int32 → Int32 → Mem → Option (Int32 × Mem)) (hK7 : ∀ (z1 : Int32) (z2 : Int32) (μ1 : Mem), K7 z1 z2 μ1 = some (r, μz) → Bk l cX4_slotOf 3 RX4 (some .int) ({ frames := 0, cells := 0, slots := 0, locals := 0 } : Room) G av (eI 0 G ad r μz) (wd 0 G ad μ1) 7 [(0, .ref (ad 16)), (1, .int z1), (2, .int z2)] []) (a1 : Int32) (a2 : Int32) (μ : Mem) (h : p_X4_slotOf_b32 K7 a1 a2 μ = some (r, μz)) : Bk l cX4_slotOf 3 RX4 (some .int) ({ frames := 0, cells := 0, slots := 0, locals := 0 } : Room) G av (eI 0 G ad r μz) (wd 0 G ad μ) 32 [(0, .ref (ad 16)), (1, .int a1), (2, .int a2)] [] := by
  intro p e s m below meth c A ls H locs cx hr hlk hA hl hw
  have hx := cx.1
  have hb := cx.2.1
  rw [p_X4_slotOf_b32_eq] at h
  obtain ⟨v4, ev4, h⟩ := bv_ex h
  refine lv_iinc (v := v4) (lv' := [(2, .int v4), (0, .ref (ad 16)), (1, .int a1)]) hx hb dX4_slotOf_32 hl (k := 2) rfl (by rw [ev4]; rfl) (by decide) rfl (fun ls hl => ?_)
  refine lv_goto (tgt := 7) hx hb dX4_slotOf_35 (by decide) ?_
  exact hK7 a1 v4 μ h p e s m below meth c A ls H locs cx hr hlk hA (lv_sub hl [1, 2, 0] rfl) hw
theorem p_X4_slotOf_b7_ex : ∃ f : Nat → Int32 → Int32 → Mem → Option (Int32 × Mem), (∀ (a1 : Int32) (a2 : Int32) (μ : Mem), f  0 a1 a2 μ = none) ∧ (∀ (n : Nat) (a1 : Int32) (a2 : Int32) (μ : Mem), f  (n + 1) a1 a2 μ = (if a2 < (0 : Int32) then some ((-1 : Int32), μ) else (if (32 : Int32) ≤ a2 then p_X4_slotOf_b32 (f n) a1 a2 μ else gd (inb a2 32) ((if (μ.1 17 a2.toNatClampNeg) = a1 then some (a2, μ) else p_X4_slotOf_b32 (f n) a1 a2 μ))))) := ⟨fun n => Nat.rec (fun (a1 : Int32) (a2 : Int32) (μ : Mem) => none) (fun _ ih => fun (a1 : Int32) (a2 : Int32) (μ : Mem) => (if a2 < (0 : Int32) then some ((-1 : Int32), μ) else (if (32 : Int32) ≤ a2 then p_X4_slotOf_b32 (ih) a1 a2 μ else gd (inb a2 32) ((if (μ.1 17 a2.toNatClampNeg) = a1 then some (a2, μ) else p_X4_slotOf_b32 (ih) a1 a2 μ))))) n, fun  _ _ _ => rfl, fun  _ _ _ _ => rfl⟩
noncomputable def p_X4_slotOf_b7 : Nat → Int32 → Int32 → Mem → Option (Int32 × Mem) := Classical.choose p_X4_slotOf_b7_ex
theorem p_X4_slotOf_b7_z (a1 : Int32) (a2 : Int32) (μ : Mem) : p_X4_slotOf_b7  0 a1 a2 μ = none := (Classical.choose_spec p_X4_slotOf_b7_ex).1  a1 a2 μ
theorem p_X4_slotOf_b7_s (n : Nat) (a1 : Int32) (a2 : Int32) (μ : Mem) : p_X4_slotOf_b7  (n + 1) a1 a2 μ = (if a2 < (0 : Int32) then some ((-1 : Int32), μ) else (if (32 : Int32) ≤ a2 then p_X4_slotOf_b32 (p_X4_slotOf_b7  n) a1 a2 μ else gd (inb a2 32) ((if (μ.1 17 a2.toNatClampNeg) = a1 then some (a2, μ) else p_X4_slotOf_b32 (p_X4_slotOf_b7  n) a1 a2 μ)))) := (Classical.choose_spec p_X4_slotOf_b7_ex).2  n a1 a2 μ
set_option maxHeartbeats 4000000 in
set_option maxRecDepth 100000 in
theorem t_X4_slotOf_b7 (l : Launch) (G : Gt) (ad : Nat → Nat) (av : List Value) {r : Int32} {μz : Mem} : ∀ (n : Nat) (a1 : Int32) (a2 : Int32) (μ : Mem), p_X4_slotOf_b7  n a1 a2 μ = some (r, μz) → Bk l cX4_slotOf 3 RX4 (some .int) ({ frames := 0, cells := 0, slots := 0, locals := 0 } : Room) G av (eI 0 G ad r μz) (wd 0 G ad μ) 7 [(0, .ref (ad 16)), (1, .int a1), (2, .int a2)] [] := by
  intro n
  induction n with
  | zero => intro a1 a2 μ h; rw [p_X4_slotOf_b7_z] at h; cases h
  | succ n ih =>
    intro a1 a2 μ h p e s m below meth c A ls H locs cx hr hlk hA hl hw
    have hx := cx.1
    have hb := cx.2.1
    rw [p_X4_slotOf_b7_s] at h
    refine lv_iload_n hx hb dX4_slotOf_7 rfl (lv_at hl 2 rfl) ?_
    refine lv_if_lt (tgt := 38) hx hb dX4_slotOf_8 (by decide) (fun c2 => ?_) (fun c2 => ?_)
    · rw [if_pos c2] at h
      refine lv_iconst (v := (-1)) hx hb dX4_slotOf_38 (by decide) ?_
      exact g_iret cx hr hlk hw h dX4_slotOf_39
    · rw [if_neg c2] at h
      refine lv_iload_n hx hb dX4_slotOf_11 rfl (lv_at hl 2 rfl) ?_
      refine lv_aload_n hx hb dX4_slotOf_12 rfl (lv_at hl 0 rfl) ?_
      refine g_get cx hw inX4 (ci := 3) rfl 5 (by decide) rfl (v := .ref (ad 17)) shx_16 rfl fl_X4_31 dX4_slotOf_13 ?_
      refine g_alen1 cx hw shx_17 (v := 32) (by decide +kernel) dX4_slotOf_16 ?_
      refine lv_icmp_ge (tgt := 32) hx hb dX4_slotOf_17 (by decide) (fun c3 => ?_) (fun c3 => ?_)
      · rw [if_pos c3] at h
        exact t_X4_slotOf_b32 l G ad av _ ih a1 a2 μ h p e s m below meth c A ls H locs cx hr hlk hA (lv_sub hl [0, 1, 2] rfl) hw
      · rw [if_neg c3] at h
        refine lv_aload_n hx hb dX4_slotOf_20 rfl (lv_at hl 0 rfl) ?_
        refine g_get cx hw inX4 (ci := 3) rfl 5 (by decide) rfl (v := .ref (ad 17)) shx_16 rfl fl_X4_31 dX4_slotOf_21 ?_
        refine lv_iload_n hx hb dX4_slotOf_24 rfl (lv_at hl 2 rfl) ?_
        refine g_iald cx hw shx_17 h dX4_slotOf_25 (fun h => ?_)
        refine lv_iload_n hx hb dX4_slotOf_26 rfl (lv_at hl 1 rfl) ?_
        refine lv_icmp_ne (tgt := 32) hx hb dX4_slotOf_27 (by decide) (fun c5 => ?_) (fun c5 => ?_)
        · rw [if_neg c5] at h
          exact t_X4_slotOf_b32 l G ad av _ ih a1 a2 μ h p e s m below meth c A ls H locs cx hr hlk hA (lv_sub hl [0, 1, 2] rfl) hw
        · rw [if_pos c5] at h
          refine lv_iload_n hx hb dX4_slotOf_30 rfl (lv_at hl 2 rfl) ?_
          exact g_iret cx hr hlk hw h dX4_slotOf_31
theorem p_X4_slotOf_ex : ∃ f : Int32 → Mem → Option (Int32 × Mem), ∀ (a1 : Int32) (μ : Mem), f a1 μ = bv ((μ.1 16 6) - (1 : Int32)) (fun v1 => p_X4_slotOf_b7  FUEL a1 v1 μ) := ⟨fun (a1 : Int32) (μ : Mem) => bv ((μ.1 16 6) - (1 : Int32)) (fun v1 => p_X4_slotOf_b7  FUEL a1 v1 μ), fun _ _ => rfl⟩
noncomputable def p_X4_slotOf : Int32 → Mem → Option (Int32 × Mem) := Classical.choose p_X4_slotOf_ex
theorem p_X4_slotOf_eq (a1 : Int32) (μ : Mem) : p_X4_slotOf a1 μ = bv ((μ.1 16 6) - (1 : Int32)) (fun v1 => p_X4_slotOf_b7  FUEL a1 v1 μ) := Classical.choose_spec p_X4_slotOf_ex a1 μ
set_option maxHeartbeats 4000000 in
set_option maxRecDepth 100000 in
theorem t_X4_slotOf (l : Launch) (G : Gt) (ad : Nat → Nat) (a1 : Int32) (μ : Mem) {r : Int32} {μz : Mem} (h : p_X4_slotOf a1 μ = some (r, μz)) : Mt l yX4_slotOf cX4_slotOf 3 (some .int) ({ frames := 0, cells := 0, slots := 0, locals := 0 } : Room) G [.ref (ad 16), .int a1] (wd 0 G ad μ) (eI 0 G ad r μz) := by
  refine Bk.mt (by decide) rfl (Nat.le_of_ble_eq_true rfl) ?_
  intro p e s m below meth c A ls H locs cx hr hlk hA hl hw
  have hx := cx.1
  have hb := cx.2.1
  have hl : lv_has ls 3 [(0, .ref (ad 16)), (1, .int a1)] := hl
  rw [p_X4_slotOf_eq] at h
  refine lv_aload_n hx hb dX4_slotOf_0 rfl (lv_at hl 0 rfl) ?_
  refine g_get cx hw inX4 (ci := 3) rfl 6 (by decide) rfl (v := .int (μ.1 16 6)) shx_16 rfl fl_X4_34 dX4_slotOf_1 ?_
  refine lv_iconst (v := 1) hx hb dX4_slotOf_4 (by decide) ?_
  refine lv_isub hx hb dX4_slotOf_5 ?_
  obtain ⟨v1, ev1, h⟩ := bv_ex h
  refine lv_topi (fun y9 z9 => ?_)
  obtain rfl : v1 = y9 := ev1.trans z9.symm
  refine lv_istore_n (lv' := [(2, .int v1), (0, .ref (ad 16)), (1, .int a1)]) hx hb dX4_slotOf_6 rfl hl (by decide) rfl (fun ls hl => ?_)
  exact t_X4_slotOf_b7 l G ad _  FUEL a1 v1 μ h p e s m below meth c A ls H locs cx hr hlk hA (lv_sub hl [1, 2, 0] rfl) hw

theorem p_X4_nameOne_ex : ∃ f : Int32 → Mem → Option Mem, ∀ (a1 : Int32) (μ : Mem), f a1 μ = (if (32 : Int32) ≤ (μ.1 16 6) then some μ else gd (inb (μ.1 16 6) 32) (bv (sF μ 17 (μ.1 16 6).toNatClampNeg a1) (fun μ2 => bv (sF μ2 16 6 ((μ2.1 16 6) + (1 : Int32))) (fun μ3 => some μ3)))) := ⟨fun (a1 : Int32) (μ : Mem) => (if (32 : Int32) ≤ (μ.1 16 6) then some μ else gd (inb (μ.1 16 6) 32) (bv (sF μ 17 (μ.1 16 6).toNatClampNeg a1) (fun μ2 => bv (sF μ2 16 6 ((μ2.1 16 6) + (1 : Int32))) (fun μ3 => some μ3)))), fun _ _ => rfl⟩
noncomputable def p_X4_nameOne : Int32 → Mem → Option Mem := Classical.choose p_X4_nameOne_ex
theorem p_X4_nameOne_eq (a1 : Int32) (μ : Mem) : p_X4_nameOne a1 μ = (if (32 : Int32) ≤ (μ.1 16 6) then some μ else gd (inb (μ.1 16 6) 32) (bv (sF μ 17 (μ.1 16 6).toNatClampNeg a1) (fun μ2 => bv (sF μ2 16 6 ((μ2.1 16 6) + (1 : Int32))) (fun μ3 => some μ3)))) := Classical.choose_spec p_X4_nameOne_ex a1 μ
set_option maxHeartbeats 4000000 in
set_option maxRecDepth 100000 in
theorem t_X4_nameOne (l : Launch) (G : Gt) (ad : Nat → Nat) (a1 : Int32) (μ : Mem) {μz : Mem} (h : p_X4_nameOne a1 μ = some μz) : Mt l yX4_nameOne cX4_nameOne 2 none ({ frames := 0, cells := 0, slots := 0, locals := 0 } : Room) G [.ref (ad 16), .int a1] (wd 0 G ad μ) (eV 0 G ad μz) := by
  refine Bk.mt (by decide) rfl (Nat.le_of_ble_eq_true rfl) ?_
  intro p e s m below meth c A ls H locs cx hr hlk hA hl hw
  have hx := cx.1
  have hb := cx.2.1
  have hl : lv_has ls 2 [(0, .ref (ad 16)), (1, .int a1)] := hl
  rw [p_X4_nameOne_eq] at h
  refine lv_aload_n hx hb dX4_nameOne_0 rfl (lv_at hl 0 rfl) ?_
  refine g_get cx hw inX4 (ci := 3) rfl 6 (by decide) rfl (v := .int (μ.1 16 6)) shx_16 rfl fl_X4_34 dX4_nameOne_1 ?_
  refine lv_aload_n hx hb dX4_nameOne_4 rfl (lv_at hl 0 rfl) ?_
  refine g_get cx hw inX4 (ci := 3) rfl 5 (by decide) rfl (v := .ref (ad 17)) shx_16 rfl fl_X4_31 dX4_nameOne_5 ?_
  refine g_alen1 cx hw shx_17 (v := 32) (by decide +kernel) dX4_nameOne_8 ?_
  refine lv_icmp_ge (tgt := 32) hx hb dX4_nameOne_9 (by decide) (fun c1 => ?_) (fun c1 => ?_)
  · rw [if_pos c1] at h
    exact g_vret cx hr hlk hw h dX4_nameOne_32
  · rw [if_neg c1] at h
    refine lv_aload_n hx hb dX4_nameOne_12 rfl (lv_at hl 0 rfl) ?_
    refine g_get cx hw inX4 (ci := 3) rfl 5 (by decide) rfl (v := .ref (ad 17)) shx_16 rfl fl_X4_31 dX4_nameOne_13 ?_
    refine lv_aload_n hx hb dX4_nameOne_16 rfl (lv_at hl 0 rfl) ?_
    refine g_get cx hw inX4 (ci := 3) rfl 6 (by decide) rfl (v := .int (μ.1 16 6)) shx_16 rfl fl_X4_34 dX4_nameOne_17 ?_
    refine lv_iload_n hx hb dX4_nameOne_20 rfl (lv_at hl 1 rfl) ?_
    refine g_iast cx hw shx_17 h dX4_nameOne_21 (fun μ2 H locs h hw => ?_)
    refine lv_aload_n hx hb dX4_nameOne_22 rfl (lv_at hl 0 rfl) ?_
    refine lv_dup hx hb dX4_nameOne_23 rfl ?_
    refine g_get cx hw inX4 (ci := 3) rfl 6 (by decide) rfl (v := .int (μ2.1 16 6)) shx_16 rfl fl_X4_34 dX4_nameOne_24 ?_
    refine lv_iconst (v := 1) hx hb dX4_nameOne_27 (by decide) ?_
    refine lv_iadd hx hb dX4_nameOne_28 ?_
    refine g_put cx hw inX4 (ci := 3) rfl tyX4_ok nmX4 6 (by decide) rfl rfl rfl rfl shx_16 h fl_X4_34 dX4_nameOne_29 (fun μ3 H locs h hw => ?_)
    exact g_vret cx hr hlk hw h dX4_nameOne_32

theorem p_X4_readName_ex : ∃ f : Mem → Option Mem, ∀  (μ : Mem), f  μ = bd (p_X4_isWell μ) (fun r2 μ1 => (if r2 = (0 : Int32) then some μ1 else bd (p_X4_here μ1) (fun r5 μ4 => (if (s_X4_isVar r5) = (0 : Int32) then bw (p_X4_fail (μ4.1 16 2) μ4) (fun μ7 => some μ7) else bd (p_X4_slotOf r5 μ4) (fun r10 μ9 => (if r10 = (-1 : Int32) then bv (sF μ9 16 2 ((μ9.1 16 2) + (1 : Int32))) (fun μ12 => bw (p_X4_nameOne r5 μ12) (fun μ13 => some μ13)) else bw (p_X4_fail (μ9.1 16 2) μ9) (fun μ15 => some μ15))))))) := ⟨fun  (μ : Mem) => bd (p_X4_isWell μ) (fun r2 μ1 => (if r2 = (0 : Int32) then some μ1 else bd (p_X4_here μ1) (fun r5 μ4 => (if (s_X4_isVar r5) = (0 : Int32) then bw (p_X4_fail (μ4.1 16 2) μ4) (fun μ7 => some μ7) else bd (p_X4_slotOf r5 μ4) (fun r10 μ9 => (if r10 = (-1 : Int32) then bv (sF μ9 16 2 ((μ9.1 16 2) + (1 : Int32))) (fun μ12 => bw (p_X4_nameOne r5 μ12) (fun μ13 => some μ13)) else bw (p_X4_fail (μ9.1 16 2) μ9) (fun μ15 => some μ15))))))), fun _ => rfl⟩
noncomputable def p_X4_readName : Mem → Option Mem := Classical.choose p_X4_readName_ex
theorem p_X4_readName_eq  (μ : Mem) : p_X4_readName  μ = bd (p_X4_isWell μ) (fun r2 μ1 => (if r2 = (0 : Int32) then some μ1 else bd (p_X4_here μ1) (fun r5 μ4 => (if (s_X4_isVar r5) = (0 : Int32) then bw (p_X4_fail (μ4.1 16 2) μ4) (fun μ7 => some μ7) else bd (p_X4_slotOf r5 μ4) (fun r10 μ9 => (if r10 = (-1 : Int32) then bv (sF μ9 16 2 ((μ9.1 16 2) + (1 : Int32))) (fun μ12 => bw (p_X4_nameOne r5 μ12) (fun μ13 => some μ13)) else bw (p_X4_fail (μ9.1 16 2) μ9) (fun μ15 => some μ15))))))) := Classical.choose_spec p_X4_readName_ex  μ
set_option maxHeartbeats 4000000 in
set_option maxRecDepth 100000 in
theorem t_X4_readName (l : Launch) (G : Gt) (ad : Nat → Nat)  (μ : Mem) {μz : Mem} (h : p_X4_readName  μ = some μz) : Mt l yX4_readName cX4_readName 2 none ({ frames := 1, cells := 0, slots := 0, locals := 22 } : Room) G [.ref (ad 16)] (wd 0 G ad μ) (eV 0 G ad μz) := by
  refine Bk.mt (by decide) rfl (Nat.le_of_ble_eq_true rfl) ?_
  intro p e s m below meth c A ls H locs cx hr hlk hA hl hw
  have hx := cx.1
  have hb := cx.2.1
  have hl : lv_has ls 2 [(0, .ref (ad 16))] := hl
  rw [p_X4_readName_eq] at h
  refine lv_aload_n hx hb dX4_readName_0 rfl (lv_at hl 0 rfl) ?_
  obtain ⟨r2, μ1, gr2, h⟩ := bd_some h
  refine g_callVI (As := []) (rest := []) cx hw hA (t_X4_isWell l G ad μ gr2) shx_16 rfl ml_X4_43 im_X4_isWell se_X4_isWell in_X4 co_X4_isWell rfl hd_X4_isWell rfl ⟨(Nat.le_of_ble_eq_true rfl), (Nat.le_of_ble_eq_true rfl)⟩ hl.1 rfl (Nat.le_of_ble_eq_true rfl) dX4_readName_1 ⟨rfl, rfl⟩ (fun H locs hw => ?_)
  refine lv_if_ne (tgt := 8) hx hb dX4_readName_4 (by decide) (fun c3 => ?_) (fun c3 => ?_)
  · rw [if_neg c3] at h
    refine lv_aload_n hx hb dX4_readName_8 rfl (lv_at hl 0 rfl) ?_
    obtain ⟨r5, μ4, gr5, h⟩ := bd_some h
    refine g_callVI (As := []) (rest := []) cx hw hA (t_X4_here l G ad μ1 gr5) shx_16 rfl ml_X4_47 im_X4_here se_X4_here in_X4 co_X4_here rfl hd_X4_here rfl ⟨(Nat.le_of_ble_eq_true rfl), (Nat.le_of_ble_eq_true rfl)⟩ hl.1 rfl (Nat.le_of_ble_eq_true rfl) dX4_readName_9 ⟨rfl, rfl⟩ (fun H locs hw => ?_)
    refine lv_istore_n (lv' := [(1, .int r5), (0, .ref (ad 16))]) hx hb dX4_readName_12 rfl hl (by decide) rfl (fun ls hl => ?_)
    refine lv_iload_n hx hb dX4_readName_13 rfl (lv_at hl 0 rfl) ?_
    refine s_callI (As := [.int r5]) (rest := []) cx hw hA (t_X4_isVar l G r5) ml_X4_95 st_X4_isVar in_X4 co_X4_isVar hd_X4_isVar rfl ⟨(Nat.le_of_ble_eq_true rfl), (Nat.le_of_ble_eq_true rfl)⟩ hl.1 rfl (Nat.le_of_ble_eq_true rfl) dX4_readName_14 rfl (fun H locs hw => ?_)
    refine lv_if_eq (tgt := 29) hx hb dX4_readName_17 (by decide) (fun c6 => ?_) (fun c6 => ?_)
    · rw [if_pos c6] at h
      refine lv_aload_n hx hb dX4_readName_29 rfl (lv_at hl 1 rfl) ?_
      refine lv_aload_n hx hb dX4_readName_30 rfl (lv_at hl 1 rfl) ?_
      refine g_get cx hw inX4 (ci := 3) rfl 2 (by decide) rfl (v := .int (μ4.1 16 2)) shx_16 rfl fl_X4_19 dX4_readName_31 ?_
      obtain ⟨μ7, gμ7, h⟩ := bw_some h
      refine g_callVV (As := [.int (μ4.1 16 2)]) (rest := []) cx hw hA (t_X4_fail l G ad (μ4.1 16 2) μ4 gμ7) shx_16 rfl ml_X4_51 im_X4_fail se_X4_fail in_X4 co_X4_fail rfl hd_X4_fail rfl ⟨(Nat.le_of_ble_eq_true rfl), (Nat.le_of_ble_eq_true rfl)⟩ hl.1 rfl (Nat.le_of_ble_eq_true rfl) dX4_readName_34 ⟨rfl, rfl⟩ (fun H locs hw => ?_)
      exact g_vret cx hr hlk hw h dX4_readName_37
    · rw [if_neg c6] at h
      refine lv_aload_n hx hb dX4_readName_20 rfl (lv_at hl 1 rfl) ?_
      refine lv_iload_n hx hb dX4_readName_21 rfl (lv_at hl 0 rfl) ?_
      obtain ⟨r10, μ9, gr10, h⟩ := bd_some h
      refine g_callVI (As := [.int r5]) (rest := []) cx hw hA (t_X4_slotOf l G ad r5 μ4 gr10) shx_16 rfl ml_X4_98 im_X4_slotOf se_X4_slotOf in_X4 co_X4_slotOf rfl hd_X4_slotOf rfl ⟨(Nat.le_of_ble_eq_true rfl), (Nat.le_of_ble_eq_true rfl)⟩ hl.1 rfl (Nat.le_of_ble_eq_true rfl) dX4_readName_22 ⟨rfl, rfl⟩ (fun H locs hw => ?_)
      refine lv_iconst (v := (-1)) hx hb dX4_readName_25 (by decide) ?_
      refine lv_icmp_eq (tgt := 38) hx hb dX4_readName_26 (by decide) (fun c11 => ?_) (fun c11 => ?_)
      · rw [if_pos c11] at h
        refine lv_aload_n hx hb dX4_readName_38 rfl (lv_at hl 1 rfl) ?_
        refine lv_dup hx hb dX4_readName_39 rfl ?_
        refine g_get cx hw inX4 (ci := 3) rfl 2 (by decide) rfl (v := .int (μ9.1 16 2)) shx_16 rfl fl_X4_19 dX4_readName_40 ?_
        refine lv_iconst (v := 1) hx hb dX4_readName_43 (by decide) ?_
        refine lv_iadd hx hb dX4_readName_44 ?_
        refine g_put cx hw inX4 (ci := 3) rfl tyX4_ok nmX4 2 (by decide) rfl rfl rfl rfl shx_16 h fl_X4_19 dX4_readName_45 (fun μ12 H locs h hw => ?_)
        refine lv_aload_n hx hb dX4_readName_48 rfl (lv_at hl 1 rfl) ?_
        refine lv_iload_n hx hb dX4_readName_49 rfl (lv_at hl 0 rfl) ?_
        obtain ⟨μ13, gμ13, h⟩ := bw_some h
        refine g_callVV (As := [.int r5]) (rest := []) cx hw hA (t_X4_nameOne l G ad r5 μ12 gμ13) shx_16 rfl ml_X4_101 im_X4_nameOne se_X4_nameOne in_X4 co_X4_nameOne rfl hd_X4_nameOne rfl ⟨(Nat.le_of_ble_eq_true rfl), (Nat.le_of_ble_eq_true rfl)⟩ hl.1 rfl (Nat.le_of_ble_eq_true rfl) dX4_readName_50 ⟨rfl, rfl⟩ (fun H locs hw => ?_)
        exact g_vret cx hr hlk hw h dX4_readName_53
      · rw [if_neg c11] at h
        refine lv_aload_n hx hb dX4_readName_29 rfl (lv_at hl 1 rfl) ?_
        refine lv_aload_n hx hb dX4_readName_30 rfl (lv_at hl 1 rfl) ?_
        refine g_get cx hw inX4 (ci := 3) rfl 2 (by decide) rfl (v := .int (μ9.1 16 2)) shx_16 rfl fl_X4_19 dX4_readName_31 ?_
        obtain ⟨μ15, gμ15, h⟩ := bw_some h
        refine g_callVV (As := [.int (μ9.1 16 2)]) (rest := []) cx hw hA (t_X4_fail l G ad (μ9.1 16 2) μ9 gμ15) shx_16 rfl ml_X4_51 im_X4_fail se_X4_fail in_X4 co_X4_fail rfl hd_X4_fail rfl ⟨(Nat.le_of_ble_eq_true rfl), (Nat.le_of_ble_eq_true rfl)⟩ hl.1 rfl (Nat.le_of_ble_eq_true rfl) dX4_readName_34 ⟨rfl, rfl⟩ (fun H locs hw => ?_)
        exact g_vret cx hr hlk hw h dX4_readName_37
  · rw [if_pos c3] at h
    exact g_vret cx hr hlk hw h dX4_readName_7

theorem p_X4_readNames_b16_ex : ∃ f : Nat → Int32 → Mem → Option Mem, (∀ (a1 : Int32) (μ : Mem), f  0 a1 μ = none) ∧ (∀ (n : Nat) (a1 : Int32) (μ : Mem), f  (n + 1) a1 μ = (if (5 : Int32) ≤ a1 then some μ else bd (p_X4_isWell μ) (fun r8 μ7 => (if r8 = (0 : Int32) then some μ7 else bd (p_X4_here μ7) (fun r11 μ10 => (if r11 = (44 : Int32) then bv (sF μ10 16 2 ((μ10.1 16 2) + (1 : Int32))) (fun μ13 => bw (p_X4_readName μ13) (fun μ14 => bv (a1 + 1) (fun v16 => f n v16 μ14))) else some μ10)))))) := ⟨fun n => Nat.rec (fun (a1 : Int32) (μ : Mem) => none) (fun _ ih => fun (a1 : Int32) (μ : Mem) => (if (5 : Int32) ≤ a1 then some μ else bd (p_X4_isWell μ) (fun r8 μ7 => (if r8 = (0 : Int32) then some μ7 else bd (p_X4_here μ7) (fun r11 μ10 => (if r11 = (44 : Int32) then bv (sF μ10 16 2 ((μ10.1 16 2) + (1 : Int32))) (fun μ13 => bw (p_X4_readName μ13) (fun μ14 => bv (a1 + 1) (fun v16 => ih v16 μ14))) else some μ10)))))) n, fun  _ _ => rfl, fun  _ _ _ => rfl⟩
noncomputable def p_X4_readNames_b16 : Nat → Int32 → Mem → Option Mem := Classical.choose p_X4_readNames_b16_ex
theorem p_X4_readNames_b16_z (a1 : Int32) (μ : Mem) : p_X4_readNames_b16  0 a1 μ = none := (Classical.choose_spec p_X4_readNames_b16_ex).1  a1 μ
theorem p_X4_readNames_b16_s (n : Nat) (a1 : Int32) (μ : Mem) : p_X4_readNames_b16  (n + 1) a1 μ = (if (5 : Int32) ≤ a1 then some μ else bd (p_X4_isWell μ) (fun r8 μ7 => (if r8 = (0 : Int32) then some μ7 else bd (p_X4_here μ7) (fun r11 μ10 => (if r11 = (44 : Int32) then bv (sF μ10 16 2 ((μ10.1 16 2) + (1 : Int32))) (fun μ13 => bw (p_X4_readName μ13) (fun μ14 => bv (a1 + 1) (fun v16 => p_X4_readNames_b16  n v16 μ14))) else some μ10))))) := (Classical.choose_spec p_X4_readNames_b16_ex).2  n a1 μ
set_option maxHeartbeats 4000000 in
set_option maxRecDepth 100000 in
theorem t_X4_readNames_b16 (l : Launch) (G : Gt) (ad : Nat → Nat) (av : List Value) {μz : Mem} : ∀ (n : Nat) (a1 : Int32) (μ : Mem), p_X4_readNames_b16  n a1 μ = some μz → Bk l cX4_readNames 2 RX4 none ({ frames := 2, cells := 0, slots := 0, locals := 43 } : Room) G av (eV 0 G ad μz) (wd 0 G ad μ) 16 [(0, .ref (ad 16)), (1, .int a1)] [] := by
  intro n
  induction n with
  | zero => intro a1 μ h; rw [p_X4_readNames_b16_z] at h; cases h
  | succ n ih =>
    intro a1 μ h p e s m below meth c A ls H locs cx hr hlk hA hl hw
    have hx := cx.1
    have hb := cx.2.1
    rw [p_X4_readNames_b16_s] at h
    refine lv_iload_n hx hb dX4_readNames_16 rfl (lv_at hl 1 rfl) ?_
    refine lv_iconst (v := 5) hx hb dX4_readNames_17 (by decide) ?_
    refine lv_icmp_ge (tgt := 57) hx hb dX4_readNames_18 (by decide) (fun c6 => ?_) (fun c6 => ?_)
    · rw [if_pos c6] at h
      exact g_vret cx hr hlk hw h dX4_readNames_57
    · rw [if_neg c6] at h
      refine lv_aload_n hx hb dX4_readNames_21 rfl (lv_at hl 0 rfl) ?_
      obtain ⟨r8, μ7, gr8, h⟩ := bd_some h
      refine g_callVI (As := []) (rest := []) cx hw hA (t_X4_isWell l G ad μ gr8) shx_16 rfl ml_X4_43 im_X4_isWell se_X4_isWell in_X4 co_X4_isWell rfl hd_X4_isWell rfl ⟨(Nat.le_of_ble_eq_true rfl), (Nat.le_of_ble_eq_true rfl)⟩ hl.1 rfl (Nat.le_of_ble_eq_true rfl) dX4_readNames_22 ⟨rfl, rfl⟩ (fun H locs hw => ?_)
      refine lv_if_eq (tgt := 57) hx hb dX4_readNames_25 (by decide) (fun c9 => ?_) (fun c9 => ?_)
      · rw [if_pos c9] at h
        exact g_vret cx hr hlk hw h dX4_readNames_57
      · rw [if_neg c9] at h
        refine lv_aload_n hx hb dX4_readNames_28 rfl (lv_at hl 0 rfl) ?_
        obtain ⟨r11, μ10, gr11, h⟩ := bd_some h
        refine g_callVI (As := []) (rest := []) cx hw hA (t_X4_here l G ad μ7 gr11) shx_16 rfl ml_X4_47 im_X4_here se_X4_here in_X4 co_X4_here rfl hd_X4_here rfl ⟨(Nat.le_of_ble_eq_true rfl), (Nat.le_of_ble_eq_true rfl)⟩ hl.1 rfl (Nat.le_of_ble_eq_true rfl) dX4_readNames_29 ⟨rfl, rfl⟩ (fun H locs hw => ?_)
        refine lv_bipush (v := 44) hx hb dX4_readNames_32 (by decide) ?_
        refine lv_icmp_ne (tgt := 57) hx hb dX4_readNames_34 (by decide) (fun c12 => ?_) (fun c12 => ?_)
        · rw [if_neg c12] at h
          exact g_vret cx hr hlk hw h dX4_readNames_57
        · rw [if_pos c12] at h
          refine lv_aload_n hx hb dX4_readNames_37 rfl (lv_at hl 0 rfl) ?_
          refine lv_dup hx hb dX4_readNames_38 rfl ?_
          refine g_get cx hw inX4 (ci := 3) rfl 2 (by decide) rfl (v := .int (μ10.1 16 2)) shx_16 rfl fl_X4_19 dX4_readNames_39 ?_
          refine lv_iconst (v := 1) hx hb dX4_readNames_42 (by decide) ?_
          refine lv_iadd hx hb dX4_readNames_43 ?_
          refine g_put cx hw inX4 (ci := 3) rfl tyX4_ok nmX4 2 (by decide) rfl rfl rfl rfl shx_16 h fl_X4_19 dX4_readNames_44 (fun μ13 H locs h hw => ?_)
          refine lv_aload_n hx hb dX4_readNames_47 rfl (lv_at hl 0 rfl) ?_
          obtain ⟨μ14, gμ14, h⟩ := bw_some h
          refine g_callVV (As := []) (rest := []) cx hw hA (t_X4_readName l G ad μ13 gμ14) shx_16 rfl ml_X4_90 im_X4_readName se_X4_readName in_X4 co_X4_readName rfl hd_X4_readName rfl ⟨(Nat.le_of_ble_eq_true rfl), (Nat.le_of_ble_eq_true rfl)⟩ hl.1 rfl (Nat.le_of_ble_eq_true rfl) dX4_readNames_48 ⟨rfl, rfl⟩ (fun H locs hw => ?_)
          obtain ⟨v16, ev16, h⟩ := bv_ex h
          refine lv_iinc (v := v16) (lv' := [(1, .int v16), (0, .ref (ad 16))]) hx hb dX4_readNames_51 hl (k := 1) rfl (by rw [ev16]; rfl) (by decide) rfl (fun ls hl => ?_)
          refine lv_goto (tgt := 16) hx hb dX4_readNames_54 (by decide) ?_
          exact ih v16 μ14 h p e s m below meth c A ls H locs cx hr hlk hA (lv_sub hl [1, 0] rfl) hw
theorem p_X4_readNames_ex : ∃ f : Mem → Option Mem, ∀  (μ : Mem), f  μ = bd (p_X4_here μ) (fun r2 μ1 => (if r2 = (41 : Int32) then some μ1 else bw (p_X4_readName μ1) (fun μ4 => p_X4_readNames_b16  FUEL (1 : Int32) μ4))) := ⟨fun  (μ : Mem) => bd (p_X4_here μ) (fun r2 μ1 => (if r2 = (41 : Int32) then some μ1 else bw (p_X4_readName μ1) (fun μ4 => p_X4_readNames_b16  FUEL (1 : Int32) μ4))), fun _ => rfl⟩
noncomputable def p_X4_readNames : Mem → Option Mem := Classical.choose p_X4_readNames_ex
theorem p_X4_readNames_eq  (μ : Mem) : p_X4_readNames  μ = bd (p_X4_here μ) (fun r2 μ1 => (if r2 = (41 : Int32) then some μ1 else bw (p_X4_readName μ1) (fun μ4 => p_X4_readNames_b16  FUEL (1 : Int32) μ4))) := Classical.choose_spec p_X4_readNames_ex  μ
set_option maxHeartbeats 4000000 in
set_option maxRecDepth 100000 in
theorem t_X4_readNames (l : Launch) (G : Gt) (ad : Nat → Nat)  (μ : Mem) {μz : Mem} (h : p_X4_readNames  μ = some μz) : Mt l yX4_readNames cX4_readNames 2 none ({ frames := 2, cells := 0, slots := 0, locals := 43 } : Room) G [.ref (ad 16)] (wd 0 G ad μ) (eV 0 G ad μz) := by
  refine Bk.mt (by decide) rfl (Nat.le_of_ble_eq_true rfl) ?_
  intro p e s m below meth c A ls H locs cx hr hlk hA hl hw
  have hx := cx.1
  have hb := cx.2.1
  have hl : lv_has ls 2 [(0, .ref (ad 16))] := hl
  rw [p_X4_readNames_eq] at h
  refine lv_aload_n hx hb dX4_readNames_0 rfl (lv_at hl 0 rfl) ?_
  obtain ⟨r2, μ1, gr2, h⟩ := bd_some h
  refine g_callVI (As := []) (rest := []) cx hw hA (t_X4_here l G ad μ gr2) shx_16 rfl ml_X4_47 im_X4_here se_X4_here in_X4 co_X4_here rfl hd_X4_here rfl ⟨(Nat.le_of_ble_eq_true rfl), (Nat.le_of_ble_eq_true rfl)⟩ hl.1 rfl (Nat.le_of_ble_eq_true rfl) dX4_readNames_1 ⟨rfl, rfl⟩ (fun H locs hw => ?_)
  refine lv_bipush (v := 41) hx hb dX4_readNames_4 (by decide) ?_
  refine lv_icmp_ne (tgt := 10) hx hb dX4_readNames_6 (by decide) (fun c3 => ?_) (fun c3 => ?_)
  · rw [if_neg c3] at h
    refine lv_aload_n hx hb dX4_readNames_10 rfl (lv_at hl 0 rfl) ?_
    obtain ⟨μ4, gμ4, h⟩ := bw_some h
    refine g_callVV (As := []) (rest := []) cx hw hA (t_X4_readName l G ad μ1 gμ4) shx_16 rfl ml_X4_90 im_X4_readName se_X4_readName in_X4 co_X4_readName rfl hd_X4_readName rfl ⟨(Nat.le_of_ble_eq_true rfl), (Nat.le_of_ble_eq_true rfl)⟩ hl.1 rfl (Nat.le_of_ble_eq_true rfl) dX4_readNames_11 ⟨rfl, rfl⟩ (fun H locs hw => ?_)
    refine lv_iconst (v := 1) hx hb dX4_readNames_14 (by decide) ?_
    refine lv_istore_n (lv' := [(1, .int 1), (0, .ref (ad 16))]) hx hb dX4_readNames_15 rfl hl (by decide) rfl (fun ls hl => ?_)
    exact t_X4_readNames_b16 l G ad _  FUEL (1 : Int32) μ4 h p e s m below meth c A ls H locs cx hr hlk hA (lv_sub hl [1, 0] rfl) hw
  · rw [if_pos c3] at h
    exact g_vret cx hr hlk hw h dX4_readNames_9

theorem p_X3_startOf_ex : ∃ f : Nat → Int32 → Mem → Option (Int32 × Mem), ∀ (a0 : Nat) (a1 : Int32) (μ : Mem), f a0 a1 μ = (if a1 < (0 : Int32) then some ((-1 : Int32), μ) else (if (72 : Int32) ≤ a1 then some ((-1 : Int32), μ) else gd (inb a1 72) ((if (μ.1 (a0 + 3) a1.toNatClampNeg) < (0 : Int32) then some ((-1 : Int32), μ) else gd (inb a1 72) ((if (μ.1 (a0 + 3) a1.toNatClampNeg) < (μ.1 a0 0) then gd (inb a1 72) (gd (inb (μ.1 (a0 + 3) a1.toNatClampNeg) 72) (some ((μ.1 (a0 + 2) (μ.1 (a0 + 3) a1.toNatClampNeg).toNatClampNeg), μ))) else some ((-1 : Int32), μ))))))) := ⟨fun (a0 : Nat) (a1 : Int32) (μ : Mem) => (if a1 < (0 : Int32) then some ((-1 : Int32), μ) else (if (72 : Int32) ≤ a1 then some ((-1 : Int32), μ) else gd (inb a1 72) ((if (μ.1 (a0 + 3) a1.toNatClampNeg) < (0 : Int32) then some ((-1 : Int32), μ) else gd (inb a1 72) ((if (μ.1 (a0 + 3) a1.toNatClampNeg) < (μ.1 a0 0) then gd (inb a1 72) (gd (inb (μ.1 (a0 + 3) a1.toNatClampNeg) 72) (some ((μ.1 (a0 + 2) (μ.1 (a0 + 3) a1.toNatClampNeg).toNatClampNeg), μ))) else some ((-1 : Int32), μ))))))), fun _ _ _ => rfl⟩
noncomputable def p_X3_startOf : Nat → Int32 → Mem → Option (Int32 × Mem) := Classical.choose p_X3_startOf_ex
theorem p_X3_startOf_eq (a0 : Nat) (a1 : Int32) (μ : Mem) : p_X3_startOf a0 a1 μ = (if a1 < (0 : Int32) then some ((-1 : Int32), μ) else (if (72 : Int32) ≤ a1 then some ((-1 : Int32), μ) else gd (inb a1 72) ((if (μ.1 (a0 + 3) a1.toNatClampNeg) < (0 : Int32) then some ((-1 : Int32), μ) else gd (inb a1 72) ((if (μ.1 (a0 + 3) a1.toNatClampNeg) < (μ.1 a0 0) then gd (inb a1 72) (gd (inb (μ.1 (a0 + 3) a1.toNatClampNeg) 72) (some ((μ.1 (a0 + 2) (μ.1 (a0 + 3) a1.toNatClampNeg).toNatClampNeg), μ))) else some ((-1 : Int32), μ))))))) := Classical.choose_spec p_X3_startOf_ex a0 a1 μ
set_option maxHeartbeats 4000000 in
set_option maxRecDepth 100000 in
theorem t_X3_startOf (l : Launch) (G : Gt) (ad : Nat → Nat) (a0 : Nat) (q0 : sh 0 a0 = (0, 2)) (a1 : Int32) (μ : Mem) {r : Int32} {μz : Mem} (h : p_X3_startOf a0 a1 μ = some (r, μz)) : Mt l yX3_startOf cX3_startOf 2 (some .int) ({ frames := 0, cells := 0, slots := 0, locals := 0 } : Room) G [.ref (ad a0), .int a1] (wd 0 G ad μ) (eI 0 G ad r μz) := by
  refine Bk.mt (by decide) rfl (Nat.le_of_ble_eq_true rfl) ?_
  intro p e s m below meth c A ls H locs cx hr hlk hA hl hw
  have hx := cx.1
  have hb := cx.2.1
  have hl : lv_has ls 2 [(0, .ref (ad a0)), (1, .int a1)] := hl
  rw [p_X3_startOf_eq] at h
  refine lv_iload_n hx hb dX3_startOf_0 rfl (lv_at hl 1 rfl) ?_
  refine lv_if_lt (tgt := 32) hx hb dX3_startOf_1 (by decide) (fun c1 => ?_) (fun c1 => ?_)
  · rw [if_pos c1] at h
    refine lv_iconst (v := (-1)) hx hb dX3_startOf_32 (by decide) ?_
    exact g_iret cx hr hlk hw h dX3_startOf_33
  · rw [if_neg c1] at h
    refine lv_iload_n hx hb dX3_startOf_4 rfl (lv_at hl 1 rfl) ?_
    refine lv_bipush (v := 72) hx hb dX3_startOf_5 (by decide) ?_
    refine lv_icmp_ge (tgt := 32) hx hb dX3_startOf_7 (by decide) (fun c2 => ?_) (fun c2 => ?_)
    · rw [if_pos c2] at h
      refine lv_iconst (v := (-1)) hx hb dX3_startOf_32 (by decide) ?_
      exact g_iret cx hr hlk hw h dX3_startOf_33
    · rw [if_neg c2] at h
      refine lv_aload_n hx hb dX3_startOf_10 rfl (lv_at hl 0 rfl) ?_
      refine g_get cx hw inX3 (ci := 2) rfl 5 (by decide) rfl (v := .ref (ad (a0 + 3))) q0 rfl fl_X3_18 dX3_startOf_11 ?_
      refine lv_iload_n hx hb dX3_startOf_14 rfl (lv_at hl 1 rfl) ?_
      refine g_iald cx hw (rl_X3_5 q0) h dX3_startOf_15 (fun h => ?_)
      refine lv_if_lt (tgt := 32) hx hb dX3_startOf_16 (by decide) (fun c3 => ?_) (fun c3 => ?_)
      · rw [if_pos c3] at h
        refine lv_iconst (v := (-1)) hx hb dX3_startOf_32 (by decide) ?_
        exact g_iret cx hr hlk hw h dX3_startOf_33
      · rw [if_neg c3] at h
        refine lv_aload_n hx hb dX3_startOf_19 rfl (lv_at hl 0 rfl) ?_
        refine g_get cx hw inX3 (ci := 2) rfl 5 (by decide) rfl (v := .ref (ad (a0 + 3))) q0 rfl fl_X3_18 dX3_startOf_20 ?_
        refine lv_iload_n hx hb dX3_startOf_23 rfl (lv_at hl 1 rfl) ?_
        refine g_iald cx hw (rl_X3_5 q0) h dX3_startOf_24 (fun h => ?_)
        refine lv_aload_n hx hb dX3_startOf_25 rfl (lv_at hl 0 rfl) ?_
        refine g_get cx hw inX3 (ci := 2) rfl 0 (by decide) rfl (v := .int (μ.1 a0 0)) q0 rfl fl_X3_30 dX3_startOf_26 ?_
        refine lv_icmp_lt (tgt := 34) hx hb dX3_startOf_29 (by decide) (fun c4 => ?_) (fun c4 => ?_)
        · rw [if_pos c4] at h
          refine lv_aload_n hx hb dX3_startOf_34 rfl (lv_at hl 0 rfl) ?_
          refine g_get cx hw inX3 (ci := 2) rfl 4 (by decide) rfl (v := .ref (ad (a0 + 2))) q0 rfl fl_X3_15 dX3_startOf_35 ?_
          refine lv_aload_n hx hb dX3_startOf_38 rfl (lv_at hl 0 rfl) ?_
          refine g_get cx hw inX3 (ci := 2) rfl 5 (by decide) rfl (v := .ref (ad (a0 + 3))) q0 rfl fl_X3_18 dX3_startOf_39 ?_
          refine lv_iload_n hx hb dX3_startOf_42 rfl (lv_at hl 1 rfl) ?_
          refine g_iald cx hw (rl_X3_5 q0) h dX3_startOf_43 (fun h => ?_)
          refine g_iald cx hw (rl_X3_4 q0) h dX3_startOf_44 (fun h => ?_)
          exact g_iret cx hr hlk hw h dX3_startOf_45
        · rw [if_neg c4] at h
          refine lv_iconst (v := (-1)) hx hb dX3_startOf_32 (by decide) ?_
          exact g_iret cx hr hlk hw h dX3_startOf_33

theorem p_X3_begin_b22_ex : ∃ f : Nat → Nat → Int32 → Int32 → Mem → Option Mem, (∀ (a0 : Nat) (a1 : Int32) (a2 : Int32) (μ : Mem), f  0 a0 a1 a2 μ = none) ∧ (∀ (n : Nat) (a0 : Nat) (a1 : Int32) (a2 : Int32) (μ : Mem), f  (n + 1) a0 a1 a2 μ = (if (6 : Int32) ≤ a2 then gd (inb ((μ.1 a0 0) * (6 : Int32)) 432) (bv (sF μ (a0 + 1) ((μ.1 a0 0) * (6 : Int32)).toNatClampNeg ((a1 / (6 : Int32)) + (1 : Int32))) (fun μ5 => gd (inb (((μ5.1 a0 0) * (6 : Int32)) + (1 : Int32)) 432) (bv (sF μ5 (a0 + 1) (((μ5.1 a0 0) * (6 : Int32)) + (1 : Int32)).toNatClampNeg (a1 - a1 / (6 : Int32) * (6 : Int32))) (fun μ6 => gd (inb (μ6.1 a0 0) 72) (bv (sF μ6 (a0 + 2) (μ6.1 a0 0).toNatClampNeg (μ6.1 a0 2)) (fun μ7 => gd (inb a1 72) (bv (sF μ7 (a0 + 3) a1.toNatClampNeg (μ7.1 a0 0)) (fun μ8 => bv (sF μ8 a0 0 ((μ8.1 a0 0) + (1 : Int32))) (fun μ9 => some μ9))))))))) else gd (inb (((μ.1 a0 0) * (6 : Int32)) + a2) 432) (bv (sF μ (a0 + 1) (((μ.1 a0 0) * (6 : Int32)) + a2).toNatClampNeg (0 : Int32)) (fun μ10 => bv (a2 + 1) (fun v11 => f n a0 a1 v11 μ10))))) := ⟨fun n => Nat.rec (fun (a0 : Nat) (a1 : Int32) (a2 : Int32) (μ : Mem) => none) (fun _ ih => fun (a0 : Nat) (a1 : Int32) (a2 : Int32) (μ : Mem) => (if (6 : Int32) ≤ a2 then gd (inb ((μ.1 a0 0) * (6 : Int32)) 432) (bv (sF μ (a0 + 1) ((μ.1 a0 0) * (6 : Int32)).toNatClampNeg ((a1 / (6 : Int32)) + (1 : Int32))) (fun μ5 => gd (inb (((μ5.1 a0 0) * (6 : Int32)) + (1 : Int32)) 432) (bv (sF μ5 (a0 + 1) (((μ5.1 a0 0) * (6 : Int32)) + (1 : Int32)).toNatClampNeg (a1 - a1 / (6 : Int32) * (6 : Int32))) (fun μ6 => gd (inb (μ6.1 a0 0) 72) (bv (sF μ6 (a0 + 2) (μ6.1 a0 0).toNatClampNeg (μ6.1 a0 2)) (fun μ7 => gd (inb a1 72) (bv (sF μ7 (a0 + 3) a1.toNatClampNeg (μ7.1 a0 0)) (fun μ8 => bv (sF μ8 a0 0 ((μ8.1 a0 0) + (1 : Int32))) (fun μ9 => some μ9))))))))) else gd (inb (((μ.1 a0 0) * (6 : Int32)) + a2) 432) (bv (sF μ (a0 + 1) (((μ.1 a0 0) * (6 : Int32)) + a2).toNatClampNeg (0 : Int32)) (fun μ10 => bv (a2 + 1) (fun v11 => ih a0 a1 v11 μ10))))) n, fun  _ _ _ _ => rfl, fun  _ _ _ _ _ => rfl⟩
noncomputable def p_X3_begin_b22 : Nat → Nat → Int32 → Int32 → Mem → Option Mem := Classical.choose p_X3_begin_b22_ex
theorem p_X3_begin_b22_z (a0 : Nat) (a1 : Int32) (a2 : Int32) (μ : Mem) : p_X3_begin_b22  0 a0 a1 a2 μ = none := (Classical.choose_spec p_X3_begin_b22_ex).1  a0 a1 a2 μ
theorem p_X3_begin_b22_s (n : Nat) (a0 : Nat) (a1 : Int32) (a2 : Int32) (μ : Mem) : p_X3_begin_b22  (n + 1) a0 a1 a2 μ = (if (6 : Int32) ≤ a2 then gd (inb ((μ.1 a0 0) * (6 : Int32)) 432) (bv (sF μ (a0 + 1) ((μ.1 a0 0) * (6 : Int32)).toNatClampNeg ((a1 / (6 : Int32)) + (1 : Int32))) (fun μ5 => gd (inb (((μ5.1 a0 0) * (6 : Int32)) + (1 : Int32)) 432) (bv (sF μ5 (a0 + 1) (((μ5.1 a0 0) * (6 : Int32)) + (1 : Int32)).toNatClampNeg (a1 - a1 / (6 : Int32) * (6 : Int32))) (fun μ6 => gd (inb (μ6.1 a0 0) 72) (bv (sF μ6 (a0 + 2) (μ6.1 a0 0).toNatClampNeg (μ6.1 a0 2)) (fun μ7 => gd (inb a1 72) (bv (sF μ7 (a0 + 3) a1.toNatClampNeg (μ7.1 a0 0)) (fun μ8 => bv (sF μ8 a0 0 ((μ8.1 a0 0) + (1 : Int32))) (fun μ9 => some μ9))))))))) else gd (inb (((μ.1 a0 0) * (6 : Int32)) + a2) 432) (bv (sF μ (a0 + 1) (((μ.1 a0 0) * (6 : Int32)) + a2).toNatClampNeg (0 : Int32)) (fun μ10 => bv (a2 + 1) (fun v11 => p_X3_begin_b22  n a0 a1 v11 μ10)))) := (Classical.choose_spec p_X3_begin_b22_ex).2  n a0 a1 a2 μ
set_option maxHeartbeats 4000000 in
set_option maxRecDepth 100000 in
theorem t_X3_begin_b22 (l : Launch) (G : Gt) (ad : Nat → Nat) (av : List Value) {μz : Mem} : ∀ (n : Nat) (a0 : Nat) (q0 : sh 0 a0 = (0, 2)) (a1 : Int32) (a2 : Int32) (μ : Mem), p_X3_begin_b22  n a0 a1 a2 μ = some μz → Bk l cX3_begin 3 RX3 none ({ frames := 0, cells := 0, slots := 0, locals := 0 } : Room) G av (eV 0 G ad μz) (wd 0 G ad μ) 22 [(0, .ref (ad a0)), (1, .int a1), (2, .int a2)] [] := by
  intro n
  induction n with
  | zero => intro a0 q0 a1 a2 μ h; rw [p_X3_begin_b22_z] at h; cases h
  | succ n ih =>
    intro a0 q0 a1 a2 μ h p e s m below meth c A ls H locs cx hr hlk hA hl hw
    have hx := cx.1
    have hb := cx.2.1
    rw [p_X3_begin_b22_s] at h
    refine lv_iload_n hx hb dX3_begin_22 rfl (lv_at hl 2 rfl) ?_
    refine lv_bipush (v := 6) hx hb dX3_begin_23 (by decide) ?_
    refine lv_icmp_ge (tgt := 49) hx hb dX3_begin_25 (by decide) (fun c4 => ?_) (fun c4 => ?_)
    · rw [if_pos c4] at h
      refine lv_aload_n hx hb dX3_begin_49 rfl (lv_at hl 0 rfl) ?_
      refine g_get cx hw inX3 (ci := 2) rfl 3 (by decide) rfl (v := .ref (ad (a0 + 1))) q0 rfl fl_X3_11 dX3_begin_50 ?_
      refine lv_aload_n hx hb dX3_begin_53 rfl (lv_at hl 0 rfl) ?_
      refine g_get cx hw inX3 (ci := 2) rfl 0 (by decide) rfl (v := .int (μ.1 a0 0)) q0 rfl fl_X3_30 dX3_begin_54 ?_
      refine lv_bipush (v := 6) hx hb dX3_begin_57 (by decide) ?_
      refine lv_imul hx hb dX3_begin_59 ?_
      refine lv_iload_n hx hb dX3_begin_60 rfl (lv_at hl 1 rfl) ?_
      refine lv_bipush (v := 6) hx hb dX3_begin_61 (by decide) ?_
      refine lv_idiv hx hb dX3_begin_63 (by decide) ?_
      refine lv_iconst (v := 1) hx hb dX3_begin_64 (by decide) ?_
      refine lv_iadd hx hb dX3_begin_65 ?_
      refine g_iast cx hw (rl_X3_3 q0) h dX3_begin_66 (fun μ5 H locs h hw => ?_)
      refine lv_aload_n hx hb dX3_begin_67 rfl (lv_at hl 0 rfl) ?_
      refine g_get cx hw inX3 (ci := 2) rfl 3 (by decide) rfl (v := .ref (ad (a0 + 1))) q0 rfl fl_X3_11 dX3_begin_68 ?_
      refine lv_aload_n hx hb dX3_begin_71 rfl (lv_at hl 0 rfl) ?_
      refine g_get cx hw inX3 (ci := 2) rfl 0 (by decide) rfl (v := .int (μ5.1 a0 0)) q0 rfl fl_X3_30 dX3_begin_72 ?_
      refine lv_bipush (v := 6) hx hb dX3_begin_75 (by decide) ?_
      refine lv_imul hx hb dX3_begin_77 ?_
      refine lv_iconst (v := 1) hx hb dX3_begin_78 (by decide) ?_
      refine lv_iadd hx hb dX3_begin_79 ?_
      refine lv_iload_n hx hb dX3_begin_80 rfl (lv_at hl 1 rfl) ?_
      refine lv_bipush (v := 6) hx hb dX3_begin_81 (by decide) ?_
      refine lv_irem hx hb dX3_begin_83 (by decide) ?_
      refine g_iast cx hw (rl_X3_3 q0) h dX3_begin_84 (fun μ6 H locs h hw => ?_)
      refine lv_aload_n hx hb dX3_begin_85 rfl (lv_at hl 0 rfl) ?_
      refine g_get cx hw inX3 (ci := 2) rfl 4 (by decide) rfl (v := .ref (ad (a0 + 2))) q0 rfl fl_X3_15 dX3_begin_86 ?_
      refine lv_aload_n hx hb dX3_begin_89 rfl (lv_at hl 0 rfl) ?_
      refine g_get cx hw inX3 (ci := 2) rfl 0 (by decide) rfl (v := .int (μ6.1 a0 0)) q0 rfl fl_X3_30 dX3_begin_90 ?_
      refine lv_aload_n hx hb dX3_begin_93 rfl (lv_at hl 0 rfl) ?_
      refine g_get cx hw inX3 (ci := 2) rfl 2 (by decide) rfl (v := .int (μ6.1 a0 2)) q0 rfl fl_X3_37 dX3_begin_94 ?_
      refine g_iast cx hw (rl_X3_4 q0) h dX3_begin_97 (fun μ7 H locs h hw => ?_)
      refine lv_aload_n hx hb dX3_begin_98 rfl (lv_at hl 0 rfl) ?_
      refine g_get cx hw inX3 (ci := 2) rfl 5 (by decide) rfl (v := .ref (ad (a0 + 3))) q0 rfl fl_X3_18 dX3_begin_99 ?_
      refine lv_iload_n hx hb dX3_begin_102 rfl (lv_at hl 1 rfl) ?_
      refine lv_aload_n hx hb dX3_begin_103 rfl (lv_at hl 0 rfl) ?_
      refine g_get cx hw inX3 (ci := 2) rfl 0 (by decide) rfl (v := .int (μ7.1 a0 0)) q0 rfl fl_X3_30 dX3_begin_104 ?_
      refine g_iast cx hw (rl_X3_5 q0) h dX3_begin_107 (fun μ8 H locs h hw => ?_)
      refine lv_aload_n hx hb dX3_begin_108 rfl (lv_at hl 0 rfl) ?_
      refine lv_dup hx hb dX3_begin_109 rfl ?_
      refine g_get cx hw inX3 (ci := 2) rfl 0 (by decide) rfl (v := .int (μ8.1 a0 0)) q0 rfl fl_X3_30 dX3_begin_110 ?_
      refine lv_iconst (v := 1) hx hb dX3_begin_113 (by decide) ?_
      refine lv_iadd hx hb dX3_begin_114 ?_
      refine g_put cx hw inX3 (ci := 2) rfl tyX3_ok nmX3 0 (by decide) rfl rfl rfl rfl q0 h fl_X3_30 dX3_begin_115 (fun μ9 H locs h hw => ?_)
      exact g_vret cx hr hlk hw h dX3_begin_118
    · rw [if_neg c4] at h
      refine lv_aload_n hx hb dX3_begin_28 rfl (lv_at hl 0 rfl) ?_
      refine g_get cx hw inX3 (ci := 2) rfl 3 (by decide) rfl (v := .ref (ad (a0 + 1))) q0 rfl fl_X3_11 dX3_begin_29 ?_
      refine lv_aload_n hx hb dX3_begin_32 rfl (lv_at hl 0 rfl) ?_
      refine g_get cx hw inX3 (ci := 2) rfl 0 (by decide) rfl (v := .int (μ.1 a0 0)) q0 rfl fl_X3_30 dX3_begin_33 ?_
      refine lv_bipush (v := 6) hx hb dX3_begin_36 (by decide) ?_
      refine lv_imul hx hb dX3_begin_38 ?_
      refine lv_iload_n hx hb dX3_begin_39 rfl (lv_at hl 2 rfl) ?_
      refine lv_iadd hx hb dX3_begin_40 ?_
      refine lv_iconst (v := 0) hx hb dX3_begin_41 (by decide) ?_
      refine g_iast cx hw (rl_X3_3 q0) h dX3_begin_42 (fun μ10 H locs h hw => ?_)
      obtain ⟨v11, ev11, h⟩ := bv_ex h
      refine lv_iinc (v := v11) (lv' := [(2, .int v11), (0, .ref (ad a0)), (1, .int a1)]) hx hb dX3_begin_43 hl (k := 2) rfl (by rw [ev11]; rfl) (by decide) rfl (fun ls hl => ?_)
      refine lv_goto (tgt := 22) hx hb dX3_begin_46 (by decide) ?_
      exact ih a0 q0 a1 v11 μ10 h p e s m below meth c A ls H locs cx hr hlk hA (lv_sub hl [1, 2, 0] rfl) hw
theorem p_X3_begin_ex : ∃ f : Nat → Int32 → Mem → Option Mem, ∀ (a0 : Nat) (a1 : Int32) (μ : Mem), f a0 a1 μ = (if a1 < (0 : Int32) then some μ else (if (72 : Int32) ≤ a1 then some μ else (if (μ.1 a0 0) < (72 : Int32) then p_X3_begin_b22  FUEL a0 a1 (0 : Int32) μ else some μ))) := ⟨fun (a0 : Nat) (a1 : Int32) (μ : Mem) => (if a1 < (0 : Int32) then some μ else (if (72 : Int32) ≤ a1 then some μ else (if (μ.1 a0 0) < (72 : Int32) then p_X3_begin_b22  FUEL a0 a1 (0 : Int32) μ else some μ))), fun _ _ _ => rfl⟩
noncomputable def p_X3_begin : Nat → Int32 → Mem → Option Mem := Classical.choose p_X3_begin_ex
theorem p_X3_begin_eq (a0 : Nat) (a1 : Int32) (μ : Mem) : p_X3_begin a0 a1 μ = (if a1 < (0 : Int32) then some μ else (if (72 : Int32) ≤ a1 then some μ else (if (μ.1 a0 0) < (72 : Int32) then p_X3_begin_b22  FUEL a0 a1 (0 : Int32) μ else some μ))) := Classical.choose_spec p_X3_begin_ex a0 a1 μ
set_option maxHeartbeats 4000000 in
set_option maxRecDepth 100000 in
theorem t_X3_begin (l : Launch) (G : Gt) (ad : Nat → Nat) (a0 : Nat) (q0 : sh 0 a0 = (0, 2)) (a1 : Int32) (μ : Mem) {μz : Mem} (h : p_X3_begin a0 a1 μ = some μz) : Mt l yX3_begin cX3_begin 3 none ({ frames := 0, cells := 0, slots := 0, locals := 0 } : Room) G [.ref (ad a0), .int a1] (wd 0 G ad μ) (eV 0 G ad μz) := by
  refine Bk.mt (by decide) rfl (Nat.le_of_ble_eq_true rfl) ?_
  intro p e s m below meth c A ls H locs cx hr hlk hA hl hw
  have hx := cx.1
  have hb := cx.2.1
  have hl : lv_has ls 3 [(0, .ref (ad a0)), (1, .int a1)] := hl
  rw [p_X3_begin_eq] at h
  refine lv_iload_n hx hb dX3_begin_0 rfl (lv_at hl 1 rfl) ?_
  refine lv_if_lt (tgt := 19) hx hb dX3_begin_1 (by decide) (fun c1 => ?_) (fun c1 => ?_)
  · rw [if_pos c1] at h
    exact g_vret cx hr hlk hw h dX3_begin_19
  · rw [if_neg c1] at h
    refine lv_iload_n hx hb dX3_begin_4 rfl (lv_at hl 1 rfl) ?_
    refine lv_bipush (v := 72) hx hb dX3_begin_5 (by decide) ?_
    refine lv_icmp_ge (tgt := 19) hx hb dX3_begin_7 (by decide) (fun c2 => ?_) (fun c2 => ?_)
    · rw [if_pos c2] at h
      exact g_vret cx hr hlk hw h dX3_begin_19
    · rw [if_neg c2] at h
      refine lv_aload_n hx hb dX3_begin_10 rfl (lv_at hl 0 rfl) ?_
      refine g_get cx hw inX3 (ci := 2) rfl 0 (by decide) rfl (v := .int (μ.1 a0 0)) q0 rfl fl_X3_30 dX3_begin_11 ?_
      refine lv_bipush (v := 72) hx hb dX3_begin_14 (by decide) ?_
      refine lv_icmp_lt (tgt := 20) hx hb dX3_begin_16 (by decide) (fun c3 => ?_) (fun c3 => ?_)
      · rw [if_pos c3] at h
        refine lv_iconst (v := 0) hx hb dX3_begin_20 (by decide) ?_
        refine lv_istore_n (lv' := [(2, .int 0), (0, .ref (ad a0)), (1, .int a1)]) hx hb dX3_begin_21 rfl hl (by decide) rfl (fun ls hl => ?_)
        exact t_X3_begin_b22 l G ad _  FUEL a0 q0 a1 (0 : Int32) μ h p e s m below meth c A ls H locs cx hr hlk hA (lv_sub hl [1, 2, 0] rfl) hw
      · rw [if_neg c3] at h
        exact g_vret cx hr hlk hw h dX3_begin_19

theorem p_X3_count_b35_ex : ∃ f : Nat → Int32 → Mem → Option (Int32 × Mem), ∀ (a0 : Nat) (a1 : Int32) (μ : Mem), f a0 a1 μ = bv ((((μ.1 a0 0) - (1 : Int32)) * (6 : Int32)) + a1) (fun v5 => gd (inb v5 432) (gd (inb v5 432) (bv (sF μ (a0 + 1) v5.toNatClampNeg ((μ.1 (a0 + 1) v5.toNatClampNeg) + (1 : Int32))) (fun μ6 => gd (inb ((((μ6.1 a0 0) - (1 : Int32)) * (6 : Int32)) + a1) 432) (some ((μ6.1 (a0 + 1) ((((μ6.1 a0 0) - (1 : Int32)) * (6 : Int32)) + a1).toNatClampNeg), μ6)))))) := ⟨fun (a0 : Nat) (a1 : Int32) (μ : Mem) => bv ((((μ.1 a0 0) - (1 : Int32)) * (6 : Int32)) + a1) (fun v5 => gd (inb v5 432) (gd (inb v5 432) (bv (sF μ (a0 + 1) v5.toNatClampNeg ((μ.1 (a0 + 1) v5.toNatClampNeg) + (1 : Int32))) (fun μ6 => gd (inb ((((μ6.1 a0 0) - (1 : Int32)) * (6 : Int32)) + a1) 432) (some ((μ6.1 (a0 + 1) ((((μ6.1 a0 0) - (1 : Int32)) * (6 : Int32)) + a1).toNatClampNeg), μ6)))))), fun _ _ _ => rfl⟩
noncomputable def p_X3_count_b35 : Nat → Int32 → Mem → Option (Int32 × Mem) := Classical.choose p_X3_count_b35_ex
theorem p_X3_count_b35_eq (a0 : Nat) (a1 : Int32) (μ : Mem) : p_X3_count_b35 a0 a1 μ = bv ((((μ.1 a0 0) - (1 : Int32)) * (6 : Int32)) + a1) (fun v5 => gd (inb v5 432) (gd (inb v5 432) (bv (sF μ (a0 + 1) v5.toNatClampNeg ((μ.1 (a0 + 1) v5.toNatClampNeg) + (1 : Int32))) (fun μ6 => gd (inb ((((μ6.1 a0 0) - (1 : Int32)) * (6 : Int32)) + a1) 432) (some ((μ6.1 (a0 + 1) ((((μ6.1 a0 0) - (1 : Int32)) * (6 : Int32)) + a1).toNatClampNeg), μ6)))))) := Classical.choose_spec p_X3_count_b35_ex a0 a1 μ
set_option maxHeartbeats 4000000 in
set_option maxRecDepth 100000 in
theorem t_X3_count_b35 (l : Launch) (G : Gt) (ad : Nat → Nat) (av : List Value) {r : Int32} {μz : Mem} (a0 : Nat) (q0 : sh 0 a0 = (0, 2)) (a1 : Int32) (μ : Mem) (h : p_X3_count_b35  a0 a1 μ = some (r, μz)) : Bk l cX3_count 2 RX3 (some .int) ({ frames := 0, cells := 0, slots := 0, locals := 0 } : Room) G av (eI 0 G ad r μz) (wd 0 G ad μ) 35 [(0, .ref (ad a0)), (1, .int a1)] [] := by
  intro p e s m below meth c A ls H locs cx hr hlk hA hl hw
  have hx := cx.1
  have hb := cx.2.1
  rw [p_X3_count_b35_eq] at h
  refine lv_aload_n hx hb dX3_count_35 rfl (lv_at hl 0 rfl) ?_
  refine g_get cx hw inX3 (ci := 2) rfl 3 (by decide) rfl (v := .ref (ad (a0 + 1))) q0 rfl fl_X3_11 dX3_count_36 ?_
  refine lv_aload_n hx hb dX3_count_39 rfl (lv_at hl 0 rfl) ?_
  refine g_get cx hw inX3 (ci := 2) rfl 0 (by decide) rfl (v := .int (μ.1 a0 0)) q0 rfl fl_X3_30 dX3_count_40 ?_
  refine lv_iconst (v := 1) hx hb dX3_count_43 (by decide) ?_
  refine lv_isub hx hb dX3_count_44 ?_
  refine lv_bipush (v := 6) hx hb dX3_count_45 (by decide) ?_
  refine lv_imul hx hb dX3_count_47 ?_
  refine lv_iload_n hx hb dX3_count_48 rfl (lv_at hl 1 rfl) ?_
  refine lv_iadd hx hb dX3_count_49 ?_
  obtain ⟨v5, ev5, h⟩ := bv_ex h
  refine lv_topi (fun y9 z9 => ?_)
  obtain rfl : v5 = y9 := ev5.trans z9.symm
  refine lv_dup2_11 hx hb dX3_count_50 rfl rfl ?_
  refine g_iald cx hw (rl_X3_3 q0) h dX3_count_51 (fun h => ?_)
  refine lv_iconst (v := 1) hx hb dX3_count_52 (by decide) ?_
  refine lv_iadd hx hb dX3_count_53 ?_
  refine g_iast cx hw (rl_X3_3 q0) h dX3_count_54 (fun μ6 H locs h hw => ?_)
  refine lv_aload_n hx hb dX3_count_55 rfl (lv_at hl 0 rfl) ?_
  refine g_get cx hw inX3 (ci := 2) rfl 3 (by decide) rfl (v := .ref (ad (a0 + 1))) q0 rfl fl_X3_11 dX3_count_56 ?_
  refine lv_aload_n hx hb dX3_count_59 rfl (lv_at hl 0 rfl) ?_
  refine g_get cx hw inX3 (ci := 2) rfl 0 (by decide) rfl (v := .int (μ6.1 a0 0)) q0 rfl fl_X3_30 dX3_count_60 ?_
  refine lv_iconst (v := 1) hx hb dX3_count_63 (by decide) ?_
  refine lv_isub hx hb dX3_count_64 ?_
  refine lv_bipush (v := 6) hx hb dX3_count_65 (by decide) ?_
  refine lv_imul hx hb dX3_count_67 ?_
  refine lv_iload_n hx hb dX3_count_68 rfl (lv_at hl 1 rfl) ?_
  refine lv_iadd hx hb dX3_count_69 ?_
  refine g_iald cx hw (rl_X3_3 q0) h dX3_count_70 (fun h => ?_)
  exact g_iret cx hr hlk hw h dX3_count_71
theorem p_X3_count_ex : ∃ f : Nat → Int32 → Mem → Option (Int32 × Mem), ∀ (a0 : Nat) (a1 : Int32) (μ : Mem), f a0 a1 μ = (if (μ.1 a0 0) < (1 : Int32) then some ((0 : Int32), μ) else (if a1 < (0 : Int32) then some ((0 : Int32), μ) else (if a1 < (6 : Int32) then (if a1 = (2 : Int32) then bv (sF μ a0 1 ((μ.1 a0 1) + (1 : Int32))) (fun μ7 => p_X3_count_b35  a0 a1 μ7) else p_X3_count_b35  a0 a1 μ) else some ((0 : Int32), μ)))) := ⟨fun (a0 : Nat) (a1 : Int32) (μ : Mem) => (if (μ.1 a0 0) < (1 : Int32) then some ((0 : Int32), μ) else (if a1 < (0 : Int32) then some ((0 : Int32), μ) else (if a1 < (6 : Int32) then (if a1 = (2 : Int32) then bv (sF μ a0 1 ((μ.1 a0 1) + (1 : Int32))) (fun μ7 => p_X3_count_b35  a0 a1 μ7) else p_X3_count_b35  a0 a1 μ) else some ((0 : Int32), μ)))), fun _ _ _ => rfl⟩
noncomputable def p_X3_count : Nat → Int32 → Mem → Option (Int32 × Mem) := Classical.choose p_X3_count_ex
theorem p_X3_count_eq (a0 : Nat) (a1 : Int32) (μ : Mem) : p_X3_count a0 a1 μ = (if (μ.1 a0 0) < (1 : Int32) then some ((0 : Int32), μ) else (if a1 < (0 : Int32) then some ((0 : Int32), μ) else (if a1 < (6 : Int32) then (if a1 = (2 : Int32) then bv (sF μ a0 1 ((μ.1 a0 1) + (1 : Int32))) (fun μ7 => p_X3_count_b35  a0 a1 μ7) else p_X3_count_b35  a0 a1 μ) else some ((0 : Int32), μ)))) := Classical.choose_spec p_X3_count_ex a0 a1 μ
set_option maxHeartbeats 4000000 in
set_option maxRecDepth 100000 in
theorem t_X3_count (l : Launch) (G : Gt) (ad : Nat → Nat) (a0 : Nat) (q0 : sh 0 a0 = (0, 2)) (a1 : Int32) (μ : Mem) {r : Int32} {μz : Mem} (h : p_X3_count a0 a1 μ = some (r, μz)) : Mt l yX3_count cX3_count 2 (some .int) ({ frames := 0, cells := 0, slots := 0, locals := 0 } : Room) G [.ref (ad a0), .int a1] (wd 0 G ad μ) (eI 0 G ad r μz) := by
  refine Bk.mt (by decide) rfl (Nat.le_of_ble_eq_true rfl) ?_
  intro p e s m below meth c A ls H locs cx hr hlk hA hl hw
  have hx := cx.1
  have hb := cx.2.1
  have hl : lv_has ls 2 [(0, .ref (ad a0)), (1, .int a1)] := hl
  rw [p_X3_count_eq] at h
  refine lv_aload_n hx hb dX3_count_0 rfl (lv_at hl 0 rfl) ?_
  refine g_get cx hw inX3 (ci := 2) rfl 0 (by decide) rfl (v := .int (μ.1 a0 0)) q0 rfl fl_X3_30 dX3_count_1 ?_
  refine lv_iconst (v := 1) hx hb dX3_count_4 (by decide) ?_
  refine lv_icmp_lt (tgt := 18) hx hb dX3_count_5 (by decide) (fun c1 => ?_) (fun c1 => ?_)
  · rw [if_pos c1] at h
    refine lv_iconst (v := 0) hx hb dX3_count_18 (by decide) ?_
    exact g_iret cx hr hlk hw h dX3_count_19
  · rw [if_neg c1] at h
    refine lv_iload_n hx hb dX3_count_8 rfl (lv_at hl 1 rfl) ?_
    refine lv_if_lt (tgt := 18) hx hb dX3_count_9 (by decide) (fun c2 => ?_) (fun c2 => ?_)
    · rw [if_pos c2] at h
      refine lv_iconst (v := 0) hx hb dX3_count_18 (by decide) ?_
      exact g_iret cx hr hlk hw h dX3_count_19
    · rw [if_neg c2] at h
      refine lv_iload_n hx hb dX3_count_12 rfl (lv_at hl 1 rfl) ?_
      refine lv_bipush (v := 6) hx hb dX3_count_13 (by decide) ?_
      refine lv_icmp_lt (tgt := 20) hx hb dX3_count_15 (by decide) (fun c3 => ?_) (fun c3 => ?_)
      · rw [if_pos c3] at h
        refine lv_iload_n hx hb dX3_count_20 rfl (lv_at hl 1 rfl) ?_
        refine lv_iconst (v := 2) hx hb dX3_count_21 (by decide) ?_
        refine lv_icmp_ne (tgt := 35) hx hb dX3_count_22 (by decide) (fun c4 => ?_) (fun c4 => ?_)
        · rw [if_neg c4] at h
          exact t_X3_count_b35 l G ad _  a0 q0 a1 μ h p e s m below meth c A ls H locs cx hr hlk hA (lv_sub hl [0, 1] rfl) hw
        · rw [if_pos c4] at h
          refine lv_aload_n hx hb dX3_count_25 rfl (lv_at hl 0 rfl) ?_
          refine lv_dup hx hb dX3_count_26 rfl ?_
          refine g_get cx hw inX3 (ci := 2) rfl 1 (by decide) rfl (v := .int (μ.1 a0 1)) q0 rfl fl_X3_34 dX3_count_27 ?_
          refine lv_iconst (v := 1) hx hb dX3_count_30 (by decide) ?_
          refine lv_iadd hx hb dX3_count_31 ?_
          refine g_put cx hw inX3 (ci := 2) rfl tyX3_ok nmX3 1 (by decide) rfl rfl rfl rfl q0 h fl_X3_34 dX3_count_32 (fun μ7 H locs h hw => ?_)
          exact t_X3_count_b35 l G ad _  a0 q0 a1 μ7 h p e s m below meth c A ls H locs cx hr hlk hA (lv_sub hl [0, 1] rfl) hw
      · rw [if_neg c3] at h
        refine lv_iconst (v := 0) hx hb dX3_count_18 (by decide) ?_
        exact g_iret cx hr hlk hw h dX3_count_19

theorem s_X4_isDigit_ex : ∃ f : Int32 → Int32, ∀ (a0 : Int32), f a0 = (if a0 < (48 : Int32) then (0 : Int32) else (if (57 : Int32) < a0 then (0 : Int32) else (1 : Int32))) := ⟨fun (a0 : Int32) => (if a0 < (48 : Int32) then (0 : Int32) else (if (57 : Int32) < a0 then (0 : Int32) else (1 : Int32))), fun _ => rfl⟩
noncomputable def s_X4_isDigit : Int32 → Int32 := Classical.choose s_X4_isDigit_ex
theorem s_X4_isDigit_eq (a0 : Int32) : s_X4_isDigit a0 = (if a0 < (48 : Int32) then (0 : Int32) else (if (57 : Int32) < a0 then (0 : Int32) else (1 : Int32))) := Classical.choose_spec s_X4_isDigit_ex a0
set_option maxHeartbeats 4000000 in
set_option maxRecDepth 100000 in
theorem t_X4_isDigit (l : Launch) (G : Gt) (a0 : Int32) : Mt l yX4_isDigit cX4_isDigit 1 (some .boolean) ({ frames := 0, cells := 0, slots := 0, locals := 0 } : Room) G [.int a0] [] (sI G (s_X4_isDigit a0)) := by
  obtain ⟨r, h⟩ : ∃ r, s_X4_isDigit a0 = r := ⟨_, rfl⟩
  rw [h]
  refine Bk.mt (by decide) rfl (Nat.le_of_ble_eq_true rfl) ?_
  intro p e s m below meth c A ls H locs cx hr hlk hA hl hw
  have hx := cx.1
  have hb := cx.2.1
  have hl : lv_has ls 1 [(0, .int a0)] := hl
  rw [s_X4_isDigit_eq] at h
  refine lv_iload_n hx hb dX4_isDigit_0 rfl (lv_at hl 0 rfl) ?_
  refine lv_bipush (v := 48) hx hb dX4_isDigit_1 (by decide) ?_
  refine lv_icmp_lt (tgt := 16) hx hb dX4_isDigit_3 (by decide) (fun c1 => ?_) (fun c1 => ?_)
  · rw [if_pos c1] at h
    refine lv_iconst (v := 0) hx hb dX4_isDigit_16 (by decide) ?_
    exact s_zret cx hr hlk rfl hw h dX4_isDigit_17
  · rw [if_neg c1] at h
    refine lv_iload_n hx hb dX4_isDigit_6 rfl (lv_at hl 0 rfl) ?_
    refine lv_bipush (v := 57) hx hb dX4_isDigit_7 (by decide) ?_
    refine lv_icmp_gt (tgt := 16) hx hb dX4_isDigit_9 (by decide) (fun c2 => ?_) (fun c2 => ?_)
    · rw [if_pos c2] at h
      refine lv_iconst (v := 0) hx hb dX4_isDigit_16 (by decide) ?_
      exact s_zret cx hr hlk rfl hw h dX4_isDigit_17
    · rw [if_neg c2] at h
      refine lv_iconst (v := 1) hx hb dX4_isDigit_12 (by decide) ?_
      refine lv_goto (tgt := 17) hx hb dX4_isDigit_13 (by decide) ?_
      exact s_zret cx hr hlk rfl hw h dX4_isDigit_17

theorem s_X4_isNumber_ex : ∃ f : Int32 → Int32, ∀ (a0 : Int32), f a0 = (if a0 = (45 : Int32) then (1 : Int32) else (if (s_X4_isDigit a0) = (0 : Int32) then (0 : Int32) else (1 : Int32))) := ⟨fun (a0 : Int32) => (if a0 = (45 : Int32) then (1 : Int32) else (if (s_X4_isDigit a0) = (0 : Int32) then (0 : Int32) else (1 : Int32))), fun _ => rfl⟩
noncomputable def s_X4_isNumber : Int32 → Int32 := Classical.choose s_X4_isNumber_ex
theorem s_X4_isNumber_eq (a0 : Int32) : s_X4_isNumber a0 = (if a0 = (45 : Int32) then (1 : Int32) else (if (s_X4_isDigit a0) = (0 : Int32) then (0 : Int32) else (1 : Int32))) := Classical.choose_spec s_X4_isNumber_ex a0
set_option maxHeartbeats 4000000 in
set_option maxRecDepth 100000 in
theorem t_X4_isNumber (l : Launch) (G : Gt) (a0 : Int32) : Mt l yX4_isNumber cX4_isNumber 1 (some .boolean) ({ frames := 1, cells := 0, slots := 0, locals := 20 } : Room) G [.int a0] [] (sI G (s_X4_isNumber a0)) := by
  obtain ⟨r, h⟩ : ∃ r, s_X4_isNumber a0 = r := ⟨_, rfl⟩
  rw [h]
  refine Bk.mt (by decide) rfl (Nat.le_of_ble_eq_true rfl) ?_
  intro p e s m below meth c A ls H locs cx hr hlk hA hl hw
  have hx := cx.1
  have hb := cx.2.1
  have hl : lv_has ls 1 [(0, .int a0)] := hl
  rw [s_X4_isNumber_eq] at h
  refine lv_iload_n hx hb dX4_isNumber_0 rfl (lv_at hl 0 rfl) ?_
  refine lv_bipush (v := 45) hx hb dX4_isNumber_1 (by decide) ?_
  refine lv_icmp_eq (tgt := 13) hx hb dX4_isNumber_3 (by decide) (fun c1 => ?_) (fun c1 => ?_)
  · rw [if_pos c1] at h
    refine lv_iconst (v := 1) hx hb dX4_isNumber_13 (by decide) ?_
    refine lv_goto (tgt := 18) hx hb dX4_isNumber_14 (by decide) ?_
    exact s_zret cx hr hlk rfl hw h dX4_isNumber_18
  · rw [if_neg c1] at h
    refine lv_iload_n hx hb dX4_isNumber_6 rfl (lv_at hl 0 rfl) ?_
    refine s_callI (As := [.int a0]) (rest := []) cx hw hA (t_X4_isDigit l G a0) ml_X4_55 st_X4_isDigit in_X4 co_X4_isDigit hd_X4_isDigit rfl ⟨(Nat.le_of_ble_eq_true rfl), (Nat.le_of_ble_eq_true rfl)⟩ hl.1 rfl (Nat.le_of_ble_eq_true rfl) dX4_isNumber_7 rfl (fun H locs hw => ?_)
    refine lv_if_eq (tgt := 17) hx hb dX4_isNumber_10 (by decide) (fun c2 => ?_) (fun c2 => ?_)
    · rw [if_pos c2] at h
      refine lv_iconst (v := 0) hx hb dX4_isNumber_17 (by decide) ?_
      exact s_zret cx hr hlk rfl hw h dX4_isNumber_18
    · rw [if_neg c2] at h
      refine lv_iconst (v := 1) hx hb dX4_isNumber_13 (by decide) ?_
      refine lv_goto (tgt := 18) hx hb dX4_isNumber_14 (by decide) ?_
      exact s_zret cx hr hlk rfl hw h dX4_isNumber_18

theorem p_X4_readDigits_b50_ex : ∃ f : Int32 → Int32 → Mem → Option (Int32 × Mem), ∀ (a3 : Int32) (a4 : Int32) (μ : Mem), f a3 a4 μ = (if a4 = (0 : Int32) then bw (p_X4_fail (μ.1 16 2) μ) (fun μ3 => some (a3, μ3)) else some (a3, μ)) := ⟨fun (a3 : Int32) (a4 : Int32) (μ : Mem) => (if a4 = (0 : Int32) then bw (p_X4_fail (μ.1 16 2) μ) (fun μ3 => some (a3, μ3)) else some (a3, μ)), fun _ _ _ => rfl⟩
noncomputable def p_X4_readDigits_b50 : Int32 → Int32 → Mem → Option (Int32 × Mem) := Classical.choose p_X4_readDigits_b50_ex
theorem p_X4_readDigits_b50_eq (a3 : Int32) (a4 : Int32) (μ : Mem) : p_X4_readDigits_b50 a3 a4 μ = (if a4 = (0 : Int32) then bw (p_X4_fail (μ.1 16 2) μ) (fun μ3 => some (a3, μ3)) else some (a3, μ)) := Classical.choose_spec p_X4_readDigits_b50_ex a3 a4 μ
set_option maxHeartbeats 4000000 in
set_option maxRecDepth 100000 in
theorem t_X4_readDigits_b50 (l : Launch) (G : Gt) (ad : Nat → Nat) (av : List Value) {r : Int32} {μz : Mem} (a3 : Int32) (a4 : Int32) (μ : Mem) (h : p_X4_readDigits_b50  a3 a4 μ = some (r, μz)) : Bk l cX4_readDigits 5 RX4 (some .int) ({ frames := 1, cells := 0, slots := 0, locals := 21 } : Room) G av (eI 0 G ad r μz) (wd 0 G ad μ) 50 [(0, .ref (ad 16)), (3, .int a3), (4, .int a4)] [] := by
  intro p e s m below meth c A ls H locs cx hr hlk hA hl hw
  have hx := cx.1
  have hb := cx.2.1
  rw [p_X4_readDigits_b50_eq] at h
  refine lv_iload hx hb dX4_readDigits_50 (lv_at hl 2 rfl) ?_
  refine lv_if_ne (tgt := 63) hx hb dX4_readDigits_52 (by decide) (fun c2 => ?_) (fun c2 => ?_)
  · rw [if_neg c2] at h
    refine lv_iload_n hx hb dX4_readDigits_63 rfl (lv_at hl 1 rfl) ?_
    exact g_iret cx hr hlk hw h dX4_readDigits_64
  · rw [if_pos c2] at h
    refine lv_aload_n hx hb dX4_readDigits_55 rfl (lv_at hl 0 rfl) ?_
    refine lv_aload_n hx hb dX4_readDigits_56 rfl (lv_at hl 0 rfl) ?_
    refine g_get cx hw inX4 (ci := 3) rfl 2 (by decide) rfl (v := .int (μ.1 16 2)) shx_16 rfl fl_X4_19 dX4_readDigits_57 ?_
    obtain ⟨μ3, gμ3, h⟩ := bw_some h
    refine g_callVV (As := [.int (μ.1 16 2)]) (rest := []) cx hw hA (t_X4_fail l G ad (μ.1 16 2) μ gμ3) shx_16 rfl ml_X4_51 im_X4_fail se_X4_fail in_X4 co_X4_fail rfl hd_X4_fail rfl ⟨(Nat.le_of_ble_eq_true rfl), (Nat.le_of_ble_eq_true rfl)⟩ hl.1 rfl (Nat.le_of_ble_eq_true rfl) dX4_readDigits_60 ⟨rfl, rfl⟩ (fun H locs hw => ?_)
    refine lv_iload_n hx hb dX4_readDigits_63 rfl (lv_at hl 1 rfl) ?_
    exact g_iret cx hr hlk hw h dX4_readDigits_64
theorem p_X4_readDigits_b5_ex : ∃ f : Nat → Int32 → Int32 → Int32 → Mem → Option (Int32 × Mem), (∀ (a2 : Int32) (a3 : Int32) (a4 : Int32) (μ : Mem), f  0 a2 a3 a4 μ = none) ∧ (∀ (n : Nat) (a2 : Int32) (a3 : Int32) (a4 : Int32) (μ : Mem), f  (n + 1) a2 a3 a4 μ = (if a2 ≤ a4 then p_X4_readDigits_b50  a3 a4 μ else bd (p_X4_here μ) (fun r6 μ5 => (if (s_X4_isDigit r6) = (0 : Int32) then p_X4_readDigits_b50  a3 a4 μ5 else bd (p_X4_here μ5) (fun r9 μ8 => bv (((a3 * (10 : Int32)) + r9) - (48 : Int32)) (fun v10 => bv (sF μ8 16 2 ((μ8.1 16 2) + (1 : Int32))) (fun μ11 => bv (a4 + 1) (fun v12 => f n a2 v10 v12 μ11)))))))) := ⟨fun n => Nat.rec (fun (a2 : Int32) (a3 : Int32) (a4 : Int32) (μ : Mem) => none) (fun _ ih => fun (a2 : Int32) (a3 : Int32) (a4 : Int32) (μ : Mem) => (if a2 ≤ a4 then p_X4_readDigits_b50  a3 a4 μ else bd (p_X4_here μ) (fun r6 μ5 => (if (s_X4_isDigit r6) = (0 : Int32) then p_X4_readDigits_b50  a3 a4 μ5 else bd (p_X4_here μ5) (fun r9 μ8 => bv (((a3 * (10 : Int32)) + r9) - (48 : Int32)) (fun v10 => bv (sF μ8 16 2 ((μ8.1 16 2) + (1 : Int32))) (fun μ11 => bv (a4 + 1) (fun v12 => ih a2 v10 v12 μ11)))))))) n, fun  _ _ _ _ => rfl, fun  _ _ _ _ _ => rfl⟩
noncomputable def p_X4_readDigits_b5 : Nat → Int32 → Int32 → Int32 → Mem → Option (Int32 × Mem) := Classical.choose p_X4_readDigits_b5_ex
theorem p_X4_readDigits_b5_z (a2 : Int32) (a3 : Int32) (a4 : Int32) (μ : Mem) : p_X4_readDigits_b5  0 a2 a3 a4 μ = none := (Classical.choose_spec p_X4_readDigits_b5_ex).1  a2 a3 a4 μ
theorem p_X4_readDigits_b5_s (n : Nat) (a2 : Int32) (a3 : Int32) (a4 : Int32) (μ : Mem) : p_X4_readDigits_b5  (n + 1) a2 a3 a4 μ = (if a2 ≤ a4 then p_X4_readDigits_b50  a3 a4 μ else bd (p_X4_here μ) (fun r6 μ5 => (if (s_X4_isDigit r6) = (0 : Int32) then p_X4_readDigits_b50  a3 a4 μ5 else bd (p_X4_here μ5) (fun r9 μ8 => bv (((a3 * (10 : Int32)) + r9) - (48 : Int32)) (fun v10 => bv (sF μ8 16 2 ((μ8.1 16 2) + (1 : Int32))) (fun μ11 => bv (a4 + 1) (fun v12 => p_X4_readDigits_b5  n a2 v10 v12 μ11))))))) := (Classical.choose_spec p_X4_readDigits_b5_ex).2  n a2 a3 a4 μ
set_option maxHeartbeats 4000000 in
set_option maxRecDepth 100000 in
theorem t_X4_readDigits_b5 (l : Launch) (G : Gt) (ad : Nat → Nat) (av : List Value) {r : Int32} {μz : Mem} : ∀ (n : Nat) (a2 : Int32) (a3 : Int32) (a4 : Int32) (μ : Mem), p_X4_readDigits_b5  n a2 a3 a4 μ = some (r, μz) → Bk l cX4_readDigits 5 RX4 (some .int) ({ frames := 1, cells := 0, slots := 0, locals := 21 } : Room) G av (eI 0 G ad r μz) (wd 0 G ad μ) 5 [(0, .ref (ad 16)), (2, .int a2), (3, .int a3), (4, .int a4)] [] := by
  intro n
  induction n with
  | zero => intro a2 a3 a4 μ h; rw [p_X4_readDigits_b5_z] at h; cases h
  | succ n ih =>
    intro a2 a3 a4 μ h p e s m below meth c A ls H locs cx hr hlk hA hl hw
    have hx := cx.1
    have hb := cx.2.1
    rw [p_X4_readDigits_b5_s] at h
    refine lv_iload hx hb dX4_readDigits_5 (lv_at hl 3 rfl) ?_
    refine lv_iload_n hx hb dX4_readDigits_7 rfl (lv_at hl 1 rfl) ?_
    refine lv_icmp_ge (tgt := 50) hx hb dX4_readDigits_8 (by decide) (fun c1 => ?_) (fun c1 => ?_)
    · rw [if_pos c1] at h
      exact t_X4_readDigits_b50 l G ad av  a3 a4 μ h p e s m below meth c A ls H locs cx hr hlk hA (lv_sub hl [0, 2, 3] rfl) hw
    · rw [if_neg c1] at h
      refine lv_aload_n hx hb dX4_readDigits_11 rfl (lv_at hl 0 rfl) ?_
      obtain ⟨r6, μ5, gr6, h⟩ := bd_some h
      refine g_callVI (As := []) (rest := []) cx hw hA (t_X4_here l G ad μ gr6) shx_16 rfl ml_X4_47 im_X4_here se_X4_here in_X4 co_X4_here rfl hd_X4_here rfl ⟨(Nat.le_of_ble_eq_true rfl), (Nat.le_of_ble_eq_true rfl)⟩ hl.1 rfl (Nat.le_of_ble_eq_true rfl) dX4_readDigits_12 ⟨rfl, rfl⟩ (fun H locs hw => ?_)
      refine s_callI (As := [.int r6]) (rest := []) cx hw hA (t_X4_isDigit l G r6) ml_X4_55 st_X4_isDigit in_X4 co_X4_isDigit hd_X4_isDigit rfl ⟨(Nat.le_of_ble_eq_true rfl), (Nat.le_of_ble_eq_true rfl)⟩ hl.1 rfl (Nat.le_of_ble_eq_true rfl) dX4_readDigits_15 rfl (fun H locs hw => ?_)
      refine lv_if_eq (tgt := 50) hx hb dX4_readDigits_18 (by decide) (fun c7 => ?_) (fun c7 => ?_)
      · rw [if_pos c7] at h
        exact t_X4_readDigits_b50 l G ad av  a3 a4 μ5 h p e s m below meth c A ls H locs cx hr hlk hA (lv_sub hl [0, 2, 3] rfl) hw
      · rw [if_neg c7] at h
        refine lv_iload_n hx hb dX4_readDigits_21 rfl (lv_at hl 2 rfl) ?_
        refine lv_bipush (v := 10) hx hb dX4_readDigits_22 (by decide) ?_
        refine lv_imul hx hb dX4_readDigits_24 ?_
        refine lv_aload_n hx hb dX4_readDigits_25 rfl (lv_at hl 0 rfl) ?_
        obtain ⟨r9, μ8, gr9, h⟩ := bd_some h
        refine g_callVI (As := []) (rest := [.int (a3 * (10 : Int32))]) cx hw hA (t_X4_here l G ad μ5 gr9) shx_16 rfl ml_X4_47 im_X4_here se_X4_here in_X4 co_X4_here rfl hd_X4_here rfl ⟨(Nat.le_of_ble_eq_true rfl), (Nat.le_of_ble_eq_true rfl)⟩ hl.1 rfl (Nat.le_of_ble_eq_true rfl) dX4_readDigits_26 ⟨rfl, rfl⟩ (fun H locs hw => ?_)
        refine lv_iadd hx hb dX4_readDigits_29 ?_
        refine lv_bipush (v := 48) hx hb dX4_readDigits_30 (by decide) ?_
        refine lv_isub hx hb dX4_readDigits_32 ?_
        obtain ⟨v10, ev10, h⟩ := bv_ex h
        refine lv_topi (fun y9 z9 => ?_)
        obtain rfl : v10 = y9 := ev10.trans z9.symm
        refine lv_istore_n (lv' := [(3, .int v10), (0, .ref (ad 16)), (2, .int a2), (4, .int a4)]) hx hb dX4_readDigits_33 rfl hl (by decide) rfl (fun ls hl => ?_)
        refine lv_aload_n hx hb dX4_readDigits_34 rfl (lv_at hl 1 rfl) ?_
        refine lv_dup hx hb dX4_readDigits_35 rfl ?_
        refine g_get cx hw inX4 (ci := 3) rfl 2 (by decide) rfl (v := .int (μ8.1 16 2)) shx_16 rfl fl_X4_19 dX4_readDigits_36 ?_
        refine lv_iconst (v := 1) hx hb dX4_readDigits_39 (by decide) ?_
        refine lv_iadd hx hb dX4_readDigits_40 ?_
        refine g_put cx hw inX4 (ci := 3) rfl tyX4_ok nmX4 2 (by decide) rfl rfl rfl rfl shx_16 h fl_X4_19 dX4_readDigits_41 (fun μ11 H locs h hw => ?_)
        obtain ⟨v12, ev12, h⟩ := bv_ex h
        refine lv_iinc (v := v12) (lv' := [(4, .int v12), (3, .int v10), (0, .ref (ad 16)), (2, .int a2)]) hx hb dX4_readDigits_44 hl (k := 3) rfl (by rw [ev12]; rfl) (by decide) rfl (fun ls hl => ?_)
        refine lv_goto (tgt := 5) hx hb dX4_readDigits_47 (by decide) ?_
        exact ih a2 v10 v12 μ11 h p e s m below meth c A ls H locs cx hr hlk hA (lv_sub hl [2, 3, 1, 0] rfl) hw
theorem p_X4_readDigits_ex : ∃ f : Int32 → Int32 → Mem → Option (Int32 × Mem), ∀ (a1 : Int32) (a2 : Int32) (μ : Mem), f a1 a2 μ = p_X4_readDigits_b5  FUEL a2 a1 (0 : Int32) μ := ⟨fun (a1 : Int32) (a2 : Int32) (μ : Mem) => p_X4_readDigits_b5  FUEL a2 a1 (0 : Int32) μ, fun _ _ _ => rfl⟩
noncomputable def p_X4_readDigits : Int32 → Int32 → Mem → Option (Int32 × Mem) := Classical.choose p_X4_readDigits_ex
theorem p_X4_readDigits_eq (a1 : Int32) (a2 : Int32) (μ : Mem) : p_X4_readDigits a1 a2 μ = p_X4_readDigits_b5  FUEL a2 a1 (0 : Int32) μ := Classical.choose_spec p_X4_readDigits_ex a1 a2 μ
set_option maxHeartbeats 4000000 in
set_option maxRecDepth 100000 in
theorem t_X4_readDigits (l : Launch) (G : Gt) (ad : Nat → Nat) (a1 : Int32) (a2 : Int32) (μ : Mem) {r : Int32} {μz : Mem} (h : p_X4_readDigits a1 a2 μ = some (r, μz)) : Mt l yX4_readDigits cX4_readDigits 5 (some .int) ({ frames := 1, cells := 0, slots := 0, locals := 21 } : Room) G [.ref (ad 16), .int a1, .int a2] (wd 0 G ad μ) (eI 0 G ad r μz) := by
  refine Bk.mt (by decide) rfl (Nat.le_of_ble_eq_true rfl) ?_
  intro p e s m below meth c A ls H locs cx hr hlk hA hl hw
  have hx := cx.1
  have hb := cx.2.1
  have hl : lv_has ls 5 [(0, .ref (ad 16)), (1, .int a1), (2, .int a2)] := hl
  rw [p_X4_readDigits_eq] at h
  refine lv_iload_n hx hb dX4_readDigits_0 rfl (lv_at hl 1 rfl) ?_
  refine lv_istore_n (lv' := [(3, .int a1), (0, .ref (ad 16)), (1, .int a1), (2, .int a2)]) hx hb dX4_readDigits_1 rfl hl (by decide) rfl (fun ls hl => ?_)
  refine lv_iconst (v := 0) hx hb dX4_readDigits_2 (by decide) ?_
  refine lv_istore (lv' := [(4, .int 0), (3, .int a1), (0, .ref (ad 16)), (1, .int a1), (2, .int a2)]) hx hb dX4_readDigits_3 hl (by decide) rfl (fun ls hl => ?_)
  exact t_X4_readDigits_b5 l G ad _  FUEL a2 a1 (0 : Int32) μ h p e s m below meth c A ls H locs cx hr hlk hA (lv_sub hl [2, 4, 1, 0] rfl) hw

theorem s_X0_make_ex : ∃ f : Int32 → Int32 → Int64, ∀ (a0 : Int32) (a1 : Int32), f a0 a1 = (((a0.toInt64) <<< ((32 : Int32).toInt64 &&& 63)) ||| ((a1.toInt64) &&& (4294967295 : Int64))) := ⟨fun (a0 : Int32) (a1 : Int32) => (((a0.toInt64) <<< ((32 : Int32).toInt64 &&& 63)) ||| ((a1.toInt64) &&& (4294967295 : Int64))), fun _ _ => rfl⟩
noncomputable def s_X0_make : Int32 → Int32 → Int64 := Classical.choose s_X0_make_ex
theorem s_X0_make_eq (a0 : Int32) (a1 : Int32) : s_X0_make a0 a1 = (((a0.toInt64) <<< ((32 : Int32).toInt64 &&& 63)) ||| ((a1.toInt64) &&& (4294967295 : Int64))) := Classical.choose_spec s_X0_make_ex a0 a1
set_option maxHeartbeats 4000000 in
set_option maxRecDepth 100000 in
theorem t_X0_make (l : Launch) (G : Gt) (a0 : Int32) (a1 : Int32) : Mt l yX0_make cX0_make 2 (some .long) ({ frames := 0, cells := 0, slots := 0, locals := 0 } : Room) G [.int a0, .int a1] [] (sJ G (s_X0_make a0 a1)) := by
  obtain ⟨r, h⟩ : ∃ r, s_X0_make a0 a1 = r := ⟨_, rfl⟩
  rw [h]
  refine Bk.mt (by decide) rfl (Nat.le_of_ble_eq_true rfl) ?_
  intro p e s m below meth c A ls H locs cx hr hlk hA hl hw
  have hx := cx.1
  have hb := cx.2.1
  have hl : lv_has ls 2 [(0, .int a0), (1, .int a1)] := hl
  rw [s_X0_make_eq] at h
  refine lv_iload_n hx hb dX0_make_0 rfl (lv_at hl 0 rfl) ?_
  refine lv_i2l hx hb dX0_make_1 rfl ?_
  refine lv_bipush (v := 32) hx hb dX0_make_2 (by decide) ?_
  refine lv_lshl hx hb dX0_make_4 rfl ?_
  refine lv_iload_n hx hb dX0_make_5 rfl (lv_at hl 1 rfl) ?_
  refine lv_i2l hx hb dX0_make_6 rfl ?_
  refine lv_ldc2 hx hb cx.2.2.2.1 (cx.2.2.2.2.1 _ cs_X0_7) dX0_make_7 ?_
  refine lv_land hx hb dX0_make_10 ?_
  refine lv_lor hx hb dX0_make_11 ?_
  exact s_lret cx hr hlk hw h dX0_make_12

theorem s_X0_bits_ex : ∃ f : Int64 → Int32, ∀ (a0 : Int64), f a0 = (a0.toInt32) := ⟨fun (a0 : Int64) => (a0.toInt32), fun _ => rfl⟩
noncomputable def s_X0_bits : Int64 → Int32 := Classical.choose s_X0_bits_ex
theorem s_X0_bits_eq (a0 : Int64) : s_X0_bits a0 = (a0.toInt32) := Classical.choose_spec s_X0_bits_ex a0
set_option maxHeartbeats 4000000 in
set_option maxRecDepth 100000 in
theorem t_X0_bits (l : Launch) (G : Gt) (a0 : Int64) : Mt l yX0_bits cX0_bits 2 (some .int) ({ frames := 0, cells := 0, slots := 0, locals := 0 } : Room) G [.long a0] [] (sI G (s_X0_bits a0)) := by
  obtain ⟨r, h⟩ : ∃ r, s_X0_bits a0 = r := ⟨_, rfl⟩
  rw [h]
  refine Bk.mt (by decide) rfl (Nat.le_of_ble_eq_true rfl) ?_
  intro p e s m below meth c A ls H locs cx hr hlk hA hl hw
  have hx := cx.1
  have hb := cx.2.1
  have hl : lv_has ls 2 [(0, .long a0)] := hl
  rw [s_X0_bits_eq] at h
  refine lv_lload_n hx hb dX0_bits_0 rfl (lv_at hl 0 rfl) ?_
  refine lv_l2i hx hb dX0_bits_1 rfl ?_
  exact s_iret cx hr hlk hw h dX0_bits_2

theorem s_X0_kind_ex : ∃ f : Int64 → Int32, ∀ (a0 : Int64), f a0 = (((a0.toUInt64 >>> ((32 : Int32).toInt64.toUInt64 &&& Int64.toUInt64 63)).toInt64).toInt32) := ⟨fun (a0 : Int64) => (((a0.toUInt64 >>> ((32 : Int32).toInt64.toUInt64 &&& Int64.toUInt64 63)).toInt64).toInt32), fun _ => rfl⟩
noncomputable def s_X0_kind : Int64 → Int32 := Classical.choose s_X0_kind_ex
theorem s_X0_kind_eq (a0 : Int64) : s_X0_kind a0 = (((a0.toUInt64 >>> ((32 : Int32).toInt64.toUInt64 &&& Int64.toUInt64 63)).toInt64).toInt32) := Classical.choose_spec s_X0_kind_ex a0
set_option maxHeartbeats 4000000 in
set_option maxRecDepth 100000 in
theorem t_X0_kind (l : Launch) (G : Gt) (a0 : Int64) : Mt l yX0_kind cX0_kind 2 (some .int) ({ frames := 0, cells := 0, slots := 0, locals := 0 } : Room) G [.long a0] [] (sI G (s_X0_kind a0)) := by
  obtain ⟨r, h⟩ : ∃ r, s_X0_kind a0 = r := ⟨_, rfl⟩
  rw [h]
  refine Bk.mt (by decide) rfl (Nat.le_of_ble_eq_true rfl) ?_
  intro p e s m below meth c A ls H locs cx hr hlk hA hl hw
  have hx := cx.1
  have hb := cx.2.1
  have hl : lv_has ls 2 [(0, .long a0)] := hl
  rw [s_X0_kind_eq] at h
  refine lv_lload_n hx hb dX0_kind_0 rfl (lv_at hl 0 rfl) ?_
  refine lv_bipush (v := 32) hx hb dX0_kind_1 (by decide) ?_
  refine lv_lushr hx hb dX0_kind_3 rfl ?_
  refine lv_l2i hx hb dX0_kind_4 rfl ?_
  exact s_iret cx hr hlk hw h dX0_kind_5

theorem s_X0_isNan_ex : ∃ f : Int32 → Int32, ∀ (a0 : Int32), f a0 = (if (a0 &&& (2147483647 : Int32)) ≤ (2139095040 : Int32) then (0 : Int32) else (1 : Int32)) := ⟨fun (a0 : Int32) => (if (a0 &&& (2147483647 : Int32)) ≤ (2139095040 : Int32) then (0 : Int32) else (1 : Int32)), fun _ => rfl⟩
noncomputable def s_X0_isNan : Int32 → Int32 := Classical.choose s_X0_isNan_ex
theorem s_X0_isNan_eq (a0 : Int32) : s_X0_isNan a0 = (if (a0 &&& (2147483647 : Int32)) ≤ (2139095040 : Int32) then (0 : Int32) else (1 : Int32)) := Classical.choose_spec s_X0_isNan_ex a0
set_option maxHeartbeats 4000000 in
set_option maxRecDepth 100000 in
theorem t_X0_isNan (l : Launch) (G : Gt) (a0 : Int32) : Mt l yX0_isNan cX0_isNan 1 (some .boolean) ({ frames := 0, cells := 0, slots := 0, locals := 0 } : Room) G [.int a0] [] (sI G (s_X0_isNan a0)) := by
  obtain ⟨r, h⟩ : ∃ r, s_X0_isNan a0 = r := ⟨_, rfl⟩
  rw [h]
  refine Bk.mt (by decide) rfl (Nat.le_of_ble_eq_true rfl) ?_
  intro p e s m below meth c A ls H locs cx hr hlk hA hl hw
  have hx := cx.1
  have hb := cx.2.1
  have hl : lv_has ls 1 [(0, .int a0)] := hl
  rw [s_X0_isNan_eq] at h
  refine lv_iload_n hx hb dX0_isNan_0 rfl (lv_at hl 0 rfl) ?_
  refine lv_ldc hx hb cx.2.2.2.1 (cx.2.2.2.2.1 _ cs_X0_58) dX0_isNan_1 ?_
  refine lv_iand hx hb dX0_isNan_3 ?_
  refine lv_ldc hx hb cx.2.2.2.1 (cx.2.2.2.2.1 _ cs_X0_71) dX0_isNan_4 ?_
  refine lv_icmp_le (tgt := 13) hx hb dX0_isNan_6 (by decide) (fun c1 => ?_) (fun c1 => ?_)
  · rw [if_pos c1] at h
    refine lv_iconst (v := 0) hx hb dX0_isNan_13 (by decide) ?_
    exact s_zret cx hr hlk rfl hw h dX0_isNan_14
  · rw [if_neg c1] at h
    refine lv_iconst (v := 1) hx hb dX0_isNan_9 (by decide) ?_
    refine lv_goto (tgt := 14) hx hb dX0_isNan_10 (by decide) ?_
    exact s_zret cx hr hlk rfl hw h dX0_isNan_14

theorem s_J6_numberOfLeadingZeros_0f7a4_b61_ex : ∃ f : Int32 → Int32 → Int32, ∀ (a0 : Int32) (a1 : Int32), f a0 a1 = (if a0 < (4 : Int32) then (a1 - ((a0.toUInt32 >>> ((1 : Int32).toUInt32 &&& Int32.toUInt32 31)).toInt32)) else bv (a1 + (-2)) (fun v6 => bv ((a0.toUInt32 >>> ((2 : Int32).toUInt32 &&& Int32.toUInt32 31)).toInt32) (fun v7 => (v6 - ((v7.toUInt32 >>> ((1 : Int32).toUInt32 &&& Int32.toUInt32 31)).toInt32))))) := ⟨fun (a0 : Int32) (a1 : Int32) => (if a0 < (4 : Int32) then (a1 - ((a0.toUInt32 >>> ((1 : Int32).toUInt32 &&& Int32.toUInt32 31)).toInt32)) else bv (a1 + (-2)) (fun v6 => bv ((a0.toUInt32 >>> ((2 : Int32).toUInt32 &&& Int32.toUInt32 31)).toInt32) (fun v7 => (v6 - ((v7.toUInt32 >>> ((1 : Int32).toUInt32 &&& Int32.toUInt32 31)).toInt32))))), fun _ _ => rfl⟩
noncomputable def s_J6_numberOfLeadingZeros_0f7a4_b61 : Int32 → Int32 → Int32 := Classical.choose s_J6_numberOfLeadingZeros_0f7a4_b61_ex
theorem s_J6_numberOfLeadingZeros_0f7a4_b61_eq (a0 : Int32) (a1 : Int32) : s_J6_numberOfLeadingZeros_0f7a4_b61 a0 a1 = (if a0 < (4 : Int32) then (a1 - ((a0.toUInt32 >>> ((1 : Int32).toUInt32 &&& Int32.toUInt32 31)).toInt32)) else bv (a1 + (-2)) (fun v6 => bv ((a0.toUInt32 >>> ((2 : Int32).toUInt32 &&& Int32.toUInt32 31)).toInt32) (fun v7 => (v6 - ((v7.toUInt32 >>> ((1 : Int32).toUInt32 &&& Int32.toUInt32 31)).toInt32))))) := Classical.choose_spec s_J6_numberOfLeadingZeros_0f7a4_b61_ex a0 a1
set_option maxHeartbeats 4000000 in
set_option maxRecDepth 100000 in
theorem t_J6_numberOfLeadingZeros_0f7a4_b61 (l : Launch) (G : Gt) (av : List Value) {r : Int32} (a0 : Int32) (a1 : Int32) (h : s_J6_numberOfLeadingZeros_0f7a4_b61  a0 a1 = r) : Bk l cJ6_numberOfLeadingZeros_0f7a4 2 RJ6 (some .int) ({ frames := 0, cells := 0, slots := 0, locals := 0 } : Room) G av (sI G r) [] 61 [(0, .int a0), (1, .int a1)] [] := by
  intro p e s m below meth c A ls H locs cx hr hlk hA hl hw
  have hx := cx.1
  have hb := cx.2.1
  rw [s_J6_numberOfLeadingZeros_0f7a4_b61_eq] at h
  refine lv_iload_n hx hb dJ6_numberOfLeadingZeros_0f7a4_61 rfl (lv_at hl 0 rfl) ?_
  refine lv_iconst (v := 4) hx hb dJ6_numberOfLeadingZeros_0f7a4_62 (by decide) ?_
  refine lv_icmp_lt (tgt := 73) hx hb dJ6_numberOfLeadingZeros_0f7a4_63 (by decide) (fun c5 => ?_) (fun c5 => ?_)
  · rw [if_pos c5] at h
    refine lv_iload_n hx hb dJ6_numberOfLeadingZeros_0f7a4_73 rfl (lv_at hl 1 rfl) ?_
    refine lv_iload_n hx hb dJ6_numberOfLeadingZeros_0f7a4_74 rfl (lv_at hl 0 rfl) ?_
    refine lv_iconst (v := 1) hx hb dJ6_numberOfLeadingZeros_0f7a4_75 (by decide) ?_
    refine lv_iushr hx hb dJ6_numberOfLeadingZeros_0f7a4_76 rfl ?_
    refine lv_isub hx hb dJ6_numberOfLeadingZeros_0f7a4_77 ?_
    exact s_iret cx hr hlk hw h dJ6_numberOfLeadingZeros_0f7a4_78
  · rw [if_neg c5] at h
    obtain ⟨v6, ev6, h⟩ := bv_ex h
    refine lv_iinc (v := v6) (lv' := [(1, .int v6), (0, .int a0)]) hx hb dJ6_numberOfLeadingZeros_0f7a4_66 hl (k := 1) rfl (by rw [ev6]; rfl) (by decide) rfl (fun ls hl => ?_)
    refine lv_iload_n hx hb dJ6_numberOfLeadingZeros_0f7a4_69 rfl (lv_at hl 1 rfl) ?_
    refine lv_iconst (v := 2) hx hb dJ6_numberOfLeadingZeros_0f7a4_70 (by decide) ?_
    refine lv_iushr hx hb dJ6_numberOfLeadingZeros_0f7a4_71 rfl ?_
    obtain ⟨v7, ev7, h⟩ := bv_ex h
    refine lv_topi (fun y9 z9 => ?_)
    obtain rfl : v7 = y9 := ev7.trans z9.symm
    refine lv_istore_n (lv' := [(0, .int v7), (1, .int v6)]) hx hb dJ6_numberOfLeadingZeros_0f7a4_72 rfl hl (by decide) rfl (fun ls hl => ?_)
    refine lv_iload_n hx hb dJ6_numberOfLeadingZeros_0f7a4_73 rfl (lv_at hl 1 rfl) ?_
    refine lv_iload_n hx hb dJ6_numberOfLeadingZeros_0f7a4_74 rfl (lv_at hl 0 rfl) ?_
    refine lv_iconst (v := 1) hx hb dJ6_numberOfLeadingZeros_0f7a4_75 (by decide) ?_
    refine lv_iushr hx hb dJ6_numberOfLeadingZeros_0f7a4_76 rfl ?_
    refine lv_isub hx hb dJ6_numberOfLeadingZeros_0f7a4_77 ?_
    exact s_iret cx hr hlk hw h dJ6_numberOfLeadingZeros_0f7a4_78
theorem s_J6_numberOfLeadingZeros_0f7a4_b48_ex : ∃ f : Int32 → Int32 → Int32, ∀ (a0 : Int32) (a1 : Int32), f a0 a1 = (if a0 < (16 : Int32) then s_J6_numberOfLeadingZeros_0f7a4_b61  a0 a1 else bv (a1 + (-4)) (fun v8 => bv ((a0.toUInt32 >>> ((4 : Int32).toUInt32 &&& Int32.toUInt32 31)).toInt32) (fun v9 => s_J6_numberOfLeadingZeros_0f7a4_b61  v9 v8))) := ⟨fun (a0 : Int32) (a1 : Int32) => (if a0 < (16 : Int32) then s_J6_numberOfLeadingZeros_0f7a4_b61  a0 a1 else bv (a1 + (-4)) (fun v8 => bv ((a0.toUInt32 >>> ((4 : Int32).toUInt32 &&& Int32.toUInt32 31)).toInt32) (fun v9 => s_J6_numberOfLeadingZeros_0f7a4_b61  v9 v8))), fun _ _ => rfl⟩
noncomputable def s_J6_numberOfLeadingZeros_0f7a4_b48 : Int32 → Int32 → Int32 := Classical.choose s_J6_numberOfLeadingZeros_0f7a4_b48_ex
theorem s_J6_numberOfLeadingZeros_0f7a4_b48_eq (a0 : Int32) (a1 : Int32) : s_J6_numberOfLeadingZeros_0f7a4_b48 a0 a1 = (if a0 < (16 : Int32) then s_J6_numberOfLeadingZeros_0f7a4_b61  a0 a1 else bv (a1 + (-4)) (fun v8 => bv ((a0.toUInt32 >>> ((4 : Int32).toUInt32 &&& Int32.toUInt32 31)).toInt32) (fun v9 => s_J6_numberOfLeadingZeros_0f7a4_b61  v9 v8))) := Classical.choose_spec s_J6_numberOfLeadingZeros_0f7a4_b48_ex a0 a1
set_option maxHeartbeats 4000000 in
set_option maxRecDepth 100000 in
theorem t_J6_numberOfLeadingZeros_0f7a4_b48 (l : Launch) (G : Gt) (av : List Value) {r : Int32} (a0 : Int32) (a1 : Int32) (h : s_J6_numberOfLeadingZeros_0f7a4_b48  a0 a1 = r) : Bk l cJ6_numberOfLeadingZeros_0f7a4 2 RJ6 (some .int) ({ frames := 0, cells := 0, slots := 0, locals := 0 } : Room) G av (sI G r) [] 48 [(0, .int a0), (1, .int a1)] [] := by
  intro p e s m below meth c A ls H locs cx hr hlk hA hl hw
  have hx := cx.1
  have hb := cx.2.1
  rw [s_J6_numberOfLeadingZeros_0f7a4_b48_eq] at h
  refine lv_iload_n hx hb dJ6_numberOfLeadingZeros_0f7a4_48 rfl (lv_at hl 0 rfl) ?_
  refine lv_bipush (v := 16) hx hb dJ6_numberOfLeadingZeros_0f7a4_49 (by decide) ?_
  refine lv_icmp_lt (tgt := 61) hx hb dJ6_numberOfLeadingZeros_0f7a4_51 (by decide) (fun c4 => ?_) (fun c4 => ?_)
  · rw [if_pos c4] at h
    exact t_J6_numberOfLeadingZeros_0f7a4_b61 l G av  a0 a1 h p e s m below meth c A ls H locs cx hr hlk hA (lv_sub hl [0, 1] rfl) hw
  · rw [if_neg c4] at h
    obtain ⟨v8, ev8, h⟩ := bv_ex h
    refine lv_iinc (v := v8) (lv' := [(1, .int v8), (0, .int a0)]) hx hb dJ6_numberOfLeadingZeros_0f7a4_54 hl (k := 1) rfl (by rw [ev8]; rfl) (by decide) rfl (fun ls hl => ?_)
    refine lv_iload_n hx hb dJ6_numberOfLeadingZeros_0f7a4_57 rfl (lv_at hl 1 rfl) ?_
    refine lv_iconst (v := 4) hx hb dJ6_numberOfLeadingZeros_0f7a4_58 (by decide) ?_
    refine lv_iushr hx hb dJ6_numberOfLeadingZeros_0f7a4_59 rfl ?_
    obtain ⟨v9, ev9, h⟩ := bv_ex h
    refine lv_topi (fun y9 z9 => ?_)
    obtain rfl : v9 = y9 := ev9.trans z9.symm
    refine lv_istore_n (lv' := [(0, .int v9), (1, .int v8)]) hx hb dJ6_numberOfLeadingZeros_0f7a4_60 rfl hl (by decide) rfl (fun ls hl => ?_)
    exact t_J6_numberOfLeadingZeros_0f7a4_b61 l G av  v9 v8 h p e s m below meth c A ls H locs cx hr hlk hA (lv_sub hl [0, 1] rfl) hw
theorem s_J6_numberOfLeadingZeros_0f7a4_b33_ex : ∃ f : Int32 → Int32 → Int32, ∀ (a0 : Int32) (a1 : Int32), f a0 a1 = (if a0 < (256 : Int32) then s_J6_numberOfLeadingZeros_0f7a4_b48  a0 a1 else bv (a1 + (-8)) (fun v10 => bv ((a0.toUInt32 >>> ((8 : Int32).toUInt32 &&& Int32.toUInt32 31)).toInt32) (fun v11 => s_J6_numberOfLeadingZeros_0f7a4_b48  v11 v10))) := ⟨fun (a0 : Int32) (a1 : Int32) => (if a0 < (256 : Int32) then s_J6_numberOfLeadingZeros_0f7a4_b48  a0 a1 else bv (a1 + (-8)) (fun v10 => bv ((a0.toUInt32 >>> ((8 : Int32).toUInt32 &&& Int32.toUInt32 31)).toInt32) (fun v11 => s_J6_numberOfLeadingZeros_0f7a4_b48  v11 v10))), fun _ _ => rfl⟩
noncomputable def s_J6_numberOfLeadingZeros_0f7a4_b33 : Int32 → Int32 → Int32 := Classical.choose s_J6_numberOfLeadingZeros_0f7a4_b33_ex
theorem s_J6_numberOfLeadingZeros_0f7a4_b33_eq (a0 : Int32) (a1 : Int32) : s_J6_numberOfLeadingZeros_0f7a4_b33 a0 a1 = (if a0 < (256 : Int32) then s_J6_numberOfLeadingZeros_0f7a4_b48  a0 a1 else bv (a1 + (-8)) (fun v10 => bv ((a0.toUInt32 >>> ((8 : Int32).toUInt32 &&& Int32.toUInt32 31)).toInt32) (fun v11 => s_J6_numberOfLeadingZeros_0f7a4_b48  v11 v10))) := Classical.choose_spec s_J6_numberOfLeadingZeros_0f7a4_b33_ex a0 a1
set_option maxHeartbeats 4000000 in
set_option maxRecDepth 100000 in
theorem t_J6_numberOfLeadingZeros_0f7a4_b33 (l : Launch) (G : Gt) (av : List Value) {r : Int32} (a0 : Int32) (a1 : Int32) (h : s_J6_numberOfLeadingZeros_0f7a4_b33  a0 a1 = r) : Bk l cJ6_numberOfLeadingZeros_0f7a4 2 RJ6 (some .int) ({ frames := 0, cells := 0, slots := 0, locals := 0 } : Room) G av (sI G r) [] 33 [(0, .int a0), (1, .int a1)] [] := by
  intro p e s m below meth c A ls H locs cx hr hlk hA hl hw
  have hx := cx.1
  have hb := cx.2.1
  rw [s_J6_numberOfLeadingZeros_0f7a4_b33_eq] at h
  refine lv_iload_n hx hb dJ6_numberOfLeadingZeros_0f7a4_33 rfl (lv_at hl 0 rfl) ?_
  refine lv_sipush (v := 256) hx hb dJ6_numberOfLeadingZeros_0f7a4_34 (by decide) ?_
  refine lv_icmp_lt (tgt := 48) hx hb dJ6_numberOfLeadingZeros_0f7a4_37 (by decide) (fun c3 => ?_) (fun c3 => ?_)
  · rw [if_pos c3] at h
    exact t_J6_numberOfLeadingZeros_0f7a4_b48 l G av  a0 a1 h p e s m below meth c A ls H locs cx hr hlk hA (lv_sub hl [0, 1] rfl) hw
  · rw [if_neg c3] at h
    obtain ⟨v10, ev10, h⟩ := bv_ex h
    refine lv_iinc (v := v10) (lv' := [(1, .int v10), (0, .int a0)]) hx hb dJ6_numberOfLeadingZeros_0f7a4_40 hl (k := 1) rfl (by rw [ev10]; rfl) (by decide) rfl (fun ls hl => ?_)
    refine lv_iload_n hx hb dJ6_numberOfLeadingZeros_0f7a4_43 rfl (lv_at hl 1 rfl) ?_
    refine lv_bipush (v := 8) hx hb dJ6_numberOfLeadingZeros_0f7a4_44 (by decide) ?_
    refine lv_iushr hx hb dJ6_numberOfLeadingZeros_0f7a4_46 rfl ?_
    obtain ⟨v11, ev11, h⟩ := bv_ex h
    refine lv_topi (fun y9 z9 => ?_)
    obtain rfl : v11 = y9 := ev11.trans z9.symm
    refine lv_istore_n (lv' := [(0, .int v11), (1, .int v10)]) hx hb dJ6_numberOfLeadingZeros_0f7a4_47 rfl hl (by decide) rfl (fun ls hl => ?_)
    exact t_J6_numberOfLeadingZeros_0f7a4_b48 l G av  v11 v10 h p e s m below meth c A ls H locs cx hr hlk hA (lv_sub hl [0, 1] rfl) hw
theorem s_J6_numberOfLeadingZeros_0f7a4_ex : ∃ f : Int32 → Int32, ∀ (a0 : Int32), f a0 = (if (0 : Int32) < a0 then (if a0 < (65536 : Int32) then s_J6_numberOfLeadingZeros_0f7a4_b33  a0 (31 : Int32) else bv ((31 : Int32) + (-16)) (fun v12 => bv ((a0.toUInt32 >>> ((16 : Int32).toUInt32 &&& Int32.toUInt32 31)).toInt32) (fun v13 => s_J6_numberOfLeadingZeros_0f7a4_b33  v13 v12))) else (if a0 = (0 : Int32) then (32 : Int32) else (0 : Int32))) := ⟨fun (a0 : Int32) => (if (0 : Int32) < a0 then (if a0 < (65536 : Int32) then s_J6_numberOfLeadingZeros_0f7a4_b33  a0 (31 : Int32) else bv ((31 : Int32) + (-16)) (fun v12 => bv ((a0.toUInt32 >>> ((16 : Int32).toUInt32 &&& Int32.toUInt32 31)).toInt32) (fun v13 => s_J6_numberOfLeadingZeros_0f7a4_b33  v13 v12))) else (if a0 = (0 : Int32) then (32 : Int32) else (0 : Int32))), fun _ => rfl⟩
noncomputable def s_J6_numberOfLeadingZeros_0f7a4 : Int32 → Int32 := Classical.choose s_J6_numberOfLeadingZeros_0f7a4_ex
theorem s_J6_numberOfLeadingZeros_0f7a4_eq (a0 : Int32) : s_J6_numberOfLeadingZeros_0f7a4 a0 = (if (0 : Int32) < a0 then (if a0 < (65536 : Int32) then s_J6_numberOfLeadingZeros_0f7a4_b33  a0 (31 : Int32) else bv ((31 : Int32) + (-16)) (fun v12 => bv ((a0.toUInt32 >>> ((16 : Int32).toUInt32 &&& Int32.toUInt32 31)).toInt32) (fun v13 => s_J6_numberOfLeadingZeros_0f7a4_b33  v13 v12))) else (if a0 = (0 : Int32) then (32 : Int32) else (0 : Int32))) := Classical.choose_spec s_J6_numberOfLeadingZeros_0f7a4_ex a0
set_option maxHeartbeats 4000000 in
set_option maxRecDepth 100000 in
theorem t_J6_numberOfLeadingZeros_0f7a4 (l : Launch) (G : Gt) (a0 : Int32) : Mt l yJ6_numberOfLeadingZeros_0f7a4 cJ6_numberOfLeadingZeros_0f7a4 2 (some .int) ({ frames := 0, cells := 0, slots := 0, locals := 0 } : Room) G [.int a0] [] (sI G (s_J6_numberOfLeadingZeros_0f7a4 a0)) := by
  obtain ⟨r, h⟩ : ∃ r, s_J6_numberOfLeadingZeros_0f7a4 a0 = r := ⟨_, rfl⟩
  rw [h]
  refine Bk.mt (by decide) rfl (Nat.le_of_ble_eq_true rfl) ?_
  intro p e s m below meth c A ls H locs cx hr hlk hA hl hw
  have hx := cx.1
  have hb := cx.2.1
  have hl : lv_has ls 2 [(0, .int a0)] := hl
  rw [s_J6_numberOfLeadingZeros_0f7a4_eq] at h
  refine lv_iload_n hx hb dJ6_numberOfLeadingZeros_0f7a4_0 rfl (lv_at hl 0 rfl) ?_
  refine lv_if_gt (tgt := 15) hx hb dJ6_numberOfLeadingZeros_0f7a4_1 (by decide) (fun c1 => ?_) (fun c1 => ?_)
  · rw [if_pos c1] at h
    refine lv_bipush (v := 31) hx hb dJ6_numberOfLeadingZeros_0f7a4_15 (by decide) ?_
    refine lv_istore_n (lv' := [(1, .int 31), (0, .int a0)]) hx hb dJ6_numberOfLeadingZeros_0f7a4_17 rfl hl (by decide) rfl (fun ls hl => ?_)
    refine lv_iload_n hx hb dJ6_numberOfLeadingZeros_0f7a4_18 rfl (lv_at hl 1 rfl) ?_
    refine lv_ldcw hx hb cx.2.2.2.1 (cx.2.2.2.2.1 _ cs_J6_264) dJ6_numberOfLeadingZeros_0f7a4_19 ?_
    refine lv_icmp_lt (tgt := 33) hx hb dJ6_numberOfLeadingZeros_0f7a4_22 (by decide) (fun c2 => ?_) (fun c2 => ?_)
    · rw [if_pos c2] at h
      exact t_J6_numberOfLeadingZeros_0f7a4_b33 l G _  a0 (31 : Int32) h p e s m below meth c A ls H locs cx hr hlk hA (lv_sub hl [1, 0] rfl) hw
    · rw [if_neg c2] at h
      obtain ⟨v12, ev12, h⟩ := bv_ex h
      refine lv_iinc (v := v12) (lv' := [(1, .int v12), (0, .int a0)]) hx hb dJ6_numberOfLeadingZeros_0f7a4_25 hl (k := 0) rfl (by rw [ev12]; rfl) (by decide) rfl (fun ls hl => ?_)
      refine lv_iload_n hx hb dJ6_numberOfLeadingZeros_0f7a4_28 rfl (lv_at hl 1 rfl) ?_
      refine lv_bipush (v := 16) hx hb dJ6_numberOfLeadingZeros_0f7a4_29 (by decide) ?_
      refine lv_iushr hx hb dJ6_numberOfLeadingZeros_0f7a4_31 rfl ?_
      obtain ⟨v13, ev13, h⟩ := bv_ex h
      refine lv_topi (fun y9 z9 => ?_)
      obtain rfl : v13 = y9 := ev13.trans z9.symm
      refine lv_istore_n (lv' := [(0, .int v13), (1, .int v12)]) hx hb dJ6_numberOfLeadingZeros_0f7a4_32 rfl hl (by decide) rfl (fun ls hl => ?_)
      exact t_J6_numberOfLeadingZeros_0f7a4_b33 l G _  v13 v12 h p e s m below meth c A ls H locs cx hr hlk hA (lv_sub hl [0, 1] rfl) hw
  · rw [if_neg c1] at h
    refine lv_iload_n hx hb dJ6_numberOfLeadingZeros_0f7a4_4 rfl (lv_at hl 0 rfl) ?_
    refine lv_if_ne (tgt := 13) hx hb dJ6_numberOfLeadingZeros_0f7a4_5 (by decide) (fun c14 => ?_) (fun c14 => ?_)
    · rw [if_neg c14] at h
      refine lv_iconst (v := 0) hx hb dJ6_numberOfLeadingZeros_0f7a4_13 (by decide) ?_
      exact s_iret cx hr hlk hw h dJ6_numberOfLeadingZeros_0f7a4_14
    · rw [if_pos c14] at h
      refine lv_bipush (v := 32) hx hb dJ6_numberOfLeadingZeros_0f7a4_8 (by decide) ?_
      refine lv_goto (tgt := 14) hx hb dJ6_numberOfLeadingZeros_0f7a4_10 (by decide) ?_
      exact s_iret cx hr hlk hw h dJ6_numberOfLeadingZeros_0f7a4_14

theorem s_J13_numberOfLeadingZeros_95d88_ex : ∃ f : Int64 → Int32, ∀ (a0 : Int64), f a0 = bv (((a0.toUInt64 >>> ((32 : Int32).toInt64.toUInt64 &&& Int64.toUInt64 63)).toInt64).toInt32) (fun v1 => (if v1 = (0 : Int32) then ((32 : Int32) + (s_J6_numberOfLeadingZeros_0f7a4 (a0.toInt32))) else (s_J6_numberOfLeadingZeros_0f7a4 v1))) := ⟨fun (a0 : Int64) => bv (((a0.toUInt64 >>> ((32 : Int32).toInt64.toUInt64 &&& Int64.toUInt64 63)).toInt64).toInt32) (fun v1 => (if v1 = (0 : Int32) then ((32 : Int32) + (s_J6_numberOfLeadingZeros_0f7a4 (a0.toInt32))) else (s_J6_numberOfLeadingZeros_0f7a4 v1))), fun _ => rfl⟩
noncomputable def s_J13_numberOfLeadingZeros_95d88 : Int64 → Int32 := Classical.choose s_J13_numberOfLeadingZeros_95d88_ex
theorem s_J13_numberOfLeadingZeros_95d88_eq (a0 : Int64) : s_J13_numberOfLeadingZeros_95d88 a0 = bv (((a0.toUInt64 >>> ((32 : Int32).toInt64.toUInt64 &&& Int64.toUInt64 63)).toInt64).toInt32) (fun v1 => (if v1 = (0 : Int32) then ((32 : Int32) + (s_J6_numberOfLeadingZeros_0f7a4 (a0.toInt32))) else (s_J6_numberOfLeadingZeros_0f7a4 v1))) := Classical.choose_spec s_J13_numberOfLeadingZeros_95d88_ex a0
set_option maxHeartbeats 4000000 in
set_option maxRecDepth 100000 in
theorem t_J13_numberOfLeadingZeros_95d88 (l : Launch) (G : Gt) (a0 : Int64) : Mt l yJ13_numberOfLeadingZeros_95d88 cJ13_numberOfLeadingZeros_95d88 3 (some .int) ({ frames := 1, cells := 0, slots := 0, locals := 21 } : Room) G [.long a0] [] (sI G (s_J13_numberOfLeadingZeros_95d88 a0)) := by
  obtain ⟨r, h⟩ : ∃ r, s_J13_numberOfLeadingZeros_95d88 a0 = r := ⟨_, rfl⟩
  rw [h]
  refine Bk.mt (by decide) rfl (Nat.le_of_ble_eq_true rfl) ?_
  intro p e s m below meth c A ls H locs cx hr hlk hA hl hw
  have hx := cx.1
  have hb := cx.2.1
  have hl : lv_has ls 3 [(0, .long a0)] := hl
  rw [s_J13_numberOfLeadingZeros_95d88_eq] at h
  refine lv_lload_n hx hb dJ13_numberOfLeadingZeros_95d88_0 rfl (lv_at hl 0 rfl) ?_
  refine lv_bipush (v := 32) hx hb dJ13_numberOfLeadingZeros_95d88_1 (by decide) ?_
  refine lv_lushr hx hb dJ13_numberOfLeadingZeros_95d88_3 rfl ?_
  refine lv_l2i hx hb dJ13_numberOfLeadingZeros_95d88_4 rfl ?_
  obtain ⟨v1, ev1, h⟩ := bv_ex h
  refine lv_topi (fun y9 z9 => ?_)
  obtain rfl : v1 = y9 := ev1.trans z9.symm
  refine lv_istore_n (lv' := [(2, .int v1), (0, .long a0)]) hx hb dJ13_numberOfLeadingZeros_95d88_5 rfl hl (by decide) rfl (fun ls hl => ?_)
  refine lv_iload_n hx hb dJ13_numberOfLeadingZeros_95d88_6 rfl (lv_at hl 0 rfl) ?_
  refine lv_if_ne (tgt := 21) hx hb dJ13_numberOfLeadingZeros_95d88_7 (by decide) (fun c2 => ?_) (fun c2 => ?_)
  · rw [if_neg c2] at h
    refine lv_iload_n hx hb dJ13_numberOfLeadingZeros_95d88_21 rfl (lv_at hl 0 rfl) ?_
    refine s_callI (As := [.int v1]) (rest := []) cx hw hA (t_J6_numberOfLeadingZeros_0f7a4 l G v1) ml_J13_308 st_J6_numberOfLeadingZeros_0f7a4 in_J6 co_J6_numberOfLeadingZeros_0f7a4 hd_J6_numberOfLeadingZeros_0f7a4 rfl ⟨(Nat.le_of_ble_eq_true rfl), (Nat.le_of_ble_eq_true rfl)⟩ hl.1 rfl (Nat.le_of_ble_eq_true rfl) dJ13_numberOfLeadingZeros_95d88_22 rfl (fun H locs hw => ?_)
    exact s_iret cx hr hlk hw h dJ13_numberOfLeadingZeros_95d88_25
  · rw [if_pos c2] at h
    refine lv_bipush (v := 32) hx hb dJ13_numberOfLeadingZeros_95d88_10 (by decide) ?_
    refine lv_lload_n hx hb dJ13_numberOfLeadingZeros_95d88_12 rfl (lv_at hl 1 rfl) ?_
    refine lv_l2i hx hb dJ13_numberOfLeadingZeros_95d88_13 rfl ?_
    refine s_callI (As := [.int (a0.toInt32)]) (rest := [.int 32]) cx hw hA (t_J6_numberOfLeadingZeros_0f7a4 l G (a0.toInt32)) ml_J13_308 st_J6_numberOfLeadingZeros_0f7a4 in_J6 co_J6_numberOfLeadingZeros_0f7a4 hd_J6_numberOfLeadingZeros_0f7a4 rfl ⟨(Nat.le_of_ble_eq_true rfl), (Nat.le_of_ble_eq_true rfl)⟩ hl.1 rfl (Nat.le_of_ble_eq_true rfl) dJ13_numberOfLeadingZeros_95d88_14 rfl (fun H locs hw => ?_)
    refine lv_iadd hx hb dJ13_numberOfLeadingZeros_95d88_17 ?_
    refine lv_goto (tgt := 25) hx hb dJ13_numberOfLeadingZeros_95d88_18 (by decide) ?_
    exact s_iret cx hr hlk hw h dJ13_numberOfLeadingZeros_95d88_25
