set_option maxHeartbeats 4000000 in
set_option maxRecDepth 100000 in
theorem k_setLimit (l : Launch) (G : Gt) (u : Nat → Nat) (a : Int32) (v : Int32) : Mt l yX10_setLimit cX10_setLimit 3 (some .boolean) ({ frames := 0, cells := 0, slots := 0, locals := 0 } : Room) G [.ref (u 8), .int a, .int v] [((u 8), ob 9 [.int 6, .int 3, .int 120, .ref (u 38), .ref (u 9), .ref (u 2), .int 0, .int 0, .int 0, .int 0, .ref (u 39), .ref (u 40), .int 0, .int 0, .ref (u 41), .ref (u 42), .ref (u 43), .ref (u 44)])] (qI G (fun (r : Int32) (w : Unit) => (((a.toInt = 0 ∧ 0 ≤ v.toInt ∧ v.toInt ≤ 12) ∨ (a.toInt = 1 ∧ 1 ≤ v.toInt ∧ v.toInt ≤ 6) ∨ (a.toInt = 2 ∧ 10 ≤ v.toInt ∧ v.toInt ≤ 300)) ∧ r.toInt = 1) ∨ (¬ ((a.toInt = 0 ∧ 0 ≤ v.toInt ∧ v.toInt ≤ 12) ∨ (a.toInt = 1 ∧ 1 ≤ v.toInt ∧ v.toInt ≤ 6) ∨ (a.toInt = 2 ∧ 10 ≤ v.toInt ∧ v.toInt ≤ 300)) ∧ r.toInt = 0)) (fun w => [])) := by
  refine Mt.of (own := RX10) (cc := cX10_setLimit) (by decide) rfl (Nat.le_of_ble_eq_true rfl) ?_
  intro p e s m below meth c A ls cx hr hlk hmn hA hl hw
  have hx := cx.1
  have hb := cx.2.1
  have hl : lv_has ls 3 [(0, .ref (u 8)), (1, .int a), (2, .int v)] := hl
  refine lv_iload_n hx hb dX10_setLimit_0 rfl (lv_at hl 1 rfl) ?_
  refine lv_if_ne (tgt := 22) hx hb dX10_setLimit_1 (by decide) (fun c1 => ?_) (fun c1 => ?_)
  · refine lv_iload_n hx hb dX10_setLimit_22 rfl (lv_at hl 1 rfl) ?_
    refine lv_iconst (v := 1) hx hb dX10_setLimit_23 (by decide) ?_
    refine lv_icmp_ne (tgt := 46) hx hb dX10_setLimit_24 (by decide) (fun c2 => ?_) (fun c2 => ?_)
    · refine lv_iload_n hx hb dX10_setLimit_46 rfl (lv_at hl 1 rfl) ?_
      refine lv_iconst (v := 2) hx hb dX10_setLimit_47 (by decide) ?_
      refine lv_icmp_ne (tgt := 72) hx hb dX10_setLimit_48 (by decide) (fun c3 => ?_) (fun c3 => ?_)
      · refine lv_iconst (v := 0) hx hb dX10_setLimit_72 (by decide) ?_
        have hw : Wd G A [] s.heap _ _ := hw.sub [] rfl rfl
        exact r_zret cx hr rfl hlk () (by simp only [fa_lt, fa_le, fa_eq] at c1 c2 c3; have : (-1 : Int32).toInt = -1 := (by decide); have : (0 : Int32).toInt = 0 := (by decide); have : (1 : Int32).toInt = 1 := (by decide); have : (2 : Int32).toInt = 2 := (by decide); omega) hw (Nat.le_of_ble_eq_true rfl) (Nat.le_of_ble_eq_true rfl) dX10_setLimit_73
      · subst c3
        refine lv_iload_n hx hb dX10_setLimit_51 rfl (lv_at hl 2 rfl) ?_
        refine lv_bipush (v := 10) hx hb dX10_setLimit_52 (by decide) ?_
        refine lv_icmp_lt (tgt := 72) hx hb dX10_setLimit_54 (by decide) (fun c4 => ?_) (fun c4 => ?_)
        · refine lv_iconst (v := 0) hx hb dX10_setLimit_72 (by decide) ?_
          have hw : Wd G A [] s.heap _ _ := hw.sub [] rfl rfl
          exact r_zret cx hr rfl hlk () (by simp only [fa_lt, fa_le, fa_eq] at c1 c2 c4; have : (-1 : Int32).toInt = -1 := (by decide); have : (0 : Int32).toInt = 0 := (by decide); have : (1 : Int32).toInt = 1 := (by decide); have : (2 : Int32).toInt = 2 := (by decide); have : (10 : Int32).toInt = 10 := (by decide); omega) hw (Nat.le_of_ble_eq_true rfl) (Nat.le_of_ble_eq_true rfl) dX10_setLimit_73
        · refine lv_iload_n hx hb dX10_setLimit_57 rfl (lv_at hl 2 rfl) ?_
          refine lv_sipush (v := 300) hx hb dX10_setLimit_58 (by decide) ?_
          refine lv_icmp_gt (tgt := 72) hx hb dX10_setLimit_61 (by decide) (fun c5 => ?_) (fun c5 => ?_)
          · refine lv_iconst (v := 0) hx hb dX10_setLimit_72 (by decide) ?_
            have hw : Wd G A [] s.heap _ _ := hw.sub [] rfl rfl
            exact r_zret cx hr rfl hlk () (by simp only [fa_lt, fa_le, fa_eq] at c1 c2 c4 c5; have : (-1 : Int32).toInt = -1 := (by decide); have : (0 : Int32).toInt = 0 := (by decide); have : (1 : Int32).toInt = 1 := (by decide); have : (2 : Int32).toInt = 2 := (by decide); have : (10 : Int32).toInt = 10 := (by decide); have : (300 : Int32).toInt = 300 := (by decide); omega) hw (Nat.le_of_ble_eq_true rfl) (Nat.le_of_ble_eq_true rfl) dX10_setLimit_73
          · refine lv_aload_n hx hb dX10_setLimit_64 rfl (lv_at hl 0 rfl) ?_
            refine lv_iload_n hx hb dX10_setLimit_65 rfl (lv_at hl 2 rfl) ?_
            refine r_put cx hw inX10 (ci := 9) rfl tyX10_ok nmX10 0 rfl 2 (by decide) fl_X10_18 rfl rfl rfl (Nat.le_of_ble_eq_true rfl) (ws' := [((u 8), ob 9 [.int 6, .int 3, .int v, .ref (u 38), .ref (u 9), .ref (u 2), .int 0, .int 0, .int 0, .int 0, .ref (u 39), .ref (u 40), .int 0, .int 0, .ref (u 41), .ref (u 42), .ref (u 43), .ref (u 44)])]) rfl dX10_setLimit_66 (fun H locs hw => ?_)
            refine lv_goto (tgt := 74) hx hb dX10_setLimit_69 (by decide) ?_
            refine lv_iconst (v := 1) hx hb dX10_setLimit_74 (by decide) ?_
            have hw : Wd G A [] s.heap _ _ := hw.sub [] rfl rfl
            exact r_zret cx hr rfl hlk () (by simp only [fa_lt, fa_le, fa_eq] at c1 c2 c4 c5; have : (-1 : Int32).toInt = -1 := (by decide); have : (0 : Int32).toInt = 0 := (by decide); have : (1 : Int32).toInt = 1 := (by decide); have : (2 : Int32).toInt = 2 := (by decide); have : (10 : Int32).toInt = 10 := (by decide); have : (300 : Int32).toInt = 300 := (by decide); omega) hw (Nat.le_of_ble_eq_true rfl) (Nat.le_of_ble_eq_true rfl) dX10_setLimit_75
    · subst c2
      refine lv_iload_n hx hb dX10_setLimit_27 rfl (lv_at hl 2 rfl) ?_
      refine lv_iconst (v := 1) hx hb dX10_setLimit_28 (by decide) ?_
      refine lv_icmp_lt (tgt := 46) hx hb dX10_setLimit_29 (by decide) (fun c6 => ?_) (fun c6 => ?_)
      · refine lv_iload_n hx hb dX10_setLimit_46 rfl (lv_at hl 1 rfl) ?_
        refine lv_iconst (v := 2) hx hb dX10_setLimit_47 (by decide) ?_
        refine lv_icmp_ne (tgt := 72) hx hb dX10_setLimit_48 (by decide) (fun _ => ?_) (fun c9 => absurd c9 (by decide))
        refine lv_iconst (v := 0) hx hb dX10_setLimit_72 (by decide) ?_
        have hw : Wd G A [] s.heap _ _ := hw.sub [] rfl rfl
        exact r_zret cx hr rfl hlk () (by simp only [fa_lt, fa_le, fa_eq] at c1 c6; have : (-1 : Int32).toInt = -1 := (by decide); have : (0 : Int32).toInt = 0 := (by decide); have : (1 : Int32).toInt = 1 := (by decide); omega) hw (Nat.le_of_ble_eq_true rfl) (Nat.le_of_ble_eq_true rfl) dX10_setLimit_73
      · refine lv_iload_n hx hb dX10_setLimit_32 rfl (lv_at hl 2 rfl) ?_
        refine lv_bipush (v := 6) hx hb dX10_setLimit_33 (by decide) ?_
        refine lv_icmp_gt (tgt := 46) hx hb dX10_setLimit_35 (by decide) (fun c7 => ?_) (fun c7 => ?_)
        · refine lv_iload_n hx hb dX10_setLimit_46 rfl (lv_at hl 1 rfl) ?_
          refine lv_iconst (v := 2) hx hb dX10_setLimit_47 (by decide) ?_
          refine lv_icmp_ne (tgt := 72) hx hb dX10_setLimit_48 (by decide) (fun _ => ?_) (fun c9 => absurd c9 (by decide))
          refine lv_iconst (v := 0) hx hb dX10_setLimit_72 (by decide) ?_
          have hw : Wd G A [] s.heap _ _ := hw.sub [] rfl rfl
          exact r_zret cx hr rfl hlk () (by simp only [fa_lt, fa_le, fa_eq] at c1 c6 c7; have : (-1 : Int32).toInt = -1 := (by decide); have : (0 : Int32).toInt = 0 := (by decide); have : (1 : Int32).toInt = 1 := (by decide); have : (6 : Int32).toInt = 6 := (by decide); omega) hw (Nat.le_of_ble_eq_true rfl) (Nat.le_of_ble_eq_true rfl) dX10_setLimit_73
        · refine lv_aload_n hx hb dX10_setLimit_38 rfl (lv_at hl 0 rfl) ?_
          refine lv_iload_n hx hb dX10_setLimit_39 rfl (lv_at hl 2 rfl) ?_
          refine r_put cx hw inX10 (ci := 9) rfl tyX10_ok nmX10 0 rfl 1 (by decide) fl_X10_15 rfl rfl rfl (Nat.le_of_ble_eq_true rfl) (ws' := [((u 8), ob 9 [.int 6, .int v, .int 120, .ref (u 38), .ref (u 9), .ref (u 2), .int 0, .int 0, .int 0, .int 0, .ref (u 39), .ref (u 40), .int 0, .int 0, .ref (u 41), .ref (u 42), .ref (u 43), .ref (u 44)])]) rfl dX10_setLimit_40 (fun H locs hw => ?_)
          refine lv_goto (tgt := 74) hx hb dX10_setLimit_43 (by decide) ?_
          refine lv_iconst (v := 1) hx hb dX10_setLimit_74 (by decide) ?_
          have hw : Wd G A [] s.heap _ _ := hw.sub [] rfl rfl
          exact r_zret cx hr rfl hlk () (by simp only [fa_lt, fa_le, fa_eq] at c1 c6 c7; have : (-1 : Int32).toInt = -1 := (by decide); have : (0 : Int32).toInt = 0 := (by decide); have : (1 : Int32).toInt = 1 := (by decide); have : (6 : Int32).toInt = 6 := (by decide); omega) hw (Nat.le_of_ble_eq_true rfl) (Nat.le_of_ble_eq_true rfl) dX10_setLimit_75
  · subst c1
    refine lv_iload_n hx hb dX10_setLimit_4 rfl (lv_at hl 2 rfl) ?_
    refine lv_if_lt (tgt := 22) hx hb dX10_setLimit_5 (by decide) (fun c8 => ?_) (fun c8 => ?_)
    · refine lv_iload_n hx hb dX10_setLimit_22 rfl (lv_at hl 1 rfl) ?_
      refine lv_iconst (v := 1) hx hb dX10_setLimit_23 (by decide) ?_
      refine lv_icmp_ne (tgt := 46) hx hb dX10_setLimit_24 (by decide) (fun _ => ?_) (fun c9 => absurd c9 (by decide))
      refine lv_iload_n hx hb dX10_setLimit_46 rfl (lv_at hl 1 rfl) ?_
      refine lv_iconst (v := 2) hx hb dX10_setLimit_47 (by decide) ?_
      refine lv_icmp_ne (tgt := 72) hx hb dX10_setLimit_48 (by decide) (fun _ => ?_) (fun c9 => absurd c9 (by decide))
      refine lv_iconst (v := 0) hx hb dX10_setLimit_72 (by decide) ?_
      have hw : Wd G A [] s.heap _ _ := hw.sub [] rfl rfl
      exact r_zret cx hr rfl hlk () (by simp only [fa_lt, fa_le, fa_eq] at c8; have : (-1 : Int32).toInt = -1 := (by decide); have : (0 : Int32).toInt = 0 := (by decide); have : (1 : Int32).toInt = 1 := (by decide); omega) hw (Nat.le_of_ble_eq_true rfl) (Nat.le_of_ble_eq_true rfl) dX10_setLimit_73
    · refine lv_iload_n hx hb dX10_setLimit_8 rfl (lv_at hl 2 rfl) ?_
      refine lv_bipush (v := 12) hx hb dX10_setLimit_9 (by decide) ?_
      refine lv_icmp_gt (tgt := 22) hx hb dX10_setLimit_11 (by decide) (fun c9 => ?_) (fun c9 => ?_)
      · refine lv_iload_n hx hb dX10_setLimit_22 rfl (lv_at hl 1 rfl) ?_
        refine lv_iconst (v := 1) hx hb dX10_setLimit_23 (by decide) ?_
        refine lv_icmp_ne (tgt := 46) hx hb dX10_setLimit_24 (by decide) (fun _ => ?_) (fun c9 => absurd c9 (by decide))
        refine lv_iload_n hx hb dX10_setLimit_46 rfl (lv_at hl 1 rfl) ?_
        refine lv_iconst (v := 2) hx hb dX10_setLimit_47 (by decide) ?_
        refine lv_icmp_ne (tgt := 72) hx hb dX10_setLimit_48 (by decide) (fun _ => ?_) (fun c9 => absurd c9 (by decide))
        refine lv_iconst (v := 0) hx hb dX10_setLimit_72 (by decide) ?_
        have hw : Wd G A [] s.heap _ _ := hw.sub [] rfl rfl
        exact r_zret cx hr rfl hlk () (by simp only [fa_lt, fa_le, fa_eq] at c8 c9; have : (-1 : Int32).toInt = -1 := (by decide); have : (0 : Int32).toInt = 0 := (by decide); have : (1 : Int32).toInt = 1 := (by decide); have : (12 : Int32).toInt = 12 := (by decide); omega) hw (Nat.le_of_ble_eq_true rfl) (Nat.le_of_ble_eq_true rfl) dX10_setLimit_73
      · refine lv_aload_n hx hb dX10_setLimit_14 rfl (lv_at hl 0 rfl) ?_
        refine lv_iload_n hx hb dX10_setLimit_15 rfl (lv_at hl 2 rfl) ?_
        refine r_put cx hw inX10 (ci := 9) rfl tyX10_ok nmX10 0 rfl 0 (by decide) fl_X10_11 rfl rfl rfl (Nat.le_of_ble_eq_true rfl) (ws' := [((u 8), ob 9 [.int v, .int 3, .int 120, .ref (u 38), .ref (u 9), .ref (u 2), .int 0, .int 0, .int 0, .int 0, .ref (u 39), .ref (u 40), .int 0, .int 0, .ref (u 41), .ref (u 42), .ref (u 43), .ref (u 44)])]) rfl dX10_setLimit_16 (fun H locs hw => ?_)
        refine lv_goto (tgt := 74) hx hb dX10_setLimit_19 (by decide) ?_
        refine lv_iconst (v := 1) hx hb dX10_setLimit_74 (by decide) ?_
        have hw : Wd G A [] s.heap _ _ := hw.sub [] rfl rfl
        exact r_zret cx hr rfl hlk () (by simp only [fa_lt, fa_le, fa_eq] at c8 c9; have : (-1 : Int32).toInt = -1 := (by decide); have : (0 : Int32).toInt = 0 := (by decide); have : (1 : Int32).toInt = 1 := (by decide); have : (12 : Int32).toInt = 12 := (by decide); omega) hw (Nat.le_of_ble_eq_true rfl) (Nat.le_of_ble_eq_true rfl) dX10_setLimit_75

set_option maxHeartbeats 4000000 in
set_option maxRecDepth 100000 in
theorem k_about (l : Launch) (G : Gt) (h0 : Nat) (k0 : Nat) (p0 : Nat) (v0 : Nat) (v : Int32) : Mt l yX1_about cX1_about 2 (some .int) ({ frames := 0, cells := 0, slots := 0, locals := 0 } : Room) G [.ref h0, .int v] [(h0, ob 0 [.int 4, .int 0, .int 0, .int 0, .int 0, .int 0, .int 0, .ref k0, .ref p0, .ref v0])] (qI G (fun (r : Int32) (w : Unit) => (v.toInt = 0 ∧ r.toInt = 4) ∨ (1 ≤ v.toInt ∧ v.toInt ≤ 5 ∧ r.toInt = 0) ∨ ((v.toInt < 0 ∨ 5 < v.toInt) ∧ r.toInt = -1)) (fun w => [(h0, ob 0 [.int 4, .int 0, .int 0, .int 0, .int 0, .int 0, .int 0, .ref k0, .ref p0, .ref v0])])) := by
  refine Mt.of (own := RX1) (cc := cX1_about) (by decide) rfl (Nat.le_of_ble_eq_true rfl) ?_
  intro p e s m below meth c A ls cx hr hlk hmn hA hl hw
  have hx := cx.1
  have hb := cx.2.1
  have hl : lv_has ls 2 [(0, .ref h0), (1, .int v)] := hl
  refine lv_iload_n hx hb dX1_about_0 rfl (lv_at hl 1 rfl) ?_
  by_cases c1 : v = 0
  · subst c1
    refine lv_tableIn (tgt := 40) hx hb dX1_about_1 (by decide +kernel) (by decide +kernel) rfl (by decide) ?_
    refine lv_aload_n hx hb dX1_about_40 rfl (lv_at hl 0 rfl) ?_
    refine r_get cx hw inX1 (ci := 0) rfl 0 rfl 0 (by decide) fl_X1_31 rfl dX1_about_41 ?_
    have hw : Wd G A [(h0, ob 0 [.int 4, .int 0, .int 0, .int 0, .int 0, .int 0, .int 0, .ref k0, .ref p0, .ref v0])] s.heap _ _ := hw.sub [0] rfl rfl
    exact r_iret cx hr hlk () (by have : (-1 : Int32).toInt = -1 := (by decide); have : (0 : Int32).toInt = 0 := (by decide); have : (1 : Int32).toInt = 1 := (by decide); have : (4 : Int32).toInt = 4 := (by decide); omega) hw (Nat.le_of_ble_eq_true rfl) (Nat.le_of_ble_eq_true rfl) dX1_about_44
  by_cases c2 : v = 1
  · subst c2
    refine lv_tableIn (tgt := 45) hx hb dX1_about_1 (by decide +kernel) (by decide +kernel) rfl (by decide) ?_
    refine lv_aload_n hx hb dX1_about_45 rfl (lv_at hl 0 rfl) ?_
    refine r_get cx hw inX1 (ci := 0) rfl 0 rfl 1 (by decide) fl_X1_35 rfl dX1_about_46 ?_
    have hw : Wd G A [(h0, ob 0 [.int 4, .int 0, .int 0, .int 0, .int 0, .int 0, .int 0, .ref k0, .ref p0, .ref v0])] s.heap _ _ := hw.sub [0] rfl rfl
    exact r_iret cx hr hlk () (by simp only [fa_lt, fa_le, fa_eq] at c1; have : (-1 : Int32).toInt = -1 := (by decide); have : (0 : Int32).toInt = 0 := (by decide); have : (1 : Int32).toInt = 1 := (by decide); omega) hw (Nat.le_of_ble_eq_true rfl) (Nat.le_of_ble_eq_true rfl) dX1_about_49
  by_cases c3 : v = 2
  · subst c3
    refine lv_tableIn (tgt := 50) hx hb dX1_about_1 (by decide +kernel) (by decide +kernel) rfl (by decide) ?_
    refine lv_aload_n hx hb dX1_about_50 rfl (lv_at hl 0 rfl) ?_
    refine r_get cx hw inX1 (ci := 0) rfl 0 rfl 4 (by decide) fl_X1_44 rfl dX1_about_51 ?_
    have hw : Wd G A [(h0, ob 0 [.int 4, .int 0, .int 0, .int 0, .int 0, .int 0, .int 0, .ref k0, .ref p0, .ref v0])] s.heap _ _ := hw.sub [0] rfl rfl
    exact r_iret cx hr hlk () (by simp only [fa_lt, fa_le, fa_eq] at c1 c2; have : (-1 : Int32).toInt = -1 := (by decide); have : (0 : Int32).toInt = 0 := (by decide); have : (1 : Int32).toInt = 1 := (by decide); have : (2 : Int32).toInt = 2 := (by decide); omega) hw (Nat.le_of_ble_eq_true rfl) (Nat.le_of_ble_eq_true rfl) dX1_about_54
  by_cases c4 : v = 3
  · subst c4
    refine lv_tableIn (tgt := 55) hx hb dX1_about_1 (by decide +kernel) (by decide +kernel) rfl (by decide) ?_
    refine lv_aload_n hx hb dX1_about_55 rfl (lv_at hl 0 rfl) ?_
    refine r_get cx hw inX1 (ci := 0) rfl 0 rfl 5 (by decide) fl_X1_47 rfl dX1_about_56 ?_
    have hw : Wd G A [(h0, ob 0 [.int 4, .int 0, .int 0, .int 0, .int 0, .int 0, .int 0, .ref k0, .ref p0, .ref v0])] s.heap _ _ := hw.sub [0] rfl rfl
    exact r_iret cx hr hlk () (by simp only [fa_lt, fa_le, fa_eq] at c1 c2 c3; have : (-1 : Int32).toInt = -1 := (by decide); have : (0 : Int32).toInt = 0 := (by decide); have : (1 : Int32).toInt = 1 := (by decide); have : (2 : Int32).toInt = 2 := (by decide); have : (3 : Int32).toInt = 3 := (by decide); omega) hw (Nat.le_of_ble_eq_true rfl) (Nat.le_of_ble_eq_true rfl) dX1_about_59
  by_cases c5 : v = 4
  · subst c5
    refine lv_tableIn (tgt := 60) hx hb dX1_about_1 (by decide +kernel) (by decide +kernel) rfl (by decide) ?_
    refine lv_aload_n hx hb dX1_about_60 rfl (lv_at hl 0 rfl) ?_
    refine r_get cx hw inX1 (ci := 0) rfl 0 rfl 6 (by decide) fl_X1_50 rfl dX1_about_61 ?_
    have hw : Wd G A [(h0, ob 0 [.int 4, .int 0, .int 0, .int 0, .int 0, .int 0, .int 0, .ref k0, .ref p0, .ref v0])] s.heap _ _ := hw.sub [0] rfl rfl
    exact r_iret cx hr hlk () (by simp only [fa_lt, fa_le, fa_eq] at c1 c2 c3 c4; have : (-1 : Int32).toInt = -1 := (by decide); have : (0 : Int32).toInt = 0 := (by decide); have : (1 : Int32).toInt = 1 := (by decide); have : (2 : Int32).toInt = 2 := (by decide); have : (3 : Int32).toInt = 3 := (by decide); have : (4 : Int32).toInt = 4 := (by decide); omega) hw (Nat.le_of_ble_eq_true rfl) (Nat.le_of_ble_eq_true rfl) dX1_about_64
  by_cases c6 : v = 5
  · subst c6
    refine lv_tableIn (tgt := 65) hx hb dX1_about_1 (by decide +kernel) (by decide +kernel) rfl (by decide) ?_
    refine lv_aload_n hx hb dX1_about_65 rfl (lv_at hl 0 rfl) ?_
    refine r_get cx hw inX1 (ci := 0) rfl 0 rfl 3 (by decide) fl_X1_41 rfl dX1_about_66 ?_
    have hw : Wd G A [(h0, ob 0 [.int 4, .int 0, .int 0, .int 0, .int 0, .int 0, .int 0, .ref k0, .ref p0, .ref v0])] s.heap _ _ := hw.sub [0] rfl rfl
    exact r_iret cx hr hlk () (by simp only [fa_lt, fa_le, fa_eq] at c1 c2 c3 c4 c5; have : (-1 : Int32).toInt = -1 := (by decide); have : (0 : Int32).toInt = 0 := (by decide); have : (1 : Int32).toInt = 1 := (by decide); have : (2 : Int32).toInt = 2 := (by decide); have : (3 : Int32).toInt = 3 := (by decide); have : (4 : Int32).toInt = 4 := (by decide); have : (5 : Int32).toInt = 5 := (by decide); omega) hw (Nat.le_of_ble_eq_true rfl) (Nat.le_of_ble_eq_true rfl) dX1_about_69
  refine lv_tableOut (tgt := 70) hx hb dX1_about_1 (by simp only [fa_lt, fa_le, fa_eq] at c1 c2 c3 c4 c5 c6; have : (-1 : Int32).toInt = -1 := (by decide); have : (0 : Int32).toInt = 0 := (by decide); have : (1 : Int32).toInt = 1 := (by decide); have : (2 : Int32).toInt = 2 := (by decide); have : (3 : Int32).toInt = 3 := (by decide); have : (4 : Int32).toInt = 4 := (by decide); have : (5 : Int32).toInt = 5 := (by decide); omega) (by decide) ?_
  refine lv_iconst (v := (-1)) hx hb dX1_about_70 (by decide) ?_
  have hw : Wd G A [(h0, ob 0 [.int 4, .int 0, .int 0, .int 0, .int 0, .int 0, .int 0, .ref k0, .ref p0, .ref v0])] s.heap _ _ := hw.sub [0] rfl rfl
  exact r_iret cx hr hlk () (by simp only [fa_lt, fa_le, fa_eq] at c1 c2 c3 c4 c5 c6; have : (-1 : Int32).toInt = -1 := (by decide); have : (0 : Int32).toInt = 0 := (by decide); have : (1 : Int32).toInt = 1 := (by decide); have : (2 : Int32).toInt = 2 := (by decide); have : (3 : Int32).toInt = 3 := (by decide); have : (4 : Int32).toInt = 4 := (by decide); have : (5 : Int32).toInt = 5 := (by decide); omega) hw (Nat.le_of_ble_eq_true rfl) (Nat.le_of_ble_eq_true rfl) dX1_about_71

set_option maxHeartbeats 4000000 in
set_option maxRecDepth 100000 in
theorem a_X2_stars_1 (l : Launch) (G : Gt) (a0 : Nat) (a1 : Nat) (a2 : Nat) : Mt l yX2_stars cX2_stars 3 (some .int) ({ frames := 0, cells := 0, slots := 0, locals := 0 } : Room) G [.ref a0] [(a0, ob 1 [.ref a1, .ref a2, .int 0, .int 0])] (qI G (fun (r : Int32) (w : Unit) => r = 0) (fun w => [(a0, ob 1 [.ref a1, .ref a2, .int 0, .int 0])])) := by
  refine Mt.of (own := RX2) (cc := cX2_stars) (by decide) rfl (Nat.le_of_ble_eq_true rfl) ?_
  intro p e s m below meth c A ls cx hr hlk hmn hA hl hw
  have hx := cx.1
  have hb := cx.2.1
  have hl : lv_has ls 3 [(0, .ref a0)] := hl
  refine lv_iconst (v := 0) hx hb dX2_stars_0 (by decide) ?_
  refine lv_istore_n (lv' := [(1, .int 0), (0, .ref a0)]) hx hb dX2_stars_1 rfl hl (by decide) rfl (fun ls hl => ?_)
  refine lv_iconst (v := 0) hx hb dX2_stars_2 (by decide) ?_
  refine lv_istore_n (lv' := [(2, .int 0), (1, .int 0), (0, .ref a0)]) hx hb dX2_stars_3 rfl hl (by decide) rfl (fun ls hl => ?_)
  refine lv_iload_n hx hb dX2_stars_4 rfl (lv_at hl 0 rfl) ?_
  refine lv_aload_n hx hb dX2_stars_5 rfl (lv_at hl 2 rfl) ?_
  refine r_get cx hw inX2 (ci := 1) rfl 0 rfl 2 (by decide) fl_X2_18 rfl dX2_stars_6 ?_
  refine lv_icmp_ge (tgt := 34) hx hb dX2_stars_9 (by decide) (fun _ => ?_) (fun c9 => absurd (by decide) c9)
  refine lv_iload_n hx hb dX2_stars_34 rfl (lv_at hl 1 rfl) ?_
  have hw : Wd G A [(a0, ob 1 [.ref a1, .ref a2, .int 0, .int 0])] s.heap _ _ := hw.sub [0] rfl rfl
  exact r_iret cx hr hlk () rfl hw (Nat.le_of_ble_eq_true rfl) (Nat.le_of_ble_eq_true rfl) dX2_stars_35

set_option maxHeartbeats 4000000 in
set_option maxRecDepth 100000 in
theorem k_canRun (l : Launch) (G : Gt) (h0 : Nat) (u : Nat → Nat) (a : Int32) : Mt l yX11_canRun cX11_canRun 2 (some .boolean) ({ frames := 1, cells := 0, slots := 0, locals := 22 } : Room) G [.ref h0, .int a] [(h0, ob 10 [.ref (u 0), .int 0, .int (-1), .ref (u 1), .ref (u 2), .ref (u 3), .ref (u 4), .ref (u 5), .ref (u 6), .ref (u 7), .int 0, .ref (u 8), .ref (u 9), .ref (u 10), .ref (u 11), .ref (u 12), .ref (u 13), .ref (u 14), .ref (u 15), .ref (u 16)]), ((u 4), ob 1 [.ref (u 30), .ref (u 31), .int 0, .int 0]), ((u 9), ob 4 [.int 0, .int 0, .int 0, .int 0, .int 0, .int 0, .int 0, .ref (u 45), .ref (u 46), .ref (u 47), .ref (u 48), .ref (u 49), .ref (u 50), .ref (u 51)])] (qI G (fun (r : Int32) (w : Unit) => (a = 0 ∧ r = 1) ∨ (¬ a = 0 ∧ r = 0)) (fun w => [(h0, ob 10 [.ref (u 0), .int 0, .int (-1), .ref (u 1), .ref (u 2), .ref (u 3), .ref (u 4), .ref (u 5), .ref (u 6), .ref (u 7), .int 0, .ref (u 8), .ref (u 9), .ref (u 10), .ref (u 11), .ref (u 12), .ref (u 13), .ref (u 14), .ref (u 15), .ref (u 16)]), ((u 4), ob 1 [.ref (u 30), .ref (u 31), .int 0, .int 0]), ((u 9), ob 4 [.int 0, .int 0, .int 0, .int 0, .int 0, .int 0, .int 0, .ref (u 45), .ref (u 46), .ref (u 47), .ref (u 48), .ref (u 49), .ref (u 50), .ref (u 51)])])) := by
  refine Mt.of (own := RX11) (cc := cX11_canRun) (by decide) rfl (Nat.le_of_ble_eq_true rfl) ?_
  intro p e s m below meth c A ls cx hr hlk hmn hA hl hw
  have hx := cx.1
  have hb := cx.2.1
  have hl : lv_has ls 2 [(0, .ref h0), (1, .int a)] := hl
  refine lv_iload_n hx hb dX11_canRun_0 rfl (lv_at hl 1 rfl) ?_
  refine lv_if_eq (tgt := 11) hx hb dX11_canRun_1 (by decide) (fun c1 => ?_) (fun c1 => ?_)
  · subst c1
    refine lv_iload_n hx hb dX11_canRun_11 rfl (lv_at hl 1 rfl) ?_
    refine lv_if_eq (tgt := 25) hx hb dX11_canRun_12 (by decide) (fun _ => ?_) (fun c9 => absurd (by decide) c9)
    refine lv_aload_n hx hb dX11_canRun_25 rfl (lv_at hl 0 rfl) ?_
    refine r_get cx hw inX11 (ci := 10) rfl 0 rfl 10 (by decide) fl_X11_57 rfl dX11_canRun_26 ?_
    refine lv_if_ne (tgt := 42) hx hb dX11_canRun_29 (by decide) (fun c9 => absurd (by decide) c9) (fun _ => ?_)
    refine lv_aload_n hx hb dX11_canRun_32 rfl (lv_at hl 0 rfl) ?_
    refine r_get cx hw inX11 (ci := 10) rfl 0 rfl 6 (by decide) fl_X11_44 rfl dX11_canRun_33 ?_
    refine r_callVI (As := []) (rest := []) (wr := [(h0, ob 10 [.ref (u 0), .int 0, .int (-1), .ref (u 1), .ref (u 2), .ref (u 3), .ref (u 4), .ref (u 5), .ref (u 6), .ref (u 7), .int 0, .ref (u 8), .ref (u 9), .ref (u 10), .ref (u 11), .ref (u 12), .ref (u 13), .ref (u 14), .ref (u 15), .ref (u 16)]), ((u 9), ob 4 [.int 0, .int 0, .int 0, .int 0, .int 0, .int 0, .int 0, .ref (u 45), .ref (u 46), .ref (u 47), .ref (u 48), .ref (u 49), .ref (u 50), .ref (u 51)])]) cx hw hA (a_X2_stars_1 l G (u 4) (u 30) (u 31)) [1] [0, 2] rfl rfl rfl rfl rfl 1 rfl (ci := 1) rfl ml_X11_148 im_X2_stars se_X2_stars in_X2 co_X2_stars rfl hd_X2_stars rfl ⟨Nat.le_of_ble_eq_true rfl, Nat.le_of_ble_eq_true rfl⟩ hl.1 rfl (Nat.le_of_ble_eq_true rfl) dX11_canRun_36 ⟨Nat.le_of_ble_eq_true rfl, Nat.le_of_ble_eq_true rfl⟩ (fun r3 u2 H locs hr3 hw => ?_)
    have hw : Wd G A [(h0, ob 10 [.ref (u 0), .int 0, .int (-1), .ref (u 1), .ref (u 2), .ref (u 3), .ref (u 4), .ref (u 5), .ref (u 6), .ref (u 7), .int 0, .ref (u 8), .ref (u 9), .ref (u 10), .ref (u 11), .ref (u 12), .ref (u 13), .ref (u 14), .ref (u 15), .ref (u 16)]), ((u 9), ob 4 [.int 0, .int 0, .int 0, .int 0, .int 0, .int 0, .int 0, .ref (u 45), .ref (u 46), .ref (u 47), .ref (u 48), .ref (u 49), .ref (u 50), .ref (u 51)]), ((u 4), ob 1 [.ref (u 30), .ref (u 31), .int 0, .int 0])] s.heap _ _ := hw
    subst hr3
    refine lv_if_ne (tgt := 46) hx hb dX11_canRun_39 (by decide) (fun c9 => absurd (by decide) c9) (fun _ => ?_)
    refine lv_iconst (v := 1) hx hb dX11_canRun_42 (by decide) ?_
    refine lv_goto (tgt := 47) hx hb dX11_canRun_43 (by decide) ?_
    have hw : Wd G A [(h0, ob 10 [.ref (u 0), .int 0, .int (-1), .ref (u 1), .ref (u 2), .ref (u 3), .ref (u 4), .ref (u 5), .ref (u 6), .ref (u 7), .int 0, .ref (u 8), .ref (u 9), .ref (u 10), .ref (u 11), .ref (u 12), .ref (u 13), .ref (u 14), .ref (u 15), .ref (u 16)]), ((u 4), ob 1 [.ref (u 30), .ref (u 31), .int 0, .int 0]), ((u 9), ob 4 [.int 0, .int 0, .int 0, .int 0, .int 0, .int 0, .int 0, .ref (u 45), .ref (u 46), .ref (u 47), .ref (u 48), .ref (u 49), .ref (u 50), .ref (u 51)])] s.heap _ _ := hw.sub [0, 2, 1] rfl rfl
    exact r_zret cx hr rfl hlk () (by first | exact Or.inl ⟨(by first | rfl | decide | (simp only [fa_lt, fa_le, fa_eq]; have : (-1 : Int32).toInt = -1 := (by decide); have : (0 : Int32).toInt = 0 := (by decide); have : (1 : Int32).toInt = 1 := (by decide); omega)), rfl⟩) hw (Nat.le_of_ble_eq_true rfl) (Nat.le_of_ble_eq_true rfl) dX11_canRun_47
  · refine lv_iload_n hx hb dX11_canRun_4 rfl (lv_at hl 1 rfl) ?_
    refine lv_iconst (v := 1) hx hb dX11_canRun_5 (by decide) ?_
    refine lv_icmp_eq (tgt := 11) hx hb dX11_canRun_6 (by decide) (fun c4 => ?_) (fun c4 => ?_)
    · subst c4
      refine lv_iload_n hx hb dX11_canRun_11 rfl (lv_at hl 1 rfl) ?_
      refine lv_if_eq (tgt := 25) hx hb dX11_canRun_12 (by decide) (fun c9 => absurd c9 (by decide)) (fun _ => ?_)
      refine lv_aload_n hx hb dX11_canRun_15 rfl (lv_at hl 0 rfl) ?_
      refine r_get cx hw inX11 (ci := 10) rfl 0 rfl 12 (by decide) fl_X11_67 rfl dX11_canRun_16 ?_
      refine r_get cx hw inX5 (ci := 4) rfl 2 rfl 0 (by decide) fl_X11_224 rfl dX11_canRun_19 ?_
      refine lv_if_eq (tgt := 46) hx hb dX11_canRun_22 (by decide) (fun _ => ?_) (fun c9 => absurd (by decide) c9)
      refine lv_iconst (v := 0) hx hb dX11_canRun_46 (by decide) ?_
      have hw : Wd G A [(h0, ob 10 [.ref (u 0), .int 0, .int (-1), .ref (u 1), .ref (u 2), .ref (u 3), .ref (u 4), .ref (u 5), .ref (u 6), .ref (u 7), .int 0, .ref (u 8), .ref (u 9), .ref (u 10), .ref (u 11), .ref (u 12), .ref (u 13), .ref (u 14), .ref (u 15), .ref (u 16)]), ((u 4), ob 1 [.ref (u 30), .ref (u 31), .int 0, .int 0]), ((u 9), ob 4 [.int 0, .int 0, .int 0, .int 0, .int 0, .int 0, .int 0, .ref (u 45), .ref (u 46), .ref (u 47), .ref (u 48), .ref (u 49), .ref (u 50), .ref (u 51)])] s.heap _ _ := hw.sub [0, 1, 2] rfl rfl
      exact r_zret cx hr rfl hlk () (by first | exact Or.inr (⟨(by first | rfl | decide | (simp only [fa_lt, fa_le, fa_eq]; simp only [fa_lt, fa_le, fa_eq] at c1; have : (-1 : Int32).toInt = -1 := (by decide); have : (0 : Int32).toInt = 0 := (by decide); have : (1 : Int32).toInt = 1 := (by decide); omega)), rfl⟩)) hw (Nat.le_of_ble_eq_true rfl) (Nat.le_of_ble_eq_true rfl) dX11_canRun_47
    · refine lv_iconst (v := 0) hx hb dX11_canRun_9 (by decide) ?_
      have hw : Wd G A [(h0, ob 10 [.ref (u 0), .int 0, .int (-1), .ref (u 1), .ref (u 2), .ref (u 3), .ref (u 4), .ref (u 5), .ref (u 6), .ref (u 7), .int 0, .ref (u 8), .ref (u 9), .ref (u 10), .ref (u 11), .ref (u 12), .ref (u 13), .ref (u 14), .ref (u 15), .ref (u 16)]), ((u 4), ob 1 [.ref (u 30), .ref (u 31), .int 0, .int 0]), ((u 9), ob 4 [.int 0, .int 0, .int 0, .int 0, .int 0, .int 0, .int 0, .ref (u 45), .ref (u 46), .ref (u 47), .ref (u 48), .ref (u 49), .ref (u 50), .ref (u 51)])] s.heap _ _ := hw.sub [0, 1, 2] rfl rfl
      exact r_zret cx hr rfl hlk () (by first | exact Or.inr (⟨(by first | rfl | decide | (simp only [fa_lt, fa_le, fa_eq]; simp only [fa_lt, fa_le, fa_eq] at c1 c4; have : (-1 : Int32).toInt = -1 := (by decide); have : (0 : Int32).toInt = 0 := (by decide); have : (1 : Int32).toInt = 1 := (by decide); omega)), rfl⟩)) hw (Nat.le_of_ble_eq_true rfl) (Nat.le_of_ble_eq_true rfl) dX11_canRun_10

set_option maxHeartbeats 4000000 in
set_option maxRecDepth 100000 in
theorem a_X11_feedFour_2 (l : Launch) (G : Gt) (a0 : Nat) (i0 : Int32) (a1 : Nat) (a2 : Nat) (a3 : Nat) (a4 : Nat) (a5 : Nat) (a6 : Nat) (a7 : Nat) (a8 : Nat) (a9 : Nat) (a10 : Nat) (a11 : Nat) (a12 : Nat) (a13 : Nat) (a14 : Nat) (a15 : Nat) (a16 : Nat) (a17 : Nat) : Mt l yX11_feedFour cX11_feedFour 3 none ({ frames := 0, cells := 0, slots := 0, locals := 0 } : Room) G [.ref a0, .int i0] [(a0, ob 10 [.ref a1, .int 0, .int (-1), .ref a2, .ref a3, .ref a4, .ref a5, .ref a6, .ref a7, .ref a8, .int 0, .ref a9, .ref a10, .ref a11, .ref a12, .ref a13, .ref a14, .ref a15, .ref a16, .ref a17]), (a1, aI G 800 (fun _ => 0))] (qV G (fun (w : Nat → Int32) => True) (fun w => [(a0, ob 10 [.ref a1, .int 4, .int (-1), .ref a2, .ref a3, .ref a4, .ref a5, .ref a6, .ref a7, .ref a8, .int 0, .ref a9, .ref a10, .ref a11, .ref a12, .ref a13, .ref a14, .ref a15, .ref a16, .ref a17]), (a1, aI G 800 (w))])) := by
  refine Mt.of (own := RX11) (cc := cX11_feedFour) (by decide) rfl (Nat.le_of_ble_eq_true rfl) ?_
  intro p e s m below meth c A ls cx hr hlk hmn hA hl hw
  have hx := cx.1
  have hb := cx.2.1
  have hl : lv_has ls 3 [(0, .ref a0), (1, .int i0)] := hl
  refine lv_bipush (v := 24) hx hb dX11_feedFour_0 (by decide) ?_
  refine lv_istore_n (lv' := [(2, .int 24), (0, .ref a0), (1, .int i0)]) hx hb dX11_feedFour_2 rfl hl (by decide) rfl (fun ls hl => ?_)
  refine lv_iload_n hx hb dX11_feedFour_3 rfl (lv_at hl 0 rfl) ?_
  refine lv_if_lt (tgt := 49) hx hb dX11_feedFour_4 (by decide) (fun c9 => absurd c9 (by decide)) (fun _ => ?_)
  refine lv_aload_n hx hb dX11_feedFour_7 rfl (lv_at hl 1 rfl) ?_
  refine r_get cx hw inX11 (ci := 10) rfl 0 rfl 1 (by decide) fl_X11_13 rfl dX11_feedFour_8 ?_
  refine lv_sipush (v := 800) hx hb dX11_feedFour_11 (by decide) ?_
  refine lv_icmp_ge (tgt := 49) hx hb dX11_feedFour_14 (by decide) (fun c9 => absurd c9 (by decide)) (fun _ => ?_)
  refine lv_aload_n hx hb dX11_feedFour_17 rfl (lv_at hl 1 rfl) ?_
  refine r_get cx hw inX11 (ci := 10) rfl 0 rfl 0 (by decide) fl_X11_9 rfl dX11_feedFour_18 ?_
  refine lv_aload_n hx hb dX11_feedFour_21 rfl (lv_at hl 1 rfl) ?_
  refine r_get cx hw inX11 (ci := 10) rfl 0 rfl 1 (by decide) fl_X11_13 rfl dX11_feedFour_22 ?_
  refine lv_iload_n hx hb dX11_feedFour_25 rfl (lv_at hl 2 rfl) ?_
  refine lv_iload_n hx hb dX11_feedFour_26 rfl (lv_at hl 0 rfl) ?_
  refine lv_iushr hx hb dX11_feedFour_27 rfl ?_
  refine lv_topi (fun v1 ev1 => ?_)
  refine lv_sipush (v := 255) hx hb dX11_feedFour_28 (by decide) ?_
  refine lv_iand hx hb dX11_feedFour_31 ?_
  refine lv_topi (fun v2 ev2 => ?_)
  refine r_iast cx hw 1 rfl (inL (by decide +kernel)) (ws' := [(a0, ob 10 [.ref a1, .int 0, .int (-1), .ref a2, .ref a3, .ref a4, .ref a5, .ref a6, .ref a7, .ref a8, .int 0, .ref a9, .ref a10, .ref a11, .ref a12, .ref a13, .ref a14, .ref a15, .ref a16, .ref a17]), (a1, aI G 800 (upd (fun _ => 0) 0 v2))]) rfl dX11_feedFour_32 (fun H locs hw => ?_)
  refine lv_aload_n hx hb dX11_feedFour_33 rfl (lv_at hl 1 rfl) ?_
  refine lv_dup hx hb dX11_feedFour_34 rfl ?_
  refine r_get cx hw inX11 (ci := 10) rfl 0 rfl 1 (by decide) fl_X11_13 rfl dX11_feedFour_35 ?_
  refine lv_iconst (v := 1) hx hb dX11_feedFour_38 (by decide) ?_
  refine lv_iadd hx hb dX11_feedFour_39 ?_
  refine r_topi (v := 1) (by decide +kernel) ?_
  refine r_put cx hw inX11 (ci := 10) rfl tyX11_ok nmX11 0 rfl 1 (by decide) fl_X11_13 rfl rfl rfl (Nat.le_of_ble_eq_true rfl) (ws' := [(a0, ob 10 [.ref a1, .int 1, .int (-1), .ref a2, .ref a3, .ref a4, .ref a5, .ref a6, .ref a7, .ref a8, .int 0, .ref a9, .ref a10, .ref a11, .ref a12, .ref a13, .ref a14, .ref a15, .ref a16, .ref a17]), (a1, aI G 800 (upd (fun _ => 0) 0 v2))]) rfl dX11_feedFour_40 (fun H locs hw => ?_)
  refine lv_iinc (v := 16) (lv' := [(2, .int 16), (0, .ref a0), (1, .int i0)]) hx hb dX11_feedFour_43 hl (k := 0) rfl (by decide +kernel) (by decide) rfl (fun ls hl => ?_)
  refine lv_goto (tgt := 3) hx hb dX11_feedFour_46 (by decide) ?_
  refine lv_iload_n hx hb dX11_feedFour_3 rfl (lv_at hl 0 rfl) ?_
  refine lv_if_lt (tgt := 49) hx hb dX11_feedFour_4 (by decide) (fun c9 => absurd c9 (by decide)) (fun _ => ?_)
  refine lv_aload_n hx hb dX11_feedFour_7 rfl (lv_at hl 1 rfl) ?_
  refine r_get cx hw inX11 (ci := 10) rfl 0 rfl 1 (by decide) fl_X11_13 rfl dX11_feedFour_8 ?_
  refine lv_sipush (v := 800) hx hb dX11_feedFour_11 (by decide) ?_
  refine lv_icmp_ge (tgt := 49) hx hb dX11_feedFour_14 (by decide) (fun c9 => absurd c9 (by decide)) (fun _ => ?_)
  refine lv_aload_n hx hb dX11_feedFour_17 rfl (lv_at hl 1 rfl) ?_
  refine r_get cx hw inX11 (ci := 10) rfl 0 rfl 0 (by decide) fl_X11_9 rfl dX11_feedFour_18 ?_
  refine lv_aload_n hx hb dX11_feedFour_21 rfl (lv_at hl 1 rfl) ?_
  refine r_get cx hw inX11 (ci := 10) rfl 0 rfl 1 (by decide) fl_X11_13 rfl dX11_feedFour_22 ?_
  refine lv_iload_n hx hb dX11_feedFour_25 rfl (lv_at hl 2 rfl) ?_
  refine lv_iload_n hx hb dX11_feedFour_26 rfl (lv_at hl 0 rfl) ?_
  refine lv_iushr hx hb dX11_feedFour_27 rfl ?_
  refine lv_topi (fun v3 ev3 => ?_)
  refine lv_sipush (v := 255) hx hb dX11_feedFour_28 (by decide) ?_
  refine lv_iand hx hb dX11_feedFour_31 ?_
  refine lv_topi (fun v4 ev4 => ?_)
  refine r_iast cx hw 1 rfl (inL (by decide +kernel)) (ws' := [(a0, ob 10 [.ref a1, .int 1, .int (-1), .ref a2, .ref a3, .ref a4, .ref a5, .ref a6, .ref a7, .ref a8, .int 0, .ref a9, .ref a10, .ref a11, .ref a12, .ref a13, .ref a14, .ref a15, .ref a16, .ref a17]), (a1, aI G 800 (upd (upd (fun _ => 0) 0 v2) 1 v4))]) rfl dX11_feedFour_32 (fun H locs hw => ?_)
  refine lv_aload_n hx hb dX11_feedFour_33 rfl (lv_at hl 1 rfl) ?_
  refine lv_dup hx hb dX11_feedFour_34 rfl ?_
  refine r_get cx hw inX11 (ci := 10) rfl 0 rfl 1 (by decide) fl_X11_13 rfl dX11_feedFour_35 ?_
  refine lv_iconst (v := 1) hx hb dX11_feedFour_38 (by decide) ?_
  refine lv_iadd hx hb dX11_feedFour_39 ?_
  refine r_topi (v := 2) (by decide +kernel) ?_
  refine r_put cx hw inX11 (ci := 10) rfl tyX11_ok nmX11 0 rfl 1 (by decide) fl_X11_13 rfl rfl rfl (Nat.le_of_ble_eq_true rfl) (ws' := [(a0, ob 10 [.ref a1, .int 2, .int (-1), .ref a2, .ref a3, .ref a4, .ref a5, .ref a6, .ref a7, .ref a8, .int 0, .ref a9, .ref a10, .ref a11, .ref a12, .ref a13, .ref a14, .ref a15, .ref a16, .ref a17]), (a1, aI G 800 (upd (upd (fun _ => 0) 0 v2) 1 v4))]) rfl dX11_feedFour_40 (fun H locs hw => ?_)
  refine lv_iinc (v := 8) (lv' := [(2, .int 8), (0, .ref a0), (1, .int i0)]) hx hb dX11_feedFour_43 hl (k := 0) rfl (by decide +kernel) (by decide) rfl (fun ls hl => ?_)
  refine lv_goto (tgt := 3) hx hb dX11_feedFour_46 (by decide) ?_
  refine lv_iload_n hx hb dX11_feedFour_3 rfl (lv_at hl 0 rfl) ?_
  refine lv_if_lt (tgt := 49) hx hb dX11_feedFour_4 (by decide) (fun c9 => absurd c9 (by decide)) (fun _ => ?_)
  refine lv_aload_n hx hb dX11_feedFour_7 rfl (lv_at hl 1 rfl) ?_
  refine r_get cx hw inX11 (ci := 10) rfl 0 rfl 1 (by decide) fl_X11_13 rfl dX11_feedFour_8 ?_
  refine lv_sipush (v := 800) hx hb dX11_feedFour_11 (by decide) ?_
  refine lv_icmp_ge (tgt := 49) hx hb dX11_feedFour_14 (by decide) (fun c9 => absurd c9 (by decide)) (fun _ => ?_)
  refine lv_aload_n hx hb dX11_feedFour_17 rfl (lv_at hl 1 rfl) ?_
  refine r_get cx hw inX11 (ci := 10) rfl 0 rfl 0 (by decide) fl_X11_9 rfl dX11_feedFour_18 ?_
  refine lv_aload_n hx hb dX11_feedFour_21 rfl (lv_at hl 1 rfl) ?_
  refine r_get cx hw inX11 (ci := 10) rfl 0 rfl 1 (by decide) fl_X11_13 rfl dX11_feedFour_22 ?_
  refine lv_iload_n hx hb dX11_feedFour_25 rfl (lv_at hl 2 rfl) ?_
  refine lv_iload_n hx hb dX11_feedFour_26 rfl (lv_at hl 0 rfl) ?_
  refine lv_iushr hx hb dX11_feedFour_27 rfl ?_
  refine lv_topi (fun v5 ev5 => ?_)
  refine lv_sipush (v := 255) hx hb dX11_feedFour_28 (by decide) ?_
  refine lv_iand hx hb dX11_feedFour_31 ?_
  refine lv_topi (fun v6 ev6 => ?_)
  refine r_iast cx hw 1 rfl (inL (by decide +kernel)) (ws' := [(a0, ob 10 [.ref a1, .int 2, .int (-1), .ref a2, .ref a3, .ref a4, .ref a5, .ref a6, .ref a7, .ref a8, .int 0, .ref a9, .ref a10, .ref a11, .ref a12, .ref a13, .ref a14, .ref a15, .ref a16, .ref a17]), (a1, aI G 800 (upd (upd (upd (fun _ => 0) 0 v2) 1 v4) 2 v6))]) rfl dX11_feedFour_32 (fun H locs hw => ?_)
  refine lv_aload_n hx hb dX11_feedFour_33 rfl (lv_at hl 1 rfl) ?_
  refine lv_dup hx hb dX11_feedFour_34 rfl ?_
  refine r_get cx hw inX11 (ci := 10) rfl 0 rfl 1 (by decide) fl_X11_13 rfl dX11_feedFour_35 ?_
  refine lv_iconst (v := 1) hx hb dX11_feedFour_38 (by decide) ?_
  refine lv_iadd hx hb dX11_feedFour_39 ?_
  refine r_topi (v := 3) (by decide +kernel) ?_
  refine r_put cx hw inX11 (ci := 10) rfl tyX11_ok nmX11 0 rfl 1 (by decide) fl_X11_13 rfl rfl rfl (Nat.le_of_ble_eq_true rfl) (ws' := [(a0, ob 10 [.ref a1, .int 3, .int (-1), .ref a2, .ref a3, .ref a4, .ref a5, .ref a6, .ref a7, .ref a8, .int 0, .ref a9, .ref a10, .ref a11, .ref a12, .ref a13, .ref a14, .ref a15, .ref a16, .ref a17]), (a1, aI G 800 (upd (upd (upd (fun _ => 0) 0 v2) 1 v4) 2 v6))]) rfl dX11_feedFour_40 (fun H locs hw => ?_)
  refine lv_iinc (v := 0) (lv' := [(2, .int 0), (0, .ref a0), (1, .int i0)]) hx hb dX11_feedFour_43 hl (k := 0) rfl (by decide +kernel) (by decide) rfl (fun ls hl => ?_)
  refine lv_goto (tgt := 3) hx hb dX11_feedFour_46 (by decide) ?_
  refine lv_iload_n hx hb dX11_feedFour_3 rfl (lv_at hl 0 rfl) ?_
  refine lv_if_lt (tgt := 49) hx hb dX11_feedFour_4 (by decide) (fun c9 => absurd c9 (by decide)) (fun _ => ?_)
  refine lv_aload_n hx hb dX11_feedFour_7 rfl (lv_at hl 1 rfl) ?_
  refine r_get cx hw inX11 (ci := 10) rfl 0 rfl 1 (by decide) fl_X11_13 rfl dX11_feedFour_8 ?_
  refine lv_sipush (v := 800) hx hb dX11_feedFour_11 (by decide) ?_
  refine lv_icmp_ge (tgt := 49) hx hb dX11_feedFour_14 (by decide) (fun c9 => absurd c9 (by decide)) (fun _ => ?_)
  refine lv_aload_n hx hb dX11_feedFour_17 rfl (lv_at hl 1 rfl) ?_
  refine r_get cx hw inX11 (ci := 10) rfl 0 rfl 0 (by decide) fl_X11_9 rfl dX11_feedFour_18 ?_
  refine lv_aload_n hx hb dX11_feedFour_21 rfl (lv_at hl 1 rfl) ?_
  refine r_get cx hw inX11 (ci := 10) rfl 0 rfl 1 (by decide) fl_X11_13 rfl dX11_feedFour_22 ?_
  refine lv_iload_n hx hb dX11_feedFour_25 rfl (lv_at hl 2 rfl) ?_
  refine lv_iload_n hx hb dX11_feedFour_26 rfl (lv_at hl 0 rfl) ?_
  refine lv_iushr hx hb dX11_feedFour_27 rfl ?_
  refine lv_topi (fun v7 ev7 => ?_)
  refine lv_sipush (v := 255) hx hb dX11_feedFour_28 (by decide) ?_
  refine lv_iand hx hb dX11_feedFour_31 ?_
  refine lv_topi (fun v8 ev8 => ?_)
  refine r_iast cx hw 1 rfl (inL (by decide +kernel)) (ws' := [(a0, ob 10 [.ref a1, .int 3, .int (-1), .ref a2, .ref a3, .ref a4, .ref a5, .ref a6, .ref a7, .ref a8, .int 0, .ref a9, .ref a10, .ref a11, .ref a12, .ref a13, .ref a14, .ref a15, .ref a16, .ref a17]), (a1, aI G 800 (upd (upd (upd (upd (fun _ => 0) 0 v2) 1 v4) 2 v6) 3 v8))]) rfl dX11_feedFour_32 (fun H locs hw => ?_)
  refine lv_aload_n hx hb dX11_feedFour_33 rfl (lv_at hl 1 rfl) ?_
  refine lv_dup hx hb dX11_feedFour_34 rfl ?_
  refine r_get cx hw inX11 (ci := 10) rfl 0 rfl 1 (by decide) fl_X11_13 rfl dX11_feedFour_35 ?_
  refine lv_iconst (v := 1) hx hb dX11_feedFour_38 (by decide) ?_
  refine lv_iadd hx hb dX11_feedFour_39 ?_
  refine r_topi (v := 4) (by decide +kernel) ?_
  refine r_put cx hw inX11 (ci := 10) rfl tyX11_ok nmX11 0 rfl 1 (by decide) fl_X11_13 rfl rfl rfl (Nat.le_of_ble_eq_true rfl) (ws' := [(a0, ob 10 [.ref a1, .int 4, .int (-1), .ref a2, .ref a3, .ref a4, .ref a5, .ref a6, .ref a7, .ref a8, .int 0, .ref a9, .ref a10, .ref a11, .ref a12, .ref a13, .ref a14, .ref a15, .ref a16, .ref a17]), (a1, aI G 800 (upd (upd (upd (upd (fun _ => 0) 0 v2) 1 v4) 2 v6) 3 v8))]) rfl dX11_feedFour_40 (fun H locs hw => ?_)
  refine lv_iinc (v := (-8)) (lv' := [(2, .int (-8)), (0, .ref a0), (1, .int i0)]) hx hb dX11_feedFour_43 hl (k := 0) rfl (by decide +kernel) (by decide) rfl (fun ls hl => ?_)
  refine lv_goto (tgt := 3) hx hb dX11_feedFour_46 (by decide) ?_
  refine lv_iload_n hx hb dX11_feedFour_3 rfl (lv_at hl 0 rfl) ?_
  refine lv_if_lt (tgt := 49) hx hb dX11_feedFour_4 (by decide) (fun _ => ?_) (fun c9 => absurd (by decide) c9)
  have hw : Wd G A [(a0, ob 10 [.ref a1, .int 4, .int (-1), .ref a2, .ref a3, .ref a4, .ref a5, .ref a6, .ref a7, .ref a8, .int 0, .ref a9, .ref a10, .ref a11, .ref a12, .ref a13, .ref a14, .ref a15, .ref a16, .ref a17]), (a1, aI G 800 (upd (upd (upd (upd (fun _ => 0) 0 v2) 1 v4) 2 v6) 3 v8))] s.heap _ _ := hw.sub [0, 1] rfl rfl
  exact r_vret cx hr hlk (upd (upd (upd (upd (fun _ => 0) 0 v2) 1 v4) 2 v6) 3 v8) trivial hw (Nat.le_of_ble_eq_true rfl) (Nat.le_of_ble_eq_true rfl) dX11_feedFour_49

set_option maxHeartbeats 4000000 in
set_option maxRecDepth 100000 in
theorem a_X11_feedFour_3 (l : Launch) (G : Gt) (a0 : Nat) (i0 : Int32) (a1 : Nat) (a2 : Nat) (a3 : Nat) (a4 : Nat) (a5 : Nat) (a6 : Nat) (a7 : Nat) (a8 : Nat) (a9 : Nat) (a10 : Nat) (a11 : Nat) (a12 : Nat) (a13 : Nat) (a14 : Nat) (a15 : Nat) (a16 : Nat) (a17 : Nat) (g0 : Nat → Int32) : Mt l yX11_feedFour cX11_feedFour 3 none ({ frames := 0, cells := 0, slots := 0, locals := 0 } : Room) G [.ref a0, .int i0] [(a0, ob 10 [.ref a1, .int 4, .int (-1), .ref a2, .ref a3, .ref a4, .ref a5, .ref a6, .ref a7, .ref a8, .int 0, .ref a9, .ref a10, .ref a11, .ref a12, .ref a13, .ref a14, .ref a15, .ref a16, .ref a17]), (a1, aI G 800 (g0))] (qV G (fun (w : Nat → Int32) => True) (fun w => [(a0, ob 10 [.ref a1, .int 8, .int (-1), .ref a2, .ref a3, .ref a4, .ref a5, .ref a6, .ref a7, .ref a8, .int 0, .ref a9, .ref a10, .ref a11, .ref a12, .ref a13, .ref a14, .ref a15, .ref a16, .ref a17]), (a1, aI G 800 (w))])) := by
  refine Mt.of (own := RX11) (cc := cX11_feedFour) (by decide) rfl (Nat.le_of_ble_eq_true rfl) ?_
  intro p e s m below meth c A ls cx hr hlk hmn hA hl hw
  have hx := cx.1
  have hb := cx.2.1
  have hl : lv_has ls 3 [(0, .ref a0), (1, .int i0)] := hl
  refine lv_bipush (v := 24) hx hb dX11_feedFour_0 (by decide) ?_
  refine lv_istore_n (lv' := [(2, .int 24), (0, .ref a0), (1, .int i0)]) hx hb dX11_feedFour_2 rfl hl (by decide) rfl (fun ls hl => ?_)
  refine lv_iload_n hx hb dX11_feedFour_3 rfl (lv_at hl 0 rfl) ?_
  refine lv_if_lt (tgt := 49) hx hb dX11_feedFour_4 (by decide) (fun c9 => absurd c9 (by decide)) (fun _ => ?_)
  refine lv_aload_n hx hb dX11_feedFour_7 rfl (lv_at hl 1 rfl) ?_
  refine r_get cx hw inX11 (ci := 10) rfl 0 rfl 1 (by decide) fl_X11_13 rfl dX11_feedFour_8 ?_
  refine lv_sipush (v := 800) hx hb dX11_feedFour_11 (by decide) ?_
  refine lv_icmp_ge (tgt := 49) hx hb dX11_feedFour_14 (by decide) (fun c9 => absurd c9 (by decide)) (fun _ => ?_)
  refine lv_aload_n hx hb dX11_feedFour_17 rfl (lv_at hl 1 rfl) ?_
  refine r_get cx hw inX11 (ci := 10) rfl 0 rfl 0 (by decide) fl_X11_9 rfl dX11_feedFour_18 ?_
  refine lv_aload_n hx hb dX11_feedFour_21 rfl (lv_at hl 1 rfl) ?_
  refine r_get cx hw inX11 (ci := 10) rfl 0 rfl 1 (by decide) fl_X11_13 rfl dX11_feedFour_22 ?_
  refine lv_iload_n hx hb dX11_feedFour_25 rfl (lv_at hl 2 rfl) ?_
  refine lv_iload_n hx hb dX11_feedFour_26 rfl (lv_at hl 0 rfl) ?_
  refine lv_iushr hx hb dX11_feedFour_27 rfl ?_
  refine lv_topi (fun v1 ev1 => ?_)
  refine lv_sipush (v := 255) hx hb dX11_feedFour_28 (by decide) ?_
  refine lv_iand hx hb dX11_feedFour_31 ?_
  refine lv_topi (fun v2 ev2 => ?_)
  refine r_iast cx hw 1 rfl (inL (by decide +kernel)) (ws' := [(a0, ob 10 [.ref a1, .int 4, .int (-1), .ref a2, .ref a3, .ref a4, .ref a5, .ref a6, .ref a7, .ref a8, .int 0, .ref a9, .ref a10, .ref a11, .ref a12, .ref a13, .ref a14, .ref a15, .ref a16, .ref a17]), (a1, aI G 800 (upd (g0) 4 v2))]) rfl dX11_feedFour_32 (fun H locs hw => ?_)
  refine lv_aload_n hx hb dX11_feedFour_33 rfl (lv_at hl 1 rfl) ?_
  refine lv_dup hx hb dX11_feedFour_34 rfl ?_
  refine r_get cx hw inX11 (ci := 10) rfl 0 rfl 1 (by decide) fl_X11_13 rfl dX11_feedFour_35 ?_
  refine lv_iconst (v := 1) hx hb dX11_feedFour_38 (by decide) ?_
  refine lv_iadd hx hb dX11_feedFour_39 ?_
  refine r_topi (v := 5) (by decide +kernel) ?_
  refine r_put cx hw inX11 (ci := 10) rfl tyX11_ok nmX11 0 rfl 1 (by decide) fl_X11_13 rfl rfl rfl (Nat.le_of_ble_eq_true rfl) (ws' := [(a0, ob 10 [.ref a1, .int 5, .int (-1), .ref a2, .ref a3, .ref a4, .ref a5, .ref a6, .ref a7, .ref a8, .int 0, .ref a9, .ref a10, .ref a11, .ref a12, .ref a13, .ref a14, .ref a15, .ref a16, .ref a17]), (a1, aI G 800 (upd (g0) 4 v2))]) rfl dX11_feedFour_40 (fun H locs hw => ?_)
  refine lv_iinc (v := 16) (lv' := [(2, .int 16), (0, .ref a0), (1, .int i0)]) hx hb dX11_feedFour_43 hl (k := 0) rfl (by decide +kernel) (by decide) rfl (fun ls hl => ?_)
  refine lv_goto (tgt := 3) hx hb dX11_feedFour_46 (by decide) ?_
  refine lv_iload_n hx hb dX11_feedFour_3 rfl (lv_at hl 0 rfl) ?_
  refine lv_if_lt (tgt := 49) hx hb dX11_feedFour_4 (by decide) (fun c9 => absurd c9 (by decide)) (fun _ => ?_)
  refine lv_aload_n hx hb dX11_feedFour_7 rfl (lv_at hl 1 rfl) ?_
  refine r_get cx hw inX11 (ci := 10) rfl 0 rfl 1 (by decide) fl_X11_13 rfl dX11_feedFour_8 ?_
  refine lv_sipush (v := 800) hx hb dX11_feedFour_11 (by decide) ?_
  refine lv_icmp_ge (tgt := 49) hx hb dX11_feedFour_14 (by decide) (fun c9 => absurd c9 (by decide)) (fun _ => ?_)
  refine lv_aload_n hx hb dX11_feedFour_17 rfl (lv_at hl 1 rfl) ?_
  refine r_get cx hw inX11 (ci := 10) rfl 0 rfl 0 (by decide) fl_X11_9 rfl dX11_feedFour_18 ?_
  refine lv_aload_n hx hb dX11_feedFour_21 rfl (lv_at hl 1 rfl) ?_
  refine r_get cx hw inX11 (ci := 10) rfl 0 rfl 1 (by decide) fl_X11_13 rfl dX11_feedFour_22 ?_
  refine lv_iload_n hx hb dX11_feedFour_25 rfl (lv_at hl 2 rfl) ?_
  refine lv_iload_n hx hb dX11_feedFour_26 rfl (lv_at hl 0 rfl) ?_
  refine lv_iushr hx hb dX11_feedFour_27 rfl ?_
  refine lv_topi (fun v3 ev3 => ?_)
  refine lv_sipush (v := 255) hx hb dX11_feedFour_28 (by decide) ?_
  refine lv_iand hx hb dX11_feedFour_31 ?_
  refine lv_topi (fun v4 ev4 => ?_)
  refine r_iast cx hw 1 rfl (inL (by decide +kernel)) (ws' := [(a0, ob 10 [.ref a1, .int 5, .int (-1), .ref a2, .ref a3, .ref a4, .ref a5, .ref a6, .ref a7, .ref a8, .int 0, .ref a9, .ref a10, .ref a11, .ref a12, .ref a13, .ref a14, .ref a15, .ref a16, .ref a17]), (a1, aI G 800 (upd (upd (g0) 4 v2) 5 v4))]) rfl dX11_feedFour_32 (fun H locs hw => ?_)
  refine lv_aload_n hx hb dX11_feedFour_33 rfl (lv_at hl 1 rfl) ?_
  refine lv_dup hx hb dX11_feedFour_34 rfl ?_
  refine r_get cx hw inX11 (ci := 10) rfl 0 rfl 1 (by decide) fl_X11_13 rfl dX11_feedFour_35 ?_
  refine lv_iconst (v := 1) hx hb dX11_feedFour_38 (by decide) ?_
  refine lv_iadd hx hb dX11_feedFour_39 ?_
  refine r_topi (v := 6) (by decide +kernel) ?_
  refine r_put cx hw inX11 (ci := 10) rfl tyX11_ok nmX11 0 rfl 1 (by decide) fl_X11_13 rfl rfl rfl (Nat.le_of_ble_eq_true rfl) (ws' := [(a0, ob 10 [.ref a1, .int 6, .int (-1), .ref a2, .ref a3, .ref a4, .ref a5, .ref a6, .ref a7, .ref a8, .int 0, .ref a9, .ref a10, .ref a11, .ref a12, .ref a13, .ref a14, .ref a15, .ref a16, .ref a17]), (a1, aI G 800 (upd (upd (g0) 4 v2) 5 v4))]) rfl dX11_feedFour_40 (fun H locs hw => ?_)
  refine lv_iinc (v := 8) (lv' := [(2, .int 8), (0, .ref a0), (1, .int i0)]) hx hb dX11_feedFour_43 hl (k := 0) rfl (by decide +kernel) (by decide) rfl (fun ls hl => ?_)
  refine lv_goto (tgt := 3) hx hb dX11_feedFour_46 (by decide) ?_
  refine lv_iload_n hx hb dX11_feedFour_3 rfl (lv_at hl 0 rfl) ?_
  refine lv_if_lt (tgt := 49) hx hb dX11_feedFour_4 (by decide) (fun c9 => absurd c9 (by decide)) (fun _ => ?_)
  refine lv_aload_n hx hb dX11_feedFour_7 rfl (lv_at hl 1 rfl) ?_
  refine r_get cx hw inX11 (ci := 10) rfl 0 rfl 1 (by decide) fl_X11_13 rfl dX11_feedFour_8 ?_
  refine lv_sipush (v := 800) hx hb dX11_feedFour_11 (by decide) ?_
  refine lv_icmp_ge (tgt := 49) hx hb dX11_feedFour_14 (by decide) (fun c9 => absurd c9 (by decide)) (fun _ => ?_)
  refine lv_aload_n hx hb dX11_feedFour_17 rfl (lv_at hl 1 rfl) ?_
  refine r_get cx hw inX11 (ci := 10) rfl 0 rfl 0 (by decide) fl_X11_9 rfl dX11_feedFour_18 ?_
  refine lv_aload_n hx hb dX11_feedFour_21 rfl (lv_at hl 1 rfl) ?_
  refine r_get cx hw inX11 (ci := 10) rfl 0 rfl 1 (by decide) fl_X11_13 rfl dX11_feedFour_22 ?_
  refine lv_iload_n hx hb dX11_feedFour_25 rfl (lv_at hl 2 rfl) ?_
  refine lv_iload_n hx hb dX11_feedFour_26 rfl (lv_at hl 0 rfl) ?_
  refine lv_iushr hx hb dX11_feedFour_27 rfl ?_
  refine lv_topi (fun v5 ev5 => ?_)
  refine lv_sipush (v := 255) hx hb dX11_feedFour_28 (by decide) ?_
  refine lv_iand hx hb dX11_feedFour_31 ?_
  refine lv_topi (fun v6 ev6 => ?_)
  refine r_iast cx hw 1 rfl (inL (by decide +kernel)) (ws' := [(a0, ob 10 [.ref a1, .int 6, .int (-1), .ref a2, .ref a3, .ref a4, .ref a5, .ref a6, .ref a7, .ref a8, .int 0, .ref a9, .ref a10, .ref a11, .ref a12, .ref a13, .ref a14, .ref a15, .ref a16, .ref a17]), (a1, aI G 800 (upd (upd (upd (g0) 4 v2) 5 v4) 6 v6))]) rfl dX11_feedFour_32 (fun H locs hw => ?_)
  refine lv_aload_n hx hb dX11_feedFour_33 rfl (lv_at hl 1 rfl) ?_
  refine lv_dup hx hb dX11_feedFour_34 rfl ?_
  refine r_get cx hw inX11 (ci := 10) rfl 0 rfl 1 (by decide) fl_X11_13 rfl dX11_feedFour_35 ?_
  refine lv_iconst (v := 1) hx hb dX11_feedFour_38 (by decide) ?_
  refine lv_iadd hx hb dX11_feedFour_39 ?_
  refine r_topi (v := 7) (by decide +kernel) ?_
  refine r_put cx hw inX11 (ci := 10) rfl tyX11_ok nmX11 0 rfl 1 (by decide) fl_X11_13 rfl rfl rfl (Nat.le_of_ble_eq_true rfl) (ws' := [(a0, ob 10 [.ref a1, .int 7, .int (-1), .ref a2, .ref a3, .ref a4, .ref a5, .ref a6, .ref a7, .ref a8, .int 0, .ref a9, .ref a10, .ref a11, .ref a12, .ref a13, .ref a14, .ref a15, .ref a16, .ref a17]), (a1, aI G 800 (upd (upd (upd (g0) 4 v2) 5 v4) 6 v6))]) rfl dX11_feedFour_40 (fun H locs hw => ?_)
  refine lv_iinc (v := 0) (lv' := [(2, .int 0), (0, .ref a0), (1, .int i0)]) hx hb dX11_feedFour_43 hl (k := 0) rfl (by decide +kernel) (by decide) rfl (fun ls hl => ?_)
  refine lv_goto (tgt := 3) hx hb dX11_feedFour_46 (by decide) ?_
  refine lv_iload_n hx hb dX11_feedFour_3 rfl (lv_at hl 0 rfl) ?_
  refine lv_if_lt (tgt := 49) hx hb dX11_feedFour_4 (by decide) (fun c9 => absurd c9 (by decide)) (fun _ => ?_)
  refine lv_aload_n hx hb dX11_feedFour_7 rfl (lv_at hl 1 rfl) ?_
  refine r_get cx hw inX11 (ci := 10) rfl 0 rfl 1 (by decide) fl_X11_13 rfl dX11_feedFour_8 ?_
  refine lv_sipush (v := 800) hx hb dX11_feedFour_11 (by decide) ?_
  refine lv_icmp_ge (tgt := 49) hx hb dX11_feedFour_14 (by decide) (fun c9 => absurd c9 (by decide)) (fun _ => ?_)
  refine lv_aload_n hx hb dX11_feedFour_17 rfl (lv_at hl 1 rfl) ?_
  refine r_get cx hw inX11 (ci := 10) rfl 0 rfl 0 (by decide) fl_X11_9 rfl dX11_feedFour_18 ?_
  refine lv_aload_n hx hb dX11_feedFour_21 rfl (lv_at hl 1 rfl) ?_
  refine r_get cx hw inX11 (ci := 10) rfl 0 rfl 1 (by decide) fl_X11_13 rfl dX11_feedFour_22 ?_
  refine lv_iload_n hx hb dX11_feedFour_25 rfl (lv_at hl 2 rfl) ?_
  refine lv_iload_n hx hb dX11_feedFour_26 rfl (lv_at hl 0 rfl) ?_
  refine lv_iushr hx hb dX11_feedFour_27 rfl ?_
  refine lv_topi (fun v7 ev7 => ?_)
  refine lv_sipush (v := 255) hx hb dX11_feedFour_28 (by decide) ?_
  refine lv_iand hx hb dX11_feedFour_31 ?_
  refine lv_topi (fun v8 ev8 => ?_)
  refine r_iast cx hw 1 rfl (inL (by decide +kernel)) (ws' := [(a0, ob 10 [.ref a1, .int 7, .int (-1), .ref a2, .ref a3, .ref a4, .ref a5, .ref a6, .ref a7, .ref a8, .int 0, .ref a9, .ref a10, .ref a11, .ref a12, .ref a13, .ref a14, .ref a15, .ref a16, .ref a17]), (a1, aI G 800 (upd (upd (upd (upd (g0) 4 v2) 5 v4) 6 v6) 7 v8))]) rfl dX11_feedFour_32 (fun H locs hw => ?_)
  refine lv_aload_n hx hb dX11_feedFour_33 rfl (lv_at hl 1 rfl) ?_
  refine lv_dup hx hb dX11_feedFour_34 rfl ?_
  refine r_get cx hw inX11 (ci := 10) rfl 0 rfl 1 (by decide) fl_X11_13 rfl dX11_feedFour_35 ?_
  refine lv_iconst (v := 1) hx hb dX11_feedFour_38 (by decide) ?_
  refine lv_iadd hx hb dX11_feedFour_39 ?_
  refine r_topi (v := 8) (by decide +kernel) ?_
  refine r_put cx hw inX11 (ci := 10) rfl tyX11_ok nmX11 0 rfl 1 (by decide) fl_X11_13 rfl rfl rfl (Nat.le_of_ble_eq_true rfl) (ws' := [(a0, ob 10 [.ref a1, .int 8, .int (-1), .ref a2, .ref a3, .ref a4, .ref a5, .ref a6, .ref a7, .ref a8, .int 0, .ref a9, .ref a10, .ref a11, .ref a12, .ref a13, .ref a14, .ref a15, .ref a16, .ref a17]), (a1, aI G 800 (upd (upd (upd (upd (g0) 4 v2) 5 v4) 6 v6) 7 v8))]) rfl dX11_feedFour_40 (fun H locs hw => ?_)
  refine lv_iinc (v := (-8)) (lv' := [(2, .int (-8)), (0, .ref a0), (1, .int i0)]) hx hb dX11_feedFour_43 hl (k := 0) rfl (by decide +kernel) (by decide) rfl (fun ls hl => ?_)
  refine lv_goto (tgt := 3) hx hb dX11_feedFour_46 (by decide) ?_
  refine lv_iload_n hx hb dX11_feedFour_3 rfl (lv_at hl 0 rfl) ?_
  refine lv_if_lt (tgt := 49) hx hb dX11_feedFour_4 (by decide) (fun _ => ?_) (fun c9 => absurd (by decide) c9)
  have hw : Wd G A [(a0, ob 10 [.ref a1, .int 8, .int (-1), .ref a2, .ref a3, .ref a4, .ref a5, .ref a6, .ref a7, .ref a8, .int 0, .ref a9, .ref a10, .ref a11, .ref a12, .ref a13, .ref a14, .ref a15, .ref a16, .ref a17]), (a1, aI G 800 (upd (upd (upd (upd (g0) 4 v2) 5 v4) 6 v6) 7 v8))] s.heap _ _ := hw.sub [0, 1] rfl rfl
  exact r_vret cx hr hlk (upd (upd (upd (upd (g0) 4 v2) 5 v4) 6 v6) 7 v8) trivial hw (Nat.le_of_ble_eq_true rfl) (Nat.le_of_ble_eq_true rfl) dX11_feedFour_49

set_option maxHeartbeats 4000000 in
set_option maxRecDepth 100000 in
theorem a_X11_feedFour_4 (l : Launch) (G : Gt) (a0 : Nat) (i0 : Int32) (a1 : Nat) (a2 : Nat) (a3 : Nat) (a4 : Nat) (a5 : Nat) (a6 : Nat) (a7 : Nat) (a8 : Nat) (a9 : Nat) (a10 : Nat) (a11 : Nat) (a12 : Nat) (a13 : Nat) (a14 : Nat) (a15 : Nat) (a16 : Nat) (a17 : Nat) (g0 : Nat → Int32) : Mt l yX11_feedFour cX11_feedFour 3 none ({ frames := 0, cells := 0, slots := 0, locals := 0 } : Room) G [.ref a0, .int i0] [(a0, ob 10 [.ref a1, .int 8, .int (-1), .ref a2, .ref a3, .ref a4, .ref a5, .ref a6, .ref a7, .ref a8, .int 0, .ref a9, .ref a10, .ref a11, .ref a12, .ref a13, .ref a14, .ref a15, .ref a16, .ref a17]), (a1, aI G 800 (g0))] (qV G (fun (w : Nat → Int32) => True) (fun w => [(a0, ob 10 [.ref a1, .int 12, .int (-1), .ref a2, .ref a3, .ref a4, .ref a5, .ref a6, .ref a7, .ref a8, .int 0, .ref a9, .ref a10, .ref a11, .ref a12, .ref a13, .ref a14, .ref a15, .ref a16, .ref a17]), (a1, aI G 800 (w))])) := by
  refine Mt.of (own := RX11) (cc := cX11_feedFour) (by decide) rfl (Nat.le_of_ble_eq_true rfl) ?_
  intro p e s m below meth c A ls cx hr hlk hmn hA hl hw
  have hx := cx.1
  have hb := cx.2.1
  have hl : lv_has ls 3 [(0, .ref a0), (1, .int i0)] := hl
  refine lv_bipush (v := 24) hx hb dX11_feedFour_0 (by decide) ?_
  refine lv_istore_n (lv' := [(2, .int 24), (0, .ref a0), (1, .int i0)]) hx hb dX11_feedFour_2 rfl hl (by decide) rfl (fun ls hl => ?_)
  refine lv_iload_n hx hb dX11_feedFour_3 rfl (lv_at hl 0 rfl) ?_
  refine lv_if_lt (tgt := 49) hx hb dX11_feedFour_4 (by decide) (fun c9 => absurd c9 (by decide)) (fun _ => ?_)
  refine lv_aload_n hx hb dX11_feedFour_7 rfl (lv_at hl 1 rfl) ?_
  refine r_get cx hw inX11 (ci := 10) rfl 0 rfl 1 (by decide) fl_X11_13 rfl dX11_feedFour_8 ?_
  refine lv_sipush (v := 800) hx hb dX11_feedFour_11 (by decide) ?_
  refine lv_icmp_ge (tgt := 49) hx hb dX11_feedFour_14 (by decide) (fun c9 => absurd c9 (by decide)) (fun _ => ?_)
  refine lv_aload_n hx hb dX11_feedFour_17 rfl (lv_at hl 1 rfl) ?_
  refine r_get cx hw inX11 (ci := 10) rfl 0 rfl 0 (by decide) fl_X11_9 rfl dX11_feedFour_18 ?_
  refine lv_aload_n hx hb dX11_feedFour_21 rfl (lv_at hl 1 rfl) ?_
  refine r_get cx hw inX11 (ci := 10) rfl 0 rfl 1 (by decide) fl_X11_13 rfl dX11_feedFour_22 ?_
  refine lv_iload_n hx hb dX11_feedFour_25 rfl (lv_at hl 2 rfl) ?_
  refine lv_iload_n hx hb dX11_feedFour_26 rfl (lv_at hl 0 rfl) ?_
  refine lv_iushr hx hb dX11_feedFour_27 rfl ?_
  refine lv_topi (fun v1 ev1 => ?_)
  refine lv_sipush (v := 255) hx hb dX11_feedFour_28 (by decide) ?_
  refine lv_iand hx hb dX11_feedFour_31 ?_
  refine lv_topi (fun v2 ev2 => ?_)
  refine r_iast cx hw 1 rfl (inL (by decide +kernel)) (ws' := [(a0, ob 10 [.ref a1, .int 8, .int (-1), .ref a2, .ref a3, .ref a4, .ref a5, .ref a6, .ref a7, .ref a8, .int 0, .ref a9, .ref a10, .ref a11, .ref a12, .ref a13, .ref a14, .ref a15, .ref a16, .ref a17]), (a1, aI G 800 (upd (g0) 8 v2))]) rfl dX11_feedFour_32 (fun H locs hw => ?_)
  refine lv_aload_n hx hb dX11_feedFour_33 rfl (lv_at hl 1 rfl) ?_
  refine lv_dup hx hb dX11_feedFour_34 rfl ?_
  refine r_get cx hw inX11 (ci := 10) rfl 0 rfl 1 (by decide) fl_X11_13 rfl dX11_feedFour_35 ?_
  refine lv_iconst (v := 1) hx hb dX11_feedFour_38 (by decide) ?_
  refine lv_iadd hx hb dX11_feedFour_39 ?_
  refine r_topi (v := 9) (by decide +kernel) ?_
  refine r_put cx hw inX11 (ci := 10) rfl tyX11_ok nmX11 0 rfl 1 (by decide) fl_X11_13 rfl rfl rfl (Nat.le_of_ble_eq_true rfl) (ws' := [(a0, ob 10 [.ref a1, .int 9, .int (-1), .ref a2, .ref a3, .ref a4, .ref a5, .ref a6, .ref a7, .ref a8, .int 0, .ref a9, .ref a10, .ref a11, .ref a12, .ref a13, .ref a14, .ref a15, .ref a16, .ref a17]), (a1, aI G 800 (upd (g0) 8 v2))]) rfl dX11_feedFour_40 (fun H locs hw => ?_)
  refine lv_iinc (v := 16) (lv' := [(2, .int 16), (0, .ref a0), (1, .int i0)]) hx hb dX11_feedFour_43 hl (k := 0) rfl (by decide +kernel) (by decide) rfl (fun ls hl => ?_)
  refine lv_goto (tgt := 3) hx hb dX11_feedFour_46 (by decide) ?_
  refine lv_iload_n hx hb dX11_feedFour_3 rfl (lv_at hl 0 rfl) ?_
  refine lv_if_lt (tgt := 49) hx hb dX11_feedFour_4 (by decide) (fun c9 => absurd c9 (by decide)) (fun _ => ?_)
  refine lv_aload_n hx hb dX11_feedFour_7 rfl (lv_at hl 1 rfl) ?_
  refine r_get cx hw inX11 (ci := 10) rfl 0 rfl 1 (by decide) fl_X11_13 rfl dX11_feedFour_8 ?_
  refine lv_sipush (v := 800) hx hb dX11_feedFour_11 (by decide) ?_
  refine lv_icmp_ge (tgt := 49) hx hb dX11_feedFour_14 (by decide) (fun c9 => absurd c9 (by decide)) (fun _ => ?_)
  refine lv_aload_n hx hb dX11_feedFour_17 rfl (lv_at hl 1 rfl) ?_
  refine r_get cx hw inX11 (ci := 10) rfl 0 rfl 0 (by decide) fl_X11_9 rfl dX11_feedFour_18 ?_
  refine lv_aload_n hx hb dX11_feedFour_21 rfl (lv_at hl 1 rfl) ?_
  refine r_get cx hw inX11 (ci := 10) rfl 0 rfl 1 (by decide) fl_X11_13 rfl dX11_feedFour_22 ?_
  refine lv_iload_n hx hb dX11_feedFour_25 rfl (lv_at hl 2 rfl) ?_
  refine lv_iload_n hx hb dX11_feedFour_26 rfl (lv_at hl 0 rfl) ?_
  refine lv_iushr hx hb dX11_feedFour_27 rfl ?_
  refine lv_topi (fun v3 ev3 => ?_)
  refine lv_sipush (v := 255) hx hb dX11_feedFour_28 (by decide) ?_
  refine lv_iand hx hb dX11_feedFour_31 ?_
  refine lv_topi (fun v4 ev4 => ?_)
  refine r_iast cx hw 1 rfl (inL (by decide +kernel)) (ws' := [(a0, ob 10 [.ref a1, .int 9, .int (-1), .ref a2, .ref a3, .ref a4, .ref a5, .ref a6, .ref a7, .ref a8, .int 0, .ref a9, .ref a10, .ref a11, .ref a12, .ref a13, .ref a14, .ref a15, .ref a16, .ref a17]), (a1, aI G 800 (upd (upd (g0) 8 v2) 9 v4))]) rfl dX11_feedFour_32 (fun H locs hw => ?_)
  refine lv_aload_n hx hb dX11_feedFour_33 rfl (lv_at hl 1 rfl) ?_
  refine lv_dup hx hb dX11_feedFour_34 rfl ?_
  refine r_get cx hw inX11 (ci := 10) rfl 0 rfl 1 (by decide) fl_X11_13 rfl dX11_feedFour_35 ?_
  refine lv_iconst (v := 1) hx hb dX11_feedFour_38 (by decide) ?_
  refine lv_iadd hx hb dX11_feedFour_39 ?_
  refine r_topi (v := 10) (by decide +kernel) ?_
  refine r_put cx hw inX11 (ci := 10) rfl tyX11_ok nmX11 0 rfl 1 (by decide) fl_X11_13 rfl rfl rfl (Nat.le_of_ble_eq_true rfl) (ws' := [(a0, ob 10 [.ref a1, .int 10, .int (-1), .ref a2, .ref a3, .ref a4, .ref a5, .ref a6, .ref a7, .ref a8, .int 0, .ref a9, .ref a10, .ref a11, .ref a12, .ref a13, .ref a14, .ref a15, .ref a16, .ref a17]), (a1, aI G 800 (upd (upd (g0) 8 v2) 9 v4))]) rfl dX11_feedFour_40 (fun H locs hw => ?_)
  refine lv_iinc (v := 8) (lv' := [(2, .int 8), (0, .ref a0), (1, .int i0)]) hx hb dX11_feedFour_43 hl (k := 0) rfl (by decide +kernel) (by decide) rfl (fun ls hl => ?_)
  refine lv_goto (tgt := 3) hx hb dX11_feedFour_46 (by decide) ?_
  refine lv_iload_n hx hb dX11_feedFour_3 rfl (lv_at hl 0 rfl) ?_
  refine lv_if_lt (tgt := 49) hx hb dX11_feedFour_4 (by decide) (fun c9 => absurd c9 (by decide)) (fun _ => ?_)
  refine lv_aload_n hx hb dX11_feedFour_7 rfl (lv_at hl 1 rfl) ?_
  refine r_get cx hw inX11 (ci := 10) rfl 0 rfl 1 (by decide) fl_X11_13 rfl dX11_feedFour_8 ?_
  refine lv_sipush (v := 800) hx hb dX11_feedFour_11 (by decide) ?_
  refine lv_icmp_ge (tgt := 49) hx hb dX11_feedFour_14 (by decide) (fun c9 => absurd c9 (by decide)) (fun _ => ?_)
  refine lv_aload_n hx hb dX11_feedFour_17 rfl (lv_at hl 1 rfl) ?_
  refine r_get cx hw inX11 (ci := 10) rfl 0 rfl 0 (by decide) fl_X11_9 rfl dX11_feedFour_18 ?_
  refine lv_aload_n hx hb dX11_feedFour_21 rfl (lv_at hl 1 rfl) ?_
  refine r_get cx hw inX11 (ci := 10) rfl 0 rfl 1 (by decide) fl_X11_13 rfl dX11_feedFour_22 ?_
  refine lv_iload_n hx hb dX11_feedFour_25 rfl (lv_at hl 2 rfl) ?_
  refine lv_iload_n hx hb dX11_feedFour_26 rfl (lv_at hl 0 rfl) ?_
  refine lv_iushr hx hb dX11_feedFour_27 rfl ?_
  refine lv_topi (fun v5 ev5 => ?_)
  refine lv_sipush (v := 255) hx hb dX11_feedFour_28 (by decide) ?_
  refine lv_iand hx hb dX11_feedFour_31 ?_
  refine lv_topi (fun v6 ev6 => ?_)
  refine r_iast cx hw 1 rfl (inL (by decide +kernel)) (ws' := [(a0, ob 10 [.ref a1, .int 10, .int (-1), .ref a2, .ref a3, .ref a4, .ref a5, .ref a6, .ref a7, .ref a8, .int 0, .ref a9, .ref a10, .ref a11, .ref a12, .ref a13, .ref a14, .ref a15, .ref a16, .ref a17]), (a1, aI G 800 (upd (upd (upd (g0) 8 v2) 9 v4) 10 v6))]) rfl dX11_feedFour_32 (fun H locs hw => ?_)
  refine lv_aload_n hx hb dX11_feedFour_33 rfl (lv_at hl 1 rfl) ?_
  refine lv_dup hx hb dX11_feedFour_34 rfl ?_
  refine r_get cx hw inX11 (ci := 10) rfl 0 rfl 1 (by decide) fl_X11_13 rfl dX11_feedFour_35 ?_
  refine lv_iconst (v := 1) hx hb dX11_feedFour_38 (by decide) ?_
  refine lv_iadd hx hb dX11_feedFour_39 ?_
  refine r_topi (v := 11) (by decide +kernel) ?_
  refine r_put cx hw inX11 (ci := 10) rfl tyX11_ok nmX11 0 rfl 1 (by decide) fl_X11_13 rfl rfl rfl (Nat.le_of_ble_eq_true rfl) (ws' := [(a0, ob 10 [.ref a1, .int 11, .int (-1), .ref a2, .ref a3, .ref a4, .ref a5, .ref a6, .ref a7, .ref a8, .int 0, .ref a9, .ref a10, .ref a11, .ref a12, .ref a13, .ref a14, .ref a15, .ref a16, .ref a17]), (a1, aI G 800 (upd (upd (upd (g0) 8 v2) 9 v4) 10 v6))]) rfl dX11_feedFour_40 (fun H locs hw => ?_)
  refine lv_iinc (v := 0) (lv' := [(2, .int 0), (0, .ref a0), (1, .int i0)]) hx hb dX11_feedFour_43 hl (k := 0) rfl (by decide +kernel) (by decide) rfl (fun ls hl => ?_)
  refine lv_goto (tgt := 3) hx hb dX11_feedFour_46 (by decide) ?_
  refine lv_iload_n hx hb dX11_feedFour_3 rfl (lv_at hl 0 rfl) ?_
  refine lv_if_lt (tgt := 49) hx hb dX11_feedFour_4 (by decide) (fun c9 => absurd c9 (by decide)) (fun _ => ?_)
  refine lv_aload_n hx hb dX11_feedFour_7 rfl (lv_at hl 1 rfl) ?_
  refine r_get cx hw inX11 (ci := 10) rfl 0 rfl 1 (by decide) fl_X11_13 rfl dX11_feedFour_8 ?_
  refine lv_sipush (v := 800) hx hb dX11_feedFour_11 (by decide) ?_
  refine lv_icmp_ge (tgt := 49) hx hb dX11_feedFour_14 (by decide) (fun c9 => absurd c9 (by decide)) (fun _ => ?_)
  refine lv_aload_n hx hb dX11_feedFour_17 rfl (lv_at hl 1 rfl) ?_
  refine r_get cx hw inX11 (ci := 10) rfl 0 rfl 0 (by decide) fl_X11_9 rfl dX11_feedFour_18 ?_
  refine lv_aload_n hx hb dX11_feedFour_21 rfl (lv_at hl 1 rfl) ?_
  refine r_get cx hw inX11 (ci := 10) rfl 0 rfl 1 (by decide) fl_X11_13 rfl dX11_feedFour_22 ?_
  refine lv_iload_n hx hb dX11_feedFour_25 rfl (lv_at hl 2 rfl) ?_
  refine lv_iload_n hx hb dX11_feedFour_26 rfl (lv_at hl 0 rfl) ?_
  refine lv_iushr hx hb dX11_feedFour_27 rfl ?_
  refine lv_topi (fun v7 ev7 => ?_)
  refine lv_sipush (v := 255) hx hb dX11_feedFour_28 (by decide) ?_
  refine lv_iand hx hb dX11_feedFour_31 ?_
  refine lv_topi (fun v8 ev8 => ?_)
  refine r_iast cx hw 1 rfl (inL (by decide +kernel)) (ws' := [(a0, ob 10 [.ref a1, .int 11, .int (-1), .ref a2, .ref a3, .ref a4, .ref a5, .ref a6, .ref a7, .ref a8, .int 0, .ref a9, .ref a10, .ref a11, .ref a12, .ref a13, .ref a14, .ref a15, .ref a16, .ref a17]), (a1, aI G 800 (upd (upd (upd (upd (g0) 8 v2) 9 v4) 10 v6) 11 v8))]) rfl dX11_feedFour_32 (fun H locs hw => ?_)
  refine lv_aload_n hx hb dX11_feedFour_33 rfl (lv_at hl 1 rfl) ?_
  refine lv_dup hx hb dX11_feedFour_34 rfl ?_
  refine r_get cx hw inX11 (ci := 10) rfl 0 rfl 1 (by decide) fl_X11_13 rfl dX11_feedFour_35 ?_
  refine lv_iconst (v := 1) hx hb dX11_feedFour_38 (by decide) ?_
  refine lv_iadd hx hb dX11_feedFour_39 ?_
  refine r_topi (v := 12) (by decide +kernel) ?_
  refine r_put cx hw inX11 (ci := 10) rfl tyX11_ok nmX11 0 rfl 1 (by decide) fl_X11_13 rfl rfl rfl (Nat.le_of_ble_eq_true rfl) (ws' := [(a0, ob 10 [.ref a1, .int 12, .int (-1), .ref a2, .ref a3, .ref a4, .ref a5, .ref a6, .ref a7, .ref a8, .int 0, .ref a9, .ref a10, .ref a11, .ref a12, .ref a13, .ref a14, .ref a15, .ref a16, .ref a17]), (a1, aI G 800 (upd (upd (upd (upd (g0) 8 v2) 9 v4) 10 v6) 11 v8))]) rfl dX11_feedFour_40 (fun H locs hw => ?_)
  refine lv_iinc (v := (-8)) (lv' := [(2, .int (-8)), (0, .ref a0), (1, .int i0)]) hx hb dX11_feedFour_43 hl (k := 0) rfl (by decide +kernel) (by decide) rfl (fun ls hl => ?_)
  refine lv_goto (tgt := 3) hx hb dX11_feedFour_46 (by decide) ?_
  refine lv_iload_n hx hb dX11_feedFour_3 rfl (lv_at hl 0 rfl) ?_
  refine lv_if_lt (tgt := 49) hx hb dX11_feedFour_4 (by decide) (fun _ => ?_) (fun c9 => absurd (by decide) c9)
  have hw : Wd G A [(a0, ob 10 [.ref a1, .int 12, .int (-1), .ref a2, .ref a3, .ref a4, .ref a5, .ref a6, .ref a7, .ref a8, .int 0, .ref a9, .ref a10, .ref a11, .ref a12, .ref a13, .ref a14, .ref a15, .ref a16, .ref a17]), (a1, aI G 800 (upd (upd (upd (upd (g0) 8 v2) 9 v4) 10 v6) 11 v8))] s.heap _ _ := hw.sub [0, 1] rfl rfl
  exact r_vret cx hr hlk (upd (upd (upd (upd (g0) 8 v2) 9 v4) 10 v6) 11 v8) trivial hw (Nat.le_of_ble_eq_true rfl) (Nat.le_of_ble_eq_true rfl) dX11_feedFour_49

set_option maxHeartbeats 4000000 in
set_option maxRecDepth 100000 in
theorem a_X11_feedFour_5 (l : Launch) (G : Gt) (a0 : Nat) (i0 : Int32) (a1 : Nat) (a2 : Nat) (a3 : Nat) (a4 : Nat) (a5 : Nat) (a6 : Nat) (a7 : Nat) (a8 : Nat) (a9 : Nat) (a10 : Nat) (a11 : Nat) (a12 : Nat) (a13 : Nat) (a14 : Nat) (a15 : Nat) (a16 : Nat) (a17 : Nat) (g0 : Nat → Int32) : Mt l yX11_feedFour cX11_feedFour 3 none ({ frames := 0, cells := 0, slots := 0, locals := 0 } : Room) G [.ref a0, .int i0] [(a0, ob 10 [.ref a1, .int 12, .int (-1), .ref a2, .ref a3, .ref a4, .ref a5, .ref a6, .ref a7, .ref a8, .int 0, .ref a9, .ref a10, .ref a11, .ref a12, .ref a13, .ref a14, .ref a15, .ref a16, .ref a17]), (a1, aI G 800 (g0))] (qV G (fun (w : Nat → Int32) => True) (fun w => [(a0, ob 10 [.ref a1, .int 16, .int (-1), .ref a2, .ref a3, .ref a4, .ref a5, .ref a6, .ref a7, .ref a8, .int 0, .ref a9, .ref a10, .ref a11, .ref a12, .ref a13, .ref a14, .ref a15, .ref a16, .ref a17]), (a1, aI G 800 (w))])) := by
  refine Mt.of (own := RX11) (cc := cX11_feedFour) (by decide) rfl (Nat.le_of_ble_eq_true rfl) ?_
  intro p e s m below meth c A ls cx hr hlk hmn hA hl hw
  have hx := cx.1
  have hb := cx.2.1
  have hl : lv_has ls 3 [(0, .ref a0), (1, .int i0)] := hl
  refine lv_bipush (v := 24) hx hb dX11_feedFour_0 (by decide) ?_
  refine lv_istore_n (lv' := [(2, .int 24), (0, .ref a0), (1, .int i0)]) hx hb dX11_feedFour_2 rfl hl (by decide) rfl (fun ls hl => ?_)
  refine lv_iload_n hx hb dX11_feedFour_3 rfl (lv_at hl 0 rfl) ?_
  refine lv_if_lt (tgt := 49) hx hb dX11_feedFour_4 (by decide) (fun c9 => absurd c9 (by decide)) (fun _ => ?_)
  refine lv_aload_n hx hb dX11_feedFour_7 rfl (lv_at hl 1 rfl) ?_
  refine r_get cx hw inX11 (ci := 10) rfl 0 rfl 1 (by decide) fl_X11_13 rfl dX11_feedFour_8 ?_
  refine lv_sipush (v := 800) hx hb dX11_feedFour_11 (by decide) ?_
  refine lv_icmp_ge (tgt := 49) hx hb dX11_feedFour_14 (by decide) (fun c9 => absurd c9 (by decide)) (fun _ => ?_)
  refine lv_aload_n hx hb dX11_feedFour_17 rfl (lv_at hl 1 rfl) ?_
  refine r_get cx hw inX11 (ci := 10) rfl 0 rfl 0 (by decide) fl_X11_9 rfl dX11_feedFour_18 ?_
  refine lv_aload_n hx hb dX11_feedFour_21 rfl (lv_at hl 1 rfl) ?_
  refine r_get cx hw inX11 (ci := 10) rfl 0 rfl 1 (by decide) fl_X11_13 rfl dX11_feedFour_22 ?_
  refine lv_iload_n hx hb dX11_feedFour_25 rfl (lv_at hl 2 rfl) ?_
  refine lv_iload_n hx hb dX11_feedFour_26 rfl (lv_at hl 0 rfl) ?_
  refine lv_iushr hx hb dX11_feedFour_27 rfl ?_
  refine lv_topi (fun v1 ev1 => ?_)
  refine lv_sipush (v := 255) hx hb dX11_feedFour_28 (by decide) ?_
  refine lv_iand hx hb dX11_feedFour_31 ?_
  refine lv_topi (fun v2 ev2 => ?_)
  refine r_iast cx hw 1 rfl (inL (by decide +kernel)) (ws' := [(a0, ob 10 [.ref a1, .int 12, .int (-1), .ref a2, .ref a3, .ref a4, .ref a5, .ref a6, .ref a7, .ref a8, .int 0, .ref a9, .ref a10, .ref a11, .ref a12, .ref a13, .ref a14, .ref a15, .ref a16, .ref a17]), (a1, aI G 800 (upd (g0) 12 v2))]) rfl dX11_feedFour_32 (fun H locs hw => ?_)
  refine lv_aload_n hx hb dX11_feedFour_33 rfl (lv_at hl 1 rfl) ?_
  refine lv_dup hx hb dX11_feedFour_34 rfl ?_
  refine r_get cx hw inX11 (ci := 10) rfl 0 rfl 1 (by decide) fl_X11_13 rfl dX11_feedFour_35 ?_
  refine lv_iconst (v := 1) hx hb dX11_feedFour_38 (by decide) ?_
  refine lv_iadd hx hb dX11_feedFour_39 ?_
  refine r_topi (v := 13) (by decide +kernel) ?_
  refine r_put cx hw inX11 (ci := 10) rfl tyX11_ok nmX11 0 rfl 1 (by decide) fl_X11_13 rfl rfl rfl (Nat.le_of_ble_eq_true rfl) (ws' := [(a0, ob 10 [.ref a1, .int 13, .int (-1), .ref a2, .ref a3, .ref a4, .ref a5, .ref a6, .ref a7, .ref a8, .int 0, .ref a9, .ref a10, .ref a11, .ref a12, .ref a13, .ref a14, .ref a15, .ref a16, .ref a17]), (a1, aI G 800 (upd (g0) 12 v2))]) rfl dX11_feedFour_40 (fun H locs hw => ?_)
  refine lv_iinc (v := 16) (lv' := [(2, .int 16), (0, .ref a0), (1, .int i0)]) hx hb dX11_feedFour_43 hl (k := 0) rfl (by decide +kernel) (by decide) rfl (fun ls hl => ?_)
  refine lv_goto (tgt := 3) hx hb dX11_feedFour_46 (by decide) ?_
  refine lv_iload_n hx hb dX11_feedFour_3 rfl (lv_at hl 0 rfl) ?_
  refine lv_if_lt (tgt := 49) hx hb dX11_feedFour_4 (by decide) (fun c9 => absurd c9 (by decide)) (fun _ => ?_)
  refine lv_aload_n hx hb dX11_feedFour_7 rfl (lv_at hl 1 rfl) ?_
  refine r_get cx hw inX11 (ci := 10) rfl 0 rfl 1 (by decide) fl_X11_13 rfl dX11_feedFour_8 ?_
  refine lv_sipush (v := 800) hx hb dX11_feedFour_11 (by decide) ?_
  refine lv_icmp_ge (tgt := 49) hx hb dX11_feedFour_14 (by decide) (fun c9 => absurd c9 (by decide)) (fun _ => ?_)
  refine lv_aload_n hx hb dX11_feedFour_17 rfl (lv_at hl 1 rfl) ?_
  refine r_get cx hw inX11 (ci := 10) rfl 0 rfl 0 (by decide) fl_X11_9 rfl dX11_feedFour_18 ?_
  refine lv_aload_n hx hb dX11_feedFour_21 rfl (lv_at hl 1 rfl) ?_
  refine r_get cx hw inX11 (ci := 10) rfl 0 rfl 1 (by decide) fl_X11_13 rfl dX11_feedFour_22 ?_
  refine lv_iload_n hx hb dX11_feedFour_25 rfl (lv_at hl 2 rfl) ?_
  refine lv_iload_n hx hb dX11_feedFour_26 rfl (lv_at hl 0 rfl) ?_
  refine lv_iushr hx hb dX11_feedFour_27 rfl ?_
  refine lv_topi (fun v3 ev3 => ?_)
  refine lv_sipush (v := 255) hx hb dX11_feedFour_28 (by decide) ?_
  refine lv_iand hx hb dX11_feedFour_31 ?_
  refine lv_topi (fun v4 ev4 => ?_)
  refine r_iast cx hw 1 rfl (inL (by decide +kernel)) (ws' := [(a0, ob 10 [.ref a1, .int 13, .int (-1), .ref a2, .ref a3, .ref a4, .ref a5, .ref a6, .ref a7, .ref a8, .int 0, .ref a9, .ref a10, .ref a11, .ref a12, .ref a13, .ref a14, .ref a15, .ref a16, .ref a17]), (a1, aI G 800 (upd (upd (g0) 12 v2) 13 v4))]) rfl dX11_feedFour_32 (fun H locs hw => ?_)
  refine lv_aload_n hx hb dX11_feedFour_33 rfl (lv_at hl 1 rfl) ?_
  refine lv_dup hx hb dX11_feedFour_34 rfl ?_
  refine r_get cx hw inX11 (ci := 10) rfl 0 rfl 1 (by decide) fl_X11_13 rfl dX11_feedFour_35 ?_
  refine lv_iconst (v := 1) hx hb dX11_feedFour_38 (by decide) ?_
  refine lv_iadd hx hb dX11_feedFour_39 ?_
  refine r_topi (v := 14) (by decide +kernel) ?_
  refine r_put cx hw inX11 (ci := 10) rfl tyX11_ok nmX11 0 rfl 1 (by decide) fl_X11_13 rfl rfl rfl (Nat.le_of_ble_eq_true rfl) (ws' := [(a0, ob 10 [.ref a1, .int 14, .int (-1), .ref a2, .ref a3, .ref a4, .ref a5, .ref a6, .ref a7, .ref a8, .int 0, .ref a9, .ref a10, .ref a11, .ref a12, .ref a13, .ref a14, .ref a15, .ref a16, .ref a17]), (a1, aI G 800 (upd (upd (g0) 12 v2) 13 v4))]) rfl dX11_feedFour_40 (fun H locs hw => ?_)
  refine lv_iinc (v := 8) (lv' := [(2, .int 8), (0, .ref a0), (1, .int i0)]) hx hb dX11_feedFour_43 hl (k := 0) rfl (by decide +kernel) (by decide) rfl (fun ls hl => ?_)
  refine lv_goto (tgt := 3) hx hb dX11_feedFour_46 (by decide) ?_
  refine lv_iload_n hx hb dX11_feedFour_3 rfl (lv_at hl 0 rfl) ?_
  refine lv_if_lt (tgt := 49) hx hb dX11_feedFour_4 (by decide) (fun c9 => absurd c9 (by decide)) (fun _ => ?_)
  refine lv_aload_n hx hb dX11_feedFour_7 rfl (lv_at hl 1 rfl) ?_
  refine r_get cx hw inX11 (ci := 10) rfl 0 rfl 1 (by decide) fl_X11_13 rfl dX11_feedFour_8 ?_
  refine lv_sipush (v := 800) hx hb dX11_feedFour_11 (by decide) ?_
  refine lv_icmp_ge (tgt := 49) hx hb dX11_feedFour_14 (by decide) (fun c9 => absurd c9 (by decide)) (fun _ => ?_)
  refine lv_aload_n hx hb dX11_feedFour_17 rfl (lv_at hl 1 rfl) ?_
  refine r_get cx hw inX11 (ci := 10) rfl 0 rfl 0 (by decide) fl_X11_9 rfl dX11_feedFour_18 ?_
  refine lv_aload_n hx hb dX11_feedFour_21 rfl (lv_at hl 1 rfl) ?_
  refine r_get cx hw inX11 (ci := 10) rfl 0 rfl 1 (by decide) fl_X11_13 rfl dX11_feedFour_22 ?_
  refine lv_iload_n hx hb dX11_feedFour_25 rfl (lv_at hl 2 rfl) ?_
  refine lv_iload_n hx hb dX11_feedFour_26 rfl (lv_at hl 0 rfl) ?_
  refine lv_iushr hx hb dX11_feedFour_27 rfl ?_
  refine lv_topi (fun v5 ev5 => ?_)
  refine lv_sipush (v := 255) hx hb dX11_feedFour_28 (by decide) ?_
  refine lv_iand hx hb dX11_feedFour_31 ?_
  refine lv_topi (fun v6 ev6 => ?_)
  refine r_iast cx hw 1 rfl (inL (by decide +kernel)) (ws' := [(a0, ob 10 [.ref a1, .int 14, .int (-1), .ref a2, .ref a3, .ref a4, .ref a5, .ref a6, .ref a7, .ref a8, .int 0, .ref a9, .ref a10, .ref a11, .ref a12, .ref a13, .ref a14, .ref a15, .ref a16, .ref a17]), (a1, aI G 800 (upd (upd (upd (g0) 12 v2) 13 v4) 14 v6))]) rfl dX11_feedFour_32 (fun H locs hw => ?_)
  refine lv_aload_n hx hb dX11_feedFour_33 rfl (lv_at hl 1 rfl) ?_
  refine lv_dup hx hb dX11_feedFour_34 rfl ?_
  refine r_get cx hw inX11 (ci := 10) rfl 0 rfl 1 (by decide) fl_X11_13 rfl dX11_feedFour_35 ?_
  refine lv_iconst (v := 1) hx hb dX11_feedFour_38 (by decide) ?_
  refine lv_iadd hx hb dX11_feedFour_39 ?_
  refine r_topi (v := 15) (by decide +kernel) ?_
  refine r_put cx hw inX11 (ci := 10) rfl tyX11_ok nmX11 0 rfl 1 (by decide) fl_X11_13 rfl rfl rfl (Nat.le_of_ble_eq_true rfl) (ws' := [(a0, ob 10 [.ref a1, .int 15, .int (-1), .ref a2, .ref a3, .ref a4, .ref a5, .ref a6, .ref a7, .ref a8, .int 0, .ref a9, .ref a10, .ref a11, .ref a12, .ref a13, .ref a14, .ref a15, .ref a16, .ref a17]), (a1, aI G 800 (upd (upd (upd (g0) 12 v2) 13 v4) 14 v6))]) rfl dX11_feedFour_40 (fun H locs hw => ?_)
  refine lv_iinc (v := 0) (lv' := [(2, .int 0), (0, .ref a0), (1, .int i0)]) hx hb dX11_feedFour_43 hl (k := 0) rfl (by decide +kernel) (by decide) rfl (fun ls hl => ?_)
  refine lv_goto (tgt := 3) hx hb dX11_feedFour_46 (by decide) ?_
  refine lv_iload_n hx hb dX11_feedFour_3 rfl (lv_at hl 0 rfl) ?_
  refine lv_if_lt (tgt := 49) hx hb dX11_feedFour_4 (by decide) (fun c9 => absurd c9 (by decide)) (fun _ => ?_)
  refine lv_aload_n hx hb dX11_feedFour_7 rfl (lv_at hl 1 rfl) ?_
  refine r_get cx hw inX11 (ci := 10) rfl 0 rfl 1 (by decide) fl_X11_13 rfl dX11_feedFour_8 ?_
  refine lv_sipush (v := 800) hx hb dX11_feedFour_11 (by decide) ?_
  refine lv_icmp_ge (tgt := 49) hx hb dX11_feedFour_14 (by decide) (fun c9 => absurd c9 (by decide)) (fun _ => ?_)
  refine lv_aload_n hx hb dX11_feedFour_17 rfl (lv_at hl 1 rfl) ?_
  refine r_get cx hw inX11 (ci := 10) rfl 0 rfl 0 (by decide) fl_X11_9 rfl dX11_feedFour_18 ?_
  refine lv_aload_n hx hb dX11_feedFour_21 rfl (lv_at hl 1 rfl) ?_
  refine r_get cx hw inX11 (ci := 10) rfl 0 rfl 1 (by decide) fl_X11_13 rfl dX11_feedFour_22 ?_
  refine lv_iload_n hx hb dX11_feedFour_25 rfl (lv_at hl 2 rfl) ?_
  refine lv_iload_n hx hb dX11_feedFour_26 rfl (lv_at hl 0 rfl) ?_
  refine lv_iushr hx hb dX11_feedFour_27 rfl ?_
  refine lv_topi (fun v7 ev7 => ?_)
  refine lv_sipush (v := 255) hx hb dX11_feedFour_28 (by decide) ?_
  refine lv_iand hx hb dX11_feedFour_31 ?_
  refine lv_topi (fun v8 ev8 => ?_)
  refine r_iast cx hw 1 rfl (inL (by decide +kernel)) (ws' := [(a0, ob 10 [.ref a1, .int 15, .int (-1), .ref a2, .ref a3, .ref a4, .ref a5, .ref a6, .ref a7, .ref a8, .int 0, .ref a9, .ref a10, .ref a11, .ref a12, .ref a13, .ref a14, .ref a15, .ref a16, .ref a17]), (a1, aI G 800 (upd (upd (upd (upd (g0) 12 v2) 13 v4) 14 v6) 15 v8))]) rfl dX11_feedFour_32 (fun H locs hw => ?_)
  refine lv_aload_n hx hb dX11_feedFour_33 rfl (lv_at hl 1 rfl) ?_
  refine lv_dup hx hb dX11_feedFour_34 rfl ?_
  refine r_get cx hw inX11 (ci := 10) rfl 0 rfl 1 (by decide) fl_X11_13 rfl dX11_feedFour_35 ?_
  refine lv_iconst (v := 1) hx hb dX11_feedFour_38 (by decide) ?_
  refine lv_iadd hx hb dX11_feedFour_39 ?_
  refine r_topi (v := 16) (by decide +kernel) ?_
  refine r_put cx hw inX11 (ci := 10) rfl tyX11_ok nmX11 0 rfl 1 (by decide) fl_X11_13 rfl rfl rfl (Nat.le_of_ble_eq_true rfl) (ws' := [(a0, ob 10 [.ref a1, .int 16, .int (-1), .ref a2, .ref a3, .ref a4, .ref a5, .ref a6, .ref a7, .ref a8, .int 0, .ref a9, .ref a10, .ref a11, .ref a12, .ref a13, .ref a14, .ref a15, .ref a16, .ref a17]), (a1, aI G 800 (upd (upd (upd (upd (g0) 12 v2) 13 v4) 14 v6) 15 v8))]) rfl dX11_feedFour_40 (fun H locs hw => ?_)
  refine lv_iinc (v := (-8)) (lv' := [(2, .int (-8)), (0, .ref a0), (1, .int i0)]) hx hb dX11_feedFour_43 hl (k := 0) rfl (by decide +kernel) (by decide) rfl (fun ls hl => ?_)
  refine lv_goto (tgt := 3) hx hb dX11_feedFour_46 (by decide) ?_
  refine lv_iload_n hx hb dX11_feedFour_3 rfl (lv_at hl 0 rfl) ?_
  refine lv_if_lt (tgt := 49) hx hb dX11_feedFour_4 (by decide) (fun _ => ?_) (fun c9 => absurd (by decide) c9)
  have hw : Wd G A [(a0, ob 10 [.ref a1, .int 16, .int (-1), .ref a2, .ref a3, .ref a4, .ref a5, .ref a6, .ref a7, .ref a8, .int 0, .ref a9, .ref a10, .ref a11, .ref a12, .ref a13, .ref a14, .ref a15, .ref a16, .ref a17]), (a1, aI G 800 (upd (upd (upd (upd (g0) 12 v2) 13 v4) 14 v6) 15 v8))] s.heap _ _ := hw.sub [0, 1] rfl rfl
  exact r_vret cx hr hlk (upd (upd (upd (upd (g0) 12 v2) 13 v4) 14 v6) 15 v8) trivial hw (Nat.le_of_ble_eq_true rfl) (Nat.le_of_ble_eq_true rfl) dX11_feedFour_49

set_option maxHeartbeats 4000000 in
set_option maxRecDepth 100000 in
theorem a_X11_feedFour_6 (l : Launch) (G : Gt) (a0 : Nat) (i0 : Int32) (a1 : Nat) (a2 : Nat) (a3 : Nat) (a4 : Nat) (a5 : Nat) (a6 : Nat) (a7 : Nat) (a8 : Nat) (a9 : Nat) (a10 : Nat) (a11 : Nat) (a12 : Nat) (a13 : Nat) (a14 : Nat) (a15 : Nat) (a16 : Nat) (a17 : Nat) (g0 : Nat → Int32) : Mt l yX11_feedFour cX11_feedFour 3 none ({ frames := 0, cells := 0, slots := 0, locals := 0 } : Room) G [.ref a0, .int i0] [(a0, ob 10 [.ref a1, .int 16, .int (-1), .ref a2, .ref a3, .ref a4, .ref a5, .ref a6, .ref a7, .ref a8, .int 0, .ref a9, .ref a10, .ref a11, .ref a12, .ref a13, .ref a14, .ref a15, .ref a16, .ref a17]), (a1, aI G 800 (g0))] (qV G (fun (w : Nat → Int32) => True) (fun w => [(a0, ob 10 [.ref a1, .int 20, .int (-1), .ref a2, .ref a3, .ref a4, .ref a5, .ref a6, .ref a7, .ref a8, .int 0, .ref a9, .ref a10, .ref a11, .ref a12, .ref a13, .ref a14, .ref a15, .ref a16, .ref a17]), (a1, aI G 800 (w))])) := by
  refine Mt.of (own := RX11) (cc := cX11_feedFour) (by decide) rfl (Nat.le_of_ble_eq_true rfl) ?_
  intro p e s m below meth c A ls cx hr hlk hmn hA hl hw
  have hx := cx.1
  have hb := cx.2.1
  have hl : lv_has ls 3 [(0, .ref a0), (1, .int i0)] := hl
  refine lv_bipush (v := 24) hx hb dX11_feedFour_0 (by decide) ?_
  refine lv_istore_n (lv' := [(2, .int 24), (0, .ref a0), (1, .int i0)]) hx hb dX11_feedFour_2 rfl hl (by decide) rfl (fun ls hl => ?_)
  refine lv_iload_n hx hb dX11_feedFour_3 rfl (lv_at hl 0 rfl) ?_
  refine lv_if_lt (tgt := 49) hx hb dX11_feedFour_4 (by decide) (fun c9 => absurd c9 (by decide)) (fun _ => ?_)
  refine lv_aload_n hx hb dX11_feedFour_7 rfl (lv_at hl 1 rfl) ?_
  refine r_get cx hw inX11 (ci := 10) rfl 0 rfl 1 (by decide) fl_X11_13 rfl dX11_feedFour_8 ?_
  refine lv_sipush (v := 800) hx hb dX11_feedFour_11 (by decide) ?_
  refine lv_icmp_ge (tgt := 49) hx hb dX11_feedFour_14 (by decide) (fun c9 => absurd c9 (by decide)) (fun _ => ?_)
  refine lv_aload_n hx hb dX11_feedFour_17 rfl (lv_at hl 1 rfl) ?_
  refine r_get cx hw inX11 (ci := 10) rfl 0 rfl 0 (by decide) fl_X11_9 rfl dX11_feedFour_18 ?_
  refine lv_aload_n hx hb dX11_feedFour_21 rfl (lv_at hl 1 rfl) ?_
  refine r_get cx hw inX11 (ci := 10) rfl 0 rfl 1 (by decide) fl_X11_13 rfl dX11_feedFour_22 ?_
  refine lv_iload_n hx hb dX11_feedFour_25 rfl (lv_at hl 2 rfl) ?_
  refine lv_iload_n hx hb dX11_feedFour_26 rfl (lv_at hl 0 rfl) ?_
  refine lv_iushr hx hb dX11_feedFour_27 rfl ?_
  refine lv_topi (fun v1 ev1 => ?_)
  refine lv_sipush (v := 255) hx hb dX11_feedFour_28 (by decide) ?_
  refine lv_iand hx hb dX11_feedFour_31 ?_
  refine lv_topi (fun v2 ev2 => ?_)
  refine r_iast cx hw 1 rfl (inL (by decide +kernel)) (ws' := [(a0, ob 10 [.ref a1, .int 16, .int (-1), .ref a2, .ref a3, .ref a4, .ref a5, .ref a6, .ref a7, .ref a8, .int 0, .ref a9, .ref a10, .ref a11, .ref a12, .ref a13, .ref a14, .ref a15, .ref a16, .ref a17]), (a1, aI G 800 (upd (g0) 16 v2))]) rfl dX11_feedFour_32 (fun H locs hw => ?_)
  refine lv_aload_n hx hb dX11_feedFour_33 rfl (lv_at hl 1 rfl) ?_
  refine lv_dup hx hb dX11_feedFour_34 rfl ?_
  refine r_get cx hw inX11 (ci := 10) rfl 0 rfl 1 (by decide) fl_X11_13 rfl dX11_feedFour_35 ?_
  refine lv_iconst (v := 1) hx hb dX11_feedFour_38 (by decide) ?_
  refine lv_iadd hx hb dX11_feedFour_39 ?_
  refine r_topi (v := 17) (by decide +kernel) ?_
  refine r_put cx hw inX11 (ci := 10) rfl tyX11_ok nmX11 0 rfl 1 (by decide) fl_X11_13 rfl rfl rfl (Nat.le_of_ble_eq_true rfl) (ws' := [(a0, ob 10 [.ref a1, .int 17, .int (-1), .ref a2, .ref a3, .ref a4, .ref a5, .ref a6, .ref a7, .ref a8, .int 0, .ref a9, .ref a10, .ref a11, .ref a12, .ref a13, .ref a14, .ref a15, .ref a16, .ref a17]), (a1, aI G 800 (upd (g0) 16 v2))]) rfl dX11_feedFour_40 (fun H locs hw => ?_)
  refine lv_iinc (v := 16) (lv' := [(2, .int 16), (0, .ref a0), (1, .int i0)]) hx hb dX11_feedFour_43 hl (k := 0) rfl (by decide +kernel) (by decide) rfl (fun ls hl => ?_)
  refine lv_goto (tgt := 3) hx hb dX11_feedFour_46 (by decide) ?_
  refine lv_iload_n hx hb dX11_feedFour_3 rfl (lv_at hl 0 rfl) ?_
  refine lv_if_lt (tgt := 49) hx hb dX11_feedFour_4 (by decide) (fun c9 => absurd c9 (by decide)) (fun _ => ?_)
  refine lv_aload_n hx hb dX11_feedFour_7 rfl (lv_at hl 1 rfl) ?_
  refine r_get cx hw inX11 (ci := 10) rfl 0 rfl 1 (by decide) fl_X11_13 rfl dX11_feedFour_8 ?_
  refine lv_sipush (v := 800) hx hb dX11_feedFour_11 (by decide) ?_
  refine lv_icmp_ge (tgt := 49) hx hb dX11_feedFour_14 (by decide) (fun c9 => absurd c9 (by decide)) (fun _ => ?_)
  refine lv_aload_n hx hb dX11_feedFour_17 rfl (lv_at hl 1 rfl) ?_
  refine r_get cx hw inX11 (ci := 10) rfl 0 rfl 0 (by decide) fl_X11_9 rfl dX11_feedFour_18 ?_
  refine lv_aload_n hx hb dX11_feedFour_21 rfl (lv_at hl 1 rfl) ?_
  refine r_get cx hw inX11 (ci := 10) rfl 0 rfl 1 (by decide) fl_X11_13 rfl dX11_feedFour_22 ?_
  refine lv_iload_n hx hb dX11_feedFour_25 rfl (lv_at hl 2 rfl) ?_
  refine lv_iload_n hx hb dX11_feedFour_26 rfl (lv_at hl 0 rfl) ?_
  refine lv_iushr hx hb dX11_feedFour_27 rfl ?_
  refine lv_topi (fun v3 ev3 => ?_)
  refine lv_sipush (v := 255) hx hb dX11_feedFour_28 (by decide) ?_
  refine lv_iand hx hb dX11_feedFour_31 ?_
  refine lv_topi (fun v4 ev4 => ?_)
  refine r_iast cx hw 1 rfl (inL (by decide +kernel)) (ws' := [(a0, ob 10 [.ref a1, .int 17, .int (-1), .ref a2, .ref a3, .ref a4, .ref a5, .ref a6, .ref a7, .ref a8, .int 0, .ref a9, .ref a10, .ref a11, .ref a12, .ref a13, .ref a14, .ref a15, .ref a16, .ref a17]), (a1, aI G 800 (upd (upd (g0) 16 v2) 17 v4))]) rfl dX11_feedFour_32 (fun H locs hw => ?_)
  refine lv_aload_n hx hb dX11_feedFour_33 rfl (lv_at hl 1 rfl) ?_
  refine lv_dup hx hb dX11_feedFour_34 rfl ?_
  refine r_get cx hw inX11 (ci := 10) rfl 0 rfl 1 (by decide) fl_X11_13 rfl dX11_feedFour_35 ?_
  refine lv_iconst (v := 1) hx hb dX11_feedFour_38 (by decide) ?_
  refine lv_iadd hx hb dX11_feedFour_39 ?_
  refine r_topi (v := 18) (by decide +kernel) ?_
  refine r_put cx hw inX11 (ci := 10) rfl tyX11_ok nmX11 0 rfl 1 (by decide) fl_X11_13 rfl rfl rfl (Nat.le_of_ble_eq_true rfl) (ws' := [(a0, ob 10 [.ref a1, .int 18, .int (-1), .ref a2, .ref a3, .ref a4, .ref a5, .ref a6, .ref a7, .ref a8, .int 0, .ref a9, .ref a10, .ref a11, .ref a12, .ref a13, .ref a14, .ref a15, .ref a16, .ref a17]), (a1, aI G 800 (upd (upd (g0) 16 v2) 17 v4))]) rfl dX11_feedFour_40 (fun H locs hw => ?_)
  refine lv_iinc (v := 8) (lv' := [(2, .int 8), (0, .ref a0), (1, .int i0)]) hx hb dX11_feedFour_43 hl (k := 0) rfl (by decide +kernel) (by decide) rfl (fun ls hl => ?_)
  refine lv_goto (tgt := 3) hx hb dX11_feedFour_46 (by decide) ?_
  refine lv_iload_n hx hb dX11_feedFour_3 rfl (lv_at hl 0 rfl) ?_
  refine lv_if_lt (tgt := 49) hx hb dX11_feedFour_4 (by decide) (fun c9 => absurd c9 (by decide)) (fun _ => ?_)
  refine lv_aload_n hx hb dX11_feedFour_7 rfl (lv_at hl 1 rfl) ?_
  refine r_get cx hw inX11 (ci := 10) rfl 0 rfl 1 (by decide) fl_X11_13 rfl dX11_feedFour_8 ?_
  refine lv_sipush (v := 800) hx hb dX11_feedFour_11 (by decide) ?_
  refine lv_icmp_ge (tgt := 49) hx hb dX11_feedFour_14 (by decide) (fun c9 => absurd c9 (by decide)) (fun _ => ?_)
  refine lv_aload_n hx hb dX11_feedFour_17 rfl (lv_at hl 1 rfl) ?_
  refine r_get cx hw inX11 (ci := 10) rfl 0 rfl 0 (by decide) fl_X11_9 rfl dX11_feedFour_18 ?_
  refine lv_aload_n hx hb dX11_feedFour_21 rfl (lv_at hl 1 rfl) ?_
  refine r_get cx hw inX11 (ci := 10) rfl 0 rfl 1 (by decide) fl_X11_13 rfl dX11_feedFour_22 ?_
  refine lv_iload_n hx hb dX11_feedFour_25 rfl (lv_at hl 2 rfl) ?_
  refine lv_iload_n hx hb dX11_feedFour_26 rfl (lv_at hl 0 rfl) ?_
  refine lv_iushr hx hb dX11_feedFour_27 rfl ?_
  refine lv_topi (fun v5 ev5 => ?_)
  refine lv_sipush (v := 255) hx hb dX11_feedFour_28 (by decide) ?_
  refine lv_iand hx hb dX11_feedFour_31 ?_
  refine lv_topi (fun v6 ev6 => ?_)
  refine r_iast cx hw 1 rfl (inL (by decide +kernel)) (ws' := [(a0, ob 10 [.ref a1, .int 18, .int (-1), .ref a2, .ref a3, .ref a4, .ref a5, .ref a6, .ref a7, .ref a8, .int 0, .ref a9, .ref a10, .ref a11, .ref a12, .ref a13, .ref a14, .ref a15, .ref a16, .ref a17]), (a1, aI G 800 (upd (upd (upd (g0) 16 v2) 17 v4) 18 v6))]) rfl dX11_feedFour_32 (fun H locs hw => ?_)
  refine lv_aload_n hx hb dX11_feedFour_33 rfl (lv_at hl 1 rfl) ?_
  refine lv_dup hx hb dX11_feedFour_34 rfl ?_
  refine r_get cx hw inX11 (ci := 10) rfl 0 rfl 1 (by decide) fl_X11_13 rfl dX11_feedFour_35 ?_
  refine lv_iconst (v := 1) hx hb dX11_feedFour_38 (by decide) ?_
  refine lv_iadd hx hb dX11_feedFour_39 ?_
  refine r_topi (v := 19) (by decide +kernel) ?_
  refine r_put cx hw inX11 (ci := 10) rfl tyX11_ok nmX11 0 rfl 1 (by decide) fl_X11_13 rfl rfl rfl (Nat.le_of_ble_eq_true rfl) (ws' := [(a0, ob 10 [.ref a1, .int 19, .int (-1), .ref a2, .ref a3, .ref a4, .ref a5, .ref a6, .ref a7, .ref a8, .int 0, .ref a9, .ref a10, .ref a11, .ref a12, .ref a13, .ref a14, .ref a15, .ref a16, .ref a17]), (a1, aI G 800 (upd (upd (upd (g0) 16 v2) 17 v4) 18 v6))]) rfl dX11_feedFour_40 (fun H locs hw => ?_)
  refine lv_iinc (v := 0) (lv' := [(2, .int 0), (0, .ref a0), (1, .int i0)]) hx hb dX11_feedFour_43 hl (k := 0) rfl (by decide +kernel) (by decide) rfl (fun ls hl => ?_)
  refine lv_goto (tgt := 3) hx hb dX11_feedFour_46 (by decide) ?_
  refine lv_iload_n hx hb dX11_feedFour_3 rfl (lv_at hl 0 rfl) ?_
  refine lv_if_lt (tgt := 49) hx hb dX11_feedFour_4 (by decide) (fun c9 => absurd c9 (by decide)) (fun _ => ?_)
  refine lv_aload_n hx hb dX11_feedFour_7 rfl (lv_at hl 1 rfl) ?_
  refine r_get cx hw inX11 (ci := 10) rfl 0 rfl 1 (by decide) fl_X11_13 rfl dX11_feedFour_8 ?_
  refine lv_sipush (v := 800) hx hb dX11_feedFour_11 (by decide) ?_
  refine lv_icmp_ge (tgt := 49) hx hb dX11_feedFour_14 (by decide) (fun c9 => absurd c9 (by decide)) (fun _ => ?_)
  refine lv_aload_n hx hb dX11_feedFour_17 rfl (lv_at hl 1 rfl) ?_
  refine r_get cx hw inX11 (ci := 10) rfl 0 rfl 0 (by decide) fl_X11_9 rfl dX11_feedFour_18 ?_
  refine lv_aload_n hx hb dX11_feedFour_21 rfl (lv_at hl 1 rfl) ?_
  refine r_get cx hw inX11 (ci := 10) rfl 0 rfl 1 (by decide) fl_X11_13 rfl dX11_feedFour_22 ?_
  refine lv_iload_n hx hb dX11_feedFour_25 rfl (lv_at hl 2 rfl) ?_
  refine lv_iload_n hx hb dX11_feedFour_26 rfl (lv_at hl 0 rfl) ?_
  refine lv_iushr hx hb dX11_feedFour_27 rfl ?_
  refine lv_topi (fun v7 ev7 => ?_)
  refine lv_sipush (v := 255) hx hb dX11_feedFour_28 (by decide) ?_
  refine lv_iand hx hb dX11_feedFour_31 ?_
  refine lv_topi (fun v8 ev8 => ?_)
  refine r_iast cx hw 1 rfl (inL (by decide +kernel)) (ws' := [(a0, ob 10 [.ref a1, .int 19, .int (-1), .ref a2, .ref a3, .ref a4, .ref a5, .ref a6, .ref a7, .ref a8, .int 0, .ref a9, .ref a10, .ref a11, .ref a12, .ref a13, .ref a14, .ref a15, .ref a16, .ref a17]), (a1, aI G 800 (upd (upd (upd (upd (g0) 16 v2) 17 v4) 18 v6) 19 v8))]) rfl dX11_feedFour_32 (fun H locs hw => ?_)
  refine lv_aload_n hx hb dX11_feedFour_33 rfl (lv_at hl 1 rfl) ?_
  refine lv_dup hx hb dX11_feedFour_34 rfl ?_
  refine r_get cx hw inX11 (ci := 10) rfl 0 rfl 1 (by decide) fl_X11_13 rfl dX11_feedFour_35 ?_
  refine lv_iconst (v := 1) hx hb dX11_feedFour_38 (by decide) ?_
  refine lv_iadd hx hb dX11_feedFour_39 ?_
  refine r_topi (v := 20) (by decide +kernel) ?_
  refine r_put cx hw inX11 (ci := 10) rfl tyX11_ok nmX11 0 rfl 1 (by decide) fl_X11_13 rfl rfl rfl (Nat.le_of_ble_eq_true rfl) (ws' := [(a0, ob 10 [.ref a1, .int 20, .int (-1), .ref a2, .ref a3, .ref a4, .ref a5, .ref a6, .ref a7, .ref a8, .int 0, .ref a9, .ref a10, .ref a11, .ref a12, .ref a13, .ref a14, .ref a15, .ref a16, .ref a17]), (a1, aI G 800 (upd (upd (upd (upd (g0) 16 v2) 17 v4) 18 v6) 19 v8))]) rfl dX11_feedFour_40 (fun H locs hw => ?_)
  refine lv_iinc (v := (-8)) (lv' := [(2, .int (-8)), (0, .ref a0), (1, .int i0)]) hx hb dX11_feedFour_43 hl (k := 0) rfl (by decide +kernel) (by decide) rfl (fun ls hl => ?_)
  refine lv_goto (tgt := 3) hx hb dX11_feedFour_46 (by decide) ?_
  refine lv_iload_n hx hb dX11_feedFour_3 rfl (lv_at hl 0 rfl) ?_
  refine lv_if_lt (tgt := 49) hx hb dX11_feedFour_4 (by decide) (fun _ => ?_) (fun c9 => absurd (by decide) c9)
  have hw : Wd G A [(a0, ob 10 [.ref a1, .int 20, .int (-1), .ref a2, .ref a3, .ref a4, .ref a5, .ref a6, .ref a7, .ref a8, .int 0, .ref a9, .ref a10, .ref a11, .ref a12, .ref a13, .ref a14, .ref a15, .ref a16, .ref a17]), (a1, aI G 800 (upd (upd (upd (upd (g0) 16 v2) 17 v4) 18 v6) 19 v8))] s.heap _ _ := hw.sub [0, 1] rfl rfl
  exact r_vret cx hr hlk (upd (upd (upd (upd (g0) 16 v2) 17 v4) 18 v6) 19 v8) trivial hw (Nat.le_of_ble_eq_true rfl) (Nat.le_of_ble_eq_true rfl) dX11_feedFour_49

set_option maxHeartbeats 4000000 in
set_option maxRecDepth 100000 in
theorem xa_feed (l : Launch) (G : Gt) (h0 : Nat) (u : Nat → Nat) (a : Int32) (b : Int32) (d : Int32) (f : Int32) (g : Int32) : Mt l yX11_feed cX11_feed 6 (some .int) ({ frames := 1, cells := 0, slots := 0, locals := 22 } : Room) G [.ref h0, .int a, .int b, .int d, .int f, .int g] [(h0, ob 10 [.ref (u 0), .int 0, .int (-1), .ref (u 1), .ref (u 2), .ref (u 3), .ref (u 4), .ref (u 5), .ref (u 6), .ref (u 7), .int 0, .ref (u 8), .ref (u 9), .ref (u 10), .ref (u 11), .ref (u 12), .ref (u 13), .ref (u 14), .ref (u 15), .ref (u 16)]), ((u 0), aI G 800 (fun _ => 0))] (qI G (fun (r : Int32) (w : Unit) => r = 20) (fun w => [])) := by
  refine Mt.of (own := RX11) (cc := cX11_feed) (by decide) rfl (Nat.le_of_ble_eq_true rfl) ?_
  intro p e s m below meth c A ls cx hr hlk hmn hA hl hw
  have hx := cx.1
  have hb := cx.2.1
  have hl : lv_has ls 6 [(0, .ref h0), (1, .int a), (2, .int b), (3, .int d), (4, .int f), (5, .int g)] := hl
  refine lv_aload_n hx hb dX11_feed_0 rfl (lv_at hl 0 rfl) ?_
  refine r_get cx hw inX11 (ci := 10) rfl 0 rfl 1 (by decide) fl_X11_13 rfl dX11_feed_1 ?_
  refine lv_bipush (v := 20) hx hb dX11_feed_4 (by decide) ?_
  refine lv_iadd hx hb dX11_feed_6 ?_
  refine r_topi (v := 20) (by decide +kernel) ?_
  refine lv_sipush (v := 800) hx hb dX11_feed_7 (by decide) ?_
  refine lv_icmp_le (tgt := 15) hx hb dX11_feed_10 (by decide) (fun _ => ?_) (fun c9 => absurd (by decide) c9)
  refine lv_aload_n hx hb dX11_feed_15 rfl (lv_at hl 0 rfl) ?_
  refine lv_iload_n hx hb dX11_feed_16 rfl (lv_at hl 1 rfl) ?_
  refine r_callVV (As := [.int a]) (rest := []) (wr := []) cx hw hA (a_X11_feedFour_2 l G h0 a (u 0) (u 1) (u 2) (u 3) (u 4) (u 5) (u 6) (u 7) (u 8) (u 9) (u 10) (u 11) (u 12) (u 13) (u 14) (u 15) (u 16)) [0, 1] [] rfl rfl rfl rfl rfl 0 rfl (ci := 10) rfl ml_X11_121 im_X11_feedFour se_X11_feedFour in_X11 co_X11_feedFour rfl hd_X11_feedFour rfl ⟨Nat.le_of_ble_eq_true rfl, Nat.le_of_ble_eq_true rfl⟩ hl.1 rfl (Nat.le_of_ble_eq_true rfl) dX11_feed_17 ⟨Nat.le_of_ble_eq_true rfl, Nat.le_of_ble_eq_true rfl⟩ (fun u1 H locs hr2 hw => ?_)
  have hw : Wd G A [(h0, ob 10 [.ref (u 0), .int 4, .int (-1), .ref (u 1), .ref (u 2), .ref (u 3), .ref (u 4), .ref (u 5), .ref (u 6), .ref (u 7), .int 0, .ref (u 8), .ref (u 9), .ref (u 10), .ref (u 11), .ref (u 12), .ref (u 13), .ref (u 14), .ref (u 15), .ref (u 16)]), ((u 0), aI G 800 (u1))] s.heap _ _ := hw
  refine lv_aload_n hx hb dX11_feed_20 rfl (lv_at hl 0 rfl) ?_
  refine lv_iload_n hx hb dX11_feed_21 rfl (lv_at hl 2 rfl) ?_
  refine r_callVV (As := [.int b]) (rest := []) (wr := []) cx hw hA (a_X11_feedFour_3 l G h0 b (u 0) (u 1) (u 2) (u 3) (u 4) (u 5) (u 6) (u 7) (u 8) (u 9) (u 10) (u 11) (u 12) (u 13) (u 14) (u 15) (u 16) (u1)) [0, 1] [] rfl rfl rfl rfl rfl 0 rfl (ci := 10) rfl ml_X11_121 im_X11_feedFour se_X11_feedFour in_X11 co_X11_feedFour rfl hd_X11_feedFour rfl ⟨Nat.le_of_ble_eq_true rfl, Nat.le_of_ble_eq_true rfl⟩ hl.1 rfl (Nat.le_of_ble_eq_true rfl) dX11_feed_22 ⟨Nat.le_of_ble_eq_true rfl, Nat.le_of_ble_eq_true rfl⟩ (fun u3 H locs hr4 hw => ?_)
  have hw : Wd G A [(h0, ob 10 [.ref (u 0), .int 8, .int (-1), .ref (u 1), .ref (u 2), .ref (u 3), .ref (u 4), .ref (u 5), .ref (u 6), .ref (u 7), .int 0, .ref (u 8), .ref (u 9), .ref (u 10), .ref (u 11), .ref (u 12), .ref (u 13), .ref (u 14), .ref (u 15), .ref (u 16)]), ((u 0), aI G 800 (u3))] s.heap _ _ := hw
  refine lv_aload_n hx hb dX11_feed_25 rfl (lv_at hl 0 rfl) ?_
  refine lv_iload_n hx hb dX11_feed_26 rfl (lv_at hl 3 rfl) ?_
  refine r_callVV (As := [.int d]) (rest := []) (wr := []) cx hw hA (a_X11_feedFour_4 l G h0 d (u 0) (u 1) (u 2) (u 3) (u 4) (u 5) (u 6) (u 7) (u 8) (u 9) (u 10) (u 11) (u 12) (u 13) (u 14) (u 15) (u 16) (u3)) [0, 1] [] rfl rfl rfl rfl rfl 0 rfl (ci := 10) rfl ml_X11_121 im_X11_feedFour se_X11_feedFour in_X11 co_X11_feedFour rfl hd_X11_feedFour rfl ⟨Nat.le_of_ble_eq_true rfl, Nat.le_of_ble_eq_true rfl⟩ hl.1 rfl (Nat.le_of_ble_eq_true rfl) dX11_feed_27 ⟨Nat.le_of_ble_eq_true rfl, Nat.le_of_ble_eq_true rfl⟩ (fun u5 H locs hr6 hw => ?_)
  have hw : Wd G A [(h0, ob 10 [.ref (u 0), .int 12, .int (-1), .ref (u 1), .ref (u 2), .ref (u 3), .ref (u 4), .ref (u 5), .ref (u 6), .ref (u 7), .int 0, .ref (u 8), .ref (u 9), .ref (u 10), .ref (u 11), .ref (u 12), .ref (u 13), .ref (u 14), .ref (u 15), .ref (u 16)]), ((u 0), aI G 800 (u5))] s.heap _ _ := hw
  refine lv_aload_n hx hb dX11_feed_30 rfl (lv_at hl 0 rfl) ?_
  refine lv_iload hx hb dX11_feed_31 (lv_at hl 4 rfl) ?_
  refine r_callVV (As := [.int f]) (rest := []) (wr := []) cx hw hA (a_X11_feedFour_5 l G h0 f (u 0) (u 1) (u 2) (u 3) (u 4) (u 5) (u 6) (u 7) (u 8) (u 9) (u 10) (u 11) (u 12) (u 13) (u 14) (u 15) (u 16) (u5)) [0, 1] [] rfl rfl rfl rfl rfl 0 rfl (ci := 10) rfl ml_X11_121 im_X11_feedFour se_X11_feedFour in_X11 co_X11_feedFour rfl hd_X11_feedFour rfl ⟨Nat.le_of_ble_eq_true rfl, Nat.le_of_ble_eq_true rfl⟩ hl.1 rfl (Nat.le_of_ble_eq_true rfl) dX11_feed_33 ⟨Nat.le_of_ble_eq_true rfl, Nat.le_of_ble_eq_true rfl⟩ (fun u7 H locs hr8 hw => ?_)
  have hw : Wd G A [(h0, ob 10 [.ref (u 0), .int 16, .int (-1), .ref (u 1), .ref (u 2), .ref (u 3), .ref (u 4), .ref (u 5), .ref (u 6), .ref (u 7), .int 0, .ref (u 8), .ref (u 9), .ref (u 10), .ref (u 11), .ref (u 12), .ref (u 13), .ref (u 14), .ref (u 15), .ref (u 16)]), ((u 0), aI G 800 (u7))] s.heap _ _ := hw
  refine lv_aload_n hx hb dX11_feed_36 rfl (lv_at hl 0 rfl) ?_
  refine lv_iload hx hb dX11_feed_37 (lv_at hl 5 rfl) ?_
  refine r_callVV (As := [.int g]) (rest := []) (wr := []) cx hw hA (a_X11_feedFour_6 l G h0 g (u 0) (u 1) (u 2) (u 3) (u 4) (u 5) (u 6) (u 7) (u 8) (u 9) (u 10) (u 11) (u 12) (u 13) (u 14) (u 15) (u 16) (u7)) [0, 1] [] rfl rfl rfl rfl rfl 0 rfl (ci := 10) rfl ml_X11_121 im_X11_feedFour se_X11_feedFour in_X11 co_X11_feedFour rfl hd_X11_feedFour rfl ⟨Nat.le_of_ble_eq_true rfl, Nat.le_of_ble_eq_true rfl⟩ hl.1 rfl (Nat.le_of_ble_eq_true rfl) dX11_feed_39 ⟨Nat.le_of_ble_eq_true rfl, Nat.le_of_ble_eq_true rfl⟩ (fun u9 H locs hr10 hw => ?_)
  have hw : Wd G A [(h0, ob 10 [.ref (u 0), .int 20, .int (-1), .ref (u 1), .ref (u 2), .ref (u 3), .ref (u 4), .ref (u 5), .ref (u 6), .ref (u 7), .int 0, .ref (u 8), .ref (u 9), .ref (u 10), .ref (u 11), .ref (u 12), .ref (u 13), .ref (u 14), .ref (u 15), .ref (u 16)]), ((u 0), aI G 800 (u9))] s.heap _ _ := hw
  refine lv_aload_n hx hb dX11_feed_42 rfl (lv_at hl 0 rfl) ?_
  refine r_get cx hw inX11 (ci := 10) rfl 0 rfl 1 (by decide) fl_X11_13 rfl dX11_feed_43 ?_
  have hw : Wd G A [] s.heap _ _ := hw.sub [] rfl rfl
  exact r_iret cx hr hlk () rfl hw (Nat.le_of_ble_eq_true rfl) (Nat.le_of_ble_eq_true rfl) dX11_feed_46

set_option maxHeartbeats 4000000 in
set_option maxRecDepth 100000 in
theorem xa_end (l : Launch) (G : Gt) (h0 : Nat) (u : Nat → Nat) (n : Int32) : Mt l yX11_end cX11_end 2 (some .int) ({ frames := 0, cells := 0, slots := 0, locals := 0 } : Room) G [.ref h0, .int n] [(h0, ob 10 [.ref (u 0), .int 0, .int (-1), .ref (u 1), .ref (u 2), .ref (u 3), .ref (u 4), .ref (u 5), .ref (u 6), .ref (u 7), .int 0, .ref (u 8), .ref (u 9), .ref (u 10), .ref (u 11), .ref (u 12), .ref (u 13), .ref (u 14), .ref (u 15), .ref (u 16)])] (qI G (fun (r : Int32) (w : Unit) => (n.toInt = 0 ∧ r.toInt = 0) ∨ (n.toInt ≠ 0 ∧ r.toInt = -1)) (fun w => [])) := by
  refine Mt.of (own := RX11) (cc := cX11_end) (by decide) rfl (Nat.le_of_ble_eq_true rfl) ?_
  intro p e s m below meth c A ls cx hr hlk hmn hA hl hw
  have hx := cx.1
  have hb := cx.2.1
  have hl : lv_has ls 2 [(0, .ref h0), (1, .int n)] := hl
  refine lv_iload_n hx hb dX11_end_0 rfl (lv_at hl 1 rfl) ?_
  refine lv_if_lt (tgt := 12) hx hb dX11_end_1 (by decide) (fun c1 => ?_) (fun c1 => ?_)
  · refine lv_iconst (v := (-1)) hx hb dX11_end_12 (by decide) ?_
    have hw : Wd G A [] s.heap _ _ := hw.sub [] rfl rfl
    exact r_iret cx hr hlk () (by simp only [fa_lt, fa_le, fa_eq] at c1; have : (-1 : Int32).toInt = -1 := (by decide); have : (0 : Int32).toInt = 0 := (by decide); have : (1 : Int32).toInt = 1 := (by decide); omega) hw (Nat.le_of_ble_eq_true rfl) (Nat.le_of_ble_eq_true rfl) dX11_end_13
  · refine lv_iload_n hx hb dX11_end_4 rfl (lv_at hl 1 rfl) ?_
    refine lv_aload_n hx hb dX11_end_5 rfl (lv_at hl 0 rfl) ?_
    refine r_get cx hw inX11 (ci := 10) rfl 0 rfl 1 (by decide) fl_X11_13 rfl dX11_end_6 ?_
    refine lv_icmp_le (tgt := 14) hx hb dX11_end_9 (by decide) (fun c2 => ?_) (fun c2 => ?_)
    · refine lv_aload_n hx hb dX11_end_14 rfl (lv_at hl 0 rfl) ?_
      refine lv_iload_n hx hb dX11_end_15 rfl (lv_at hl 1 rfl) ?_
      refine r_put cx hw inX11 (ci := 10) rfl tyX11_ok nmX11 0 rfl 1 (by decide) fl_X11_13 rfl rfl rfl (Nat.le_of_ble_eq_true rfl) (ws' := [(h0, ob 10 [.ref (u 0), .int n, .int (-1), .ref (u 1), .ref (u 2), .ref (u 3), .ref (u 4), .ref (u 5), .ref (u 6), .ref (u 7), .int 0, .ref (u 8), .ref (u 9), .ref (u 10), .ref (u 11), .ref (u 12), .ref (u 13), .ref (u 14), .ref (u 15), .ref (u 16)])]) rfl dX11_end_16 (fun H locs hw => ?_)
      refine lv_iload_n hx hb dX11_end_19 rfl (lv_at hl 1 rfl) ?_
      have hw : Wd G A [] s.heap _ _ := hw.sub [] rfl rfl
      exact r_iret cx hr hlk () (by simp only [fa_lt, fa_le, fa_eq] at c1 c2; have : (-1 : Int32).toInt = -1 := (by decide); have : (0 : Int32).toInt = 0 := (by decide); have : (1 : Int32).toInt = 1 := (by decide); omega) hw (Nat.le_of_ble_eq_true rfl) (Nat.le_of_ble_eq_true rfl) dX11_end_20
    · refine lv_iconst (v := (-1)) hx hb dX11_end_12 (by decide) ?_
      have hw : Wd G A [] s.heap _ _ := hw.sub [] rfl rfl
      exact r_iret cx hr hlk () (by simp only [fa_lt, fa_le, fa_eq] at c1 c2; have : (-1 : Int32).toInt = -1 := (by decide); have : (0 : Int32).toInt = 0 := (by decide); have : (1 : Int32).toInt = 1 := (by decide); omega) hw (Nat.le_of_ble_eq_true rfl) (Nat.le_of_ble_eq_true rfl) dX11_end_13

set_option maxHeartbeats 4000000 in
set_option maxRecDepth 100000 in
theorem a_X4_begin_7 (l : Launch) (G : Gt) (a0 : Nat) (a1 : Nat) (a2 : Nat) (a3 : Nat) : Mt l yX4_begin cX4_begin 2 none ({ frames := 1, cells := 0, slots := 0, locals := 15 } : Room) G [.ref a0, .int 0] [(a1, aI G 800 (fun _ => 0)), (a0, ob 3 [.ref a1, .int 0, .int 0, .int (-1), .ref a2, .ref a3, .int 0])] (qV G (fun (w : Unit) => True) (fun w => [(a1, aI G 800 (fun _ => 0)), (a0, ob 3 [.ref a1, .int 0, .int 0, .int (-1), .ref a2, .ref a3, .int 0])])) := by
  refine Mt.of (own := RX4) (cc := cX4_begin) (by decide) rfl (Nat.le_of_ble_eq_true rfl) ?_
  intro p e s m below meth c A ls cx hr hlk hmn hA hl hw
  have hx := cx.1
  have hb := cx.2.1
  have hl : lv_has ls 2 [(0, .ref a0), (1, .int 0)] := hl
  refine lv_aload_n hx hb dX4_begin_0 rfl (lv_at hl 0 rfl) ?_
  refine lv_iload_n hx hb dX4_begin_1 rfl (lv_at hl 1 rfl) ?_
  refine lv_aload_n hx hb dX4_begin_2 rfl (lv_at hl 0 rfl) ?_
  refine r_get cx hw inX4 (ci := 3) rfl 1 rfl 0 (by decide) fl_X4_9 rfl dX4_begin_3 ?_
  refine r_alenI cx hw 0 rfl (v := 800) (by decide +kernel) dX4_begin_6 ?_
  refine r_mmin (v := 0) cx ml_X4_37 hl.1 (Nat.le_of_ble_eq_true rfl) (Nat.le_of_ble_eq_true rfl) (Nat.le_of_ble_eq_true rfl) (Nat.le_of_ble_eq_true rfl) (by decide +kernel) dX4_begin_7 ?_
  refine r_put cx hw inX4 (ci := 3) rfl tyX4_ok nmX4 1 rfl 1 (by decide) fl_X4_15 rfl rfl rfl (Nat.le_of_ble_eq_true rfl) (ws' := [(a1, aI G 800 (fun _ => 0)), (a0, ob 3 [.ref a1, .int 0, .int 0, .int (-1), .ref a2, .ref a3, .int 0])]) rfl dX4_begin_10 (fun H locs hw => ?_)
  refine lv_aload_n hx hb dX4_begin_13 rfl (lv_at hl 0 rfl) ?_
  refine lv_iconst (v := 0) hx hb dX4_begin_14 (by decide) ?_
  refine r_put cx hw inX4 (ci := 3) rfl tyX4_ok nmX4 1 rfl 2 (by decide) fl_X4_19 rfl rfl rfl (Nat.le_of_ble_eq_true rfl) (ws' := [(a1, aI G 800 (fun _ => 0)), (a0, ob 3 [.ref a1, .int 0, .int 0, .int (-1), .ref a2, .ref a3, .int 0])]) rfl dX4_begin_15 (fun H locs hw => ?_)
  refine lv_aload_n hx hb dX4_begin_18 rfl (lv_at hl 0 rfl) ?_
  refine lv_iconst (v := (-1)) hx hb dX4_begin_19 (by decide) ?_
  refine r_put cx hw inX4 (ci := 3) rfl tyX4_ok nmX4 1 rfl 3 (by decide) fl_X4_22 rfl rfl rfl (Nat.le_of_ble_eq_true rfl) (ws' := [(a1, aI G 800 (fun _ => 0)), (a0, ob 3 [.ref a1, .int 0, .int 0, .int (-1), .ref a2, .ref a3, .int 0])]) rfl dX4_begin_20 (fun H locs hw => ?_)
  have hw : Wd G A [(a1, aI G 800 (fun _ => 0)), (a0, ob 3 [.ref a1, .int 0, .int 0, .int (-1), .ref a2, .ref a3, .int 0])] s.heap _ _ := hw.sub [0, 1] rfl rfl
  exact r_vret cx hr hlk () trivial hw (Nat.le_of_ble_eq_true rfl) (Nat.le_of_ble_eq_true rfl) dX4_begin_23

set_option maxHeartbeats 4000000 in
set_option maxRecDepth 100000 in
theorem a_X11_takeTape_8 (l : Launch) (G : Gt) (a0 : Nat) (a1 : Nat) (a2 : Nat) (a3 : Nat) (a4 : Nat) (a5 : Nat) (a6 : Nat) (a7 : Nat) (a8 : Nat) (a9 : Nat) (a10 : Nat) (a11 : Nat) (a12 : Nat) (a13 : Nat) (a14 : Nat) (a15 : Nat) (a16 : Nat) (a17 : Nat) (a18 : Nat) : Mt l yX11_takeTape cX11_takeTape 1 none ({ frames := 2, cells := 0, slots := 0, locals := 36 } : Room) G [.ref a0] [(a0, ob 10 [.ref a1, .int 0, .int (-1), .ref a2, .ref a3, .ref a4, .ref a5, .ref a6, .ref a7, .ref a8, .int 0, .ref a9, .ref a10, .ref a11, .ref a12, .ref a13, .ref a14, .ref a15, .ref a16, .ref a17]), (a1, aI G 800 (fun _ => 0)), (a2, ob 3 [.ref a1, .int 0, .int 0, .int (-1), .ref a4, .ref a18, .int 0])] (qV G (fun (w : Unit) => True) (fun w => [(a0, ob 10 [.ref a1, .int 0, .int (-1), .ref a2, .ref a3, .ref a4, .ref a5, .ref a6, .ref a7, .ref a8, .int 0, .ref a9, .ref a10, .ref a11, .ref a12, .ref a13, .ref a14, .ref a15, .ref a16, .ref a17]), (a1, aI G 800 (fun _ => 0)), (a2, ob 3 [.ref a1, .int 0, .int 0, .int (-1), .ref a4, .ref a18, .int 0])])) := by
  refine Mt.of (own := RX11) (cc := cX11_takeTape) (by decide) rfl (Nat.le_of_ble_eq_true rfl) ?_
  intro p e s m below meth c A ls cx hr hlk hmn hA hl hw
  have hx := cx.1
  have hb := cx.2.1
  have hl : lv_has ls 1 [(0, .ref a0)] := hl
  refine lv_aload_n hx hb dX11_takeTape_0 rfl (lv_at hl 0 rfl) ?_
  refine r_get cx hw inX11 (ci := 10) rfl 0 rfl 3 (by decide) fl_X11_35 rfl dX11_takeTape_1 ?_
  refine lv_aload_n hx hb dX11_takeTape_4 rfl (lv_at hl 0 rfl) ?_
  refine r_get cx hw inX11 (ci := 10) rfl 0 rfl 1 (by decide) fl_X11_13 rfl dX11_takeTape_5 ?_
  refine r_callVV (As := [.int 0]) (rest := []) (wr := [(a0, ob 10 [.ref a1, .int 0, .int (-1), .ref a2, .ref a3, .ref a4, .ref a5, .ref a6, .ref a7, .ref a8, .int 0, .ref a9, .ref a10, .ref a11, .ref a12, .ref a13, .ref a14, .ref a15, .ref a16, .ref a17])]) cx hw hA (a_X4_begin_7 l G a2 a1 a4 a18) [1, 2] [0] rfl rfl rfl rfl rfl 2 rfl (ci := 3) rfl ml_X11_155 im_X4_begin se_X4_begin in_X4 co_X4_begin rfl hd_X4_begin rfl ⟨Nat.le_of_ble_eq_true rfl, Nat.le_of_ble_eq_true rfl⟩ hl.1 rfl (Nat.le_of_ble_eq_true rfl) dX11_takeTape_8 ⟨Nat.le_of_ble_eq_true rfl, Nat.le_of_ble_eq_true rfl⟩ (fun u1 H locs hr2 hw => ?_)
  have hw : Wd G A [(a0, ob 10 [.ref a1, .int 0, .int (-1), .ref a2, .ref a3, .ref a4, .ref a5, .ref a6, .ref a7, .ref a8, .int 0, .ref a9, .ref a10, .ref a11, .ref a12, .ref a13, .ref a14, .ref a15, .ref a16, .ref a17]), (a1, aI G 800 (fun _ => 0)), (a2, ob 3 [.ref a1, .int 0, .int 0, .int (-1), .ref a4, .ref a18, .int 0])] s.heap _ _ := hw
  refine lv_aload_n hx hb dX11_takeTape_11 rfl (lv_at hl 0 rfl) ?_
  refine lv_iconst (v := 0) hx hb dX11_takeTape_12 (by decide) ?_
  refine r_put cx hw inX11 (ci := 10) rfl tyX11_ok nmX11 0 rfl 1 (by decide) fl_X11_13 rfl rfl rfl (Nat.le_of_ble_eq_true rfl) (ws' := [(a0, ob 10 [.ref a1, .int 0, .int (-1), .ref a2, .ref a3, .ref a4, .ref a5, .ref a6, .ref a7, .ref a8, .int 0, .ref a9, .ref a10, .ref a11, .ref a12, .ref a13, .ref a14, .ref a15, .ref a16, .ref a17]), (a1, aI G 800 (fun _ => 0)), (a2, ob 3 [.ref a1, .int 0, .int 0, .int (-1), .ref a4, .ref a18, .int 0])]) rfl dX11_takeTape_13 (fun H locs hw => ?_)
  have hw : Wd G A [(a0, ob 10 [.ref a1, .int 0, .int (-1), .ref a2, .ref a3, .ref a4, .ref a5, .ref a6, .ref a7, .ref a8, .int 0, .ref a9, .ref a10, .ref a11, .ref a12, .ref a13, .ref a14, .ref a15, .ref a16, .ref a17]), (a1, aI G 800 (fun _ => 0)), (a2, ob 3 [.ref a1, .int 0, .int 0, .int (-1), .ref a4, .ref a18, .int 0])] s.heap _ _ := hw.sub [0, 1, 2] rfl rfl
  exact r_vret cx hr hlk () trivial hw (Nat.le_of_ble_eq_true rfl) (Nat.le_of_ble_eq_true rfl) dX11_takeTape_16

set_option maxHeartbeats 4000000 in
set_option maxRecDepth 100000 in
theorem a_X3_clear_9 (l : Launch) (G : Gt) (a0 : Nat) (a1 : Nat) (a2 : Nat) (a3 : Nat) (a4 : Nat) (a5 : Nat) (a6 : Nat) (a7 : Nat) (a8 : Nat) (a9 : Nat) (a10 : Nat) (a11 : Nat) (a12 : Nat) (a13 : Nat) (a14 : Nat) (a15 : Nat) (a16 : Nat) (a17 : Nat) (a18 : Nat) (a19 : Nat) (a20 : Nat) (a21 : Nat) (a22 : Nat) (a23 : Nat) (a24 : Nat) (a25 : Nat) (a26 : Nat) (a27 : Nat) (a28 : Nat) (a29 : Nat) (a30 : Nat) (a31 : Nat) (a32 : Nat) (a33 : Nat) (a34 : Nat) (a35 : Nat) (a36 : Nat) (a37 : Nat) (a38 : Nat) (a39 : Nat) (a40 : Nat) (a41 : Nat) (a42 : Nat) (a43 : Nat) (a44 : Nat) (a45 : Nat) (a46 : Nat) (a47 : Nat) (a48 : Nat) (a49 : Nat) (a50 : Nat) (a51 : Nat) (a52 : Nat) (a53 : Nat) (a54 : Nat) (a55 : Nat) (a56 : Nat) (a57 : Nat) (a58 : Nat) (a59 : Nat) (a60 : Nat) (a61 : Nat) (a62 : Nat) (a63 : Nat) (a64 : Nat) (a65 : Nat) (a66 : Nat) (a67 : Nat) (a68 : Nat) (a69 : Nat) (a70 : Nat) : Mt l yX3_clear cX3_clear 2 none ({ frames := 0, cells := 0, slots := 0, locals := 0 } : Room) G [.ref a0] [(a1, ob 2 [.int 0, .int 0, .int 0, .ref a2, .ref a3, .ref a4, .ref a5, .ref a6, .ref a7]), (a4, aI G 72 (fl_fill (-1) 0 72)), (a0, ob 2 [.int 0, .int 0, .int 0, .ref a8, .ref a9, .ref a10, .ref a11, .ref a12, .ref a13]), (a10, aI G 72 (fl_fill (-1) 0 72)), (a14, ob 1 [.ref a15, .ref a16, .int 0, .int 0]), (a17, ob 1 [.ref a18, .ref a19, .int 0, .int 0]), (a20, ob 1 [.ref a21, .ref a22, .int 0, .int 0]), (a23, ob 1 [.ref a24, .ref a25, .int 0, .int 0]), (a26, ob 9 [.int 6, .int 3, .int 120, .ref a27, .ref a28, .ref a1, .int 0, .int 0, .int 0, .int 0, .ref a29, .ref a30, .int 0, .int 0, .ref a31, .ref a32, .ref a33, .ref a34]), (a28, ob 4 [.int 0, .int 0, .int 0, .int 0, .int 0, .int 0, .int 0, .ref a35, .ref a36, .ref a37, .ref a38, .ref a39, .ref a40, .ref a41]), (a42, ob 6 [.ref a27, .ref a43, .ref a44, .ref a1, .ref a45, .int (-1)]), (a44, aJ G 5 (fun _ => 0)), (a43, aJ G 8 (fun _ => 0)), (a45, ob 0 [.int (-1), .int 0, .int 0, .int 0, .int 0, .int 0, .int 0, .ref a46, .ref a47, .ref a48]), (a47, aI G 8 (fun _ => 0)), (a48, ob 1 [.ref a49, .ref a50, .int 0, .int 0]), (a27, ob 7 [.ref a51, .ref a52, .ref a53, .ref a54, .ref a55, .int 0, .ref a56, .int 0, .ref a57, .ref a58, .int 0]), (a59, ob 1 [.ref a60, .ref a61, .int 0, .int 0]), (a62, ob 8 [.ref a63, .int 0]), (a64, ob 10 [.ref a65, .int 0, .int (-1), .ref a66, .ref a1, .ref a0, .ref a14, .ref a17, .ref a20, .ref a23, .int 0, .ref a26, .ref a28, .ref a42, .ref a67, .ref a45, .ref a68, .ref a69, .ref a59, .ref a62]), (a65, aI G 800 (fun _ => 0)), (a66, ob 3 [.ref a65, .int 0, .int 0, .int (-1), .ref a0, .ref a70, .int 0])] (qV G (fun (w : Nat → Int32) => True) (fun w => [(a1, ob 2 [.int 0, .int 0, .int 0, .ref a2, .ref a3, .ref a4, .ref a5, .ref a6, .ref a7]), (a4, aI G 72 (fl_fill (-1) 0 72)), (a0, ob 2 [.int 0, .int 0, .int 0, .ref a8, .ref a9, .ref a10, .ref a11, .ref a12, .ref a13]), (a10, aI G 72 (w)), (a14, ob 1 [.ref a15, .ref a16, .int 0, .int 0]), (a17, ob 1 [.ref a18, .ref a19, .int 0, .int 0]), (a20, ob 1 [.ref a21, .ref a22, .int 0, .int 0]), (a23, ob 1 [.ref a24, .ref a25, .int 0, .int 0]), (a26, ob 9 [.int 6, .int 3, .int 120, .ref a27, .ref a28, .ref a1, .int 0, .int 0, .int 0, .int 0, .ref a29, .ref a30, .int 0, .int 0, .ref a31, .ref a32, .ref a33, .ref a34]), (a28, ob 4 [.int 0, .int 0, .int 0, .int 0, .int 0, .int 0, .int 0, .ref a35, .ref a36, .ref a37, .ref a38, .ref a39, .ref a40, .ref a41]), (a42, ob 6 [.ref a27, .ref a43, .ref a44, .ref a1, .ref a45, .int (-1)]), (a44, aJ G 5 (fun _ => 0)), (a43, aJ G 8 (fun _ => 0)), (a45, ob 0 [.int (-1), .int 0, .int 0, .int 0, .int 0, .int 0, .int 0, .ref a46, .ref a47, .ref a48]), (a47, aI G 8 (fun _ => 0)), (a48, ob 1 [.ref a49, .ref a50, .int 0, .int 0]), (a27, ob 7 [.ref a51, .ref a52, .ref a53, .ref a54, .ref a55, .int 0, .ref a56, .int 0, .ref a57, .ref a58, .int 0]), (a59, ob 1 [.ref a60, .ref a61, .int 0, .int 0]), (a62, ob 8 [.ref a63, .int 0]), (a64, ob 10 [.ref a65, .int 0, .int (-1), .ref a66, .ref a1, .ref a0, .ref a14, .ref a17, .ref a20, .ref a23, .int 0, .ref a26, .ref a28, .ref a42, .ref a67, .ref a45, .ref a68, .ref a69, .ref a59, .ref a62]), (a65, aI G 800 (fun _ => 0)), (a66, ob 3 [.ref a65, .int 0, .int 0, .int (-1), .ref a0, .ref a70, .int 0])])) := by
  refine Mt.of (own := RX3) (cc := cX3_clear) (by decide) rfl (Nat.le_of_ble_eq_true rfl) ?_
  intro p e s m below meth c A ls cx hr hlk hmn hA hl hw
  have hx := cx.1
  have hb := cx.2.1
  have hl : lv_has ls 2 [(0, .ref a0)] := hl
  refine lv_aload_n hx hb dX3_clear_0 rfl (lv_at hl 0 rfl) ?_
  refine lv_iconst (v := 0) hx hb dX3_clear_1 (by decide) ?_
  refine r_put cx hw inX3 (ci := 2) rfl tyX3_ok nmX3 2 rfl 0 (by decide) fl_X3_30 rfl rfl rfl (Nat.le_of_ble_eq_true rfl) (ws' := [(a1, ob 2 [.int 0, .int 0, .int 0, .ref a2, .ref a3, .ref a4, .ref a5, .ref a6, .ref a7]), (a4, aI G 72 (fl_fill (-1) 0 72)), (a0, ob 2 [.int 0, .int 0, .int 0, .ref a8, .ref a9, .ref a10, .ref a11, .ref a12, .ref a13]), (a10, aI G 72 (fl_fill (-1) 0 72)), (a14, ob 1 [.ref a15, .ref a16, .int 0, .int 0]), (a17, ob 1 [.ref a18, .ref a19, .int 0, .int 0]), (a20, ob 1 [.ref a21, .ref a22, .int 0, .int 0]), (a23, ob 1 [.ref a24, .ref a25, .int 0, .int 0]), (a26, ob 9 [.int 6, .int 3, .int 120, .ref a27, .ref a28, .ref a1, .int 0, .int 0, .int 0, .int 0, .ref a29, .ref a30, .int 0, .int 0, .ref a31, .ref a32, .ref a33, .ref a34]), (a28, ob 4 [.int 0, .int 0, .int 0, .int 0, .int 0, .int 0, .int 0, .ref a35, .ref a36, .ref a37, .ref a38, .ref a39, .ref a40, .ref a41]), (a42, ob 6 [.ref a27, .ref a43, .ref a44, .ref a1, .ref a45, .int (-1)]), (a44, aJ G 5 (fun _ => 0)), (a43, aJ G 8 (fun _ => 0)), (a45, ob 0 [.int (-1), .int 0, .int 0, .int 0, .int 0, .int 0, .int 0, .ref a46, .ref a47, .ref a48]), (a47, aI G 8 (fun _ => 0)), (a48, ob 1 [.ref a49, .ref a50, .int 0, .int 0]), (a27, ob 7 [.ref a51, .ref a52, .ref a53, .ref a54, .ref a55, .int 0, .ref a56, .int 0, .ref a57, .ref a58, .int 0]), (a59, ob 1 [.ref a60, .ref a61, .int 0, .int 0]), (a62, ob 8 [.ref a63, .int 0]), (a64, ob 10 [.ref a65, .int 0, .int (-1), .ref a66, .ref a1, .ref a0, .ref a14, .ref a17, .ref a20, .ref a23, .int 0, .ref a26, .ref a28, .ref a42, .ref a67, .ref a45, .ref a68, .ref a69, .ref a59, .ref a62]), (a65, aI G 800 (fun _ => 0)), (a66, ob 3 [.ref a65, .int 0, .int 0, .int (-1), .ref a0, .ref a70, .int 0])]) rfl dX3_clear_2 (fun H locs hw => ?_)
  refine lv_aload_n hx hb dX3_clear_5 rfl (lv_at hl 0 rfl) ?_
  refine lv_iconst (v := 0) hx hb dX3_clear_6 (by decide) ?_
  refine r_put cx hw inX3 (ci := 2) rfl tyX3_ok nmX3 2 rfl 1 (by decide) fl_X3_34 rfl rfl rfl (Nat.le_of_ble_eq_true rfl) (ws' := [(a1, ob 2 [.int 0, .int 0, .int 0, .ref a2, .ref a3, .ref a4, .ref a5, .ref a6, .ref a7]), (a4, aI G 72 (fl_fill (-1) 0 72)), (a0, ob 2 [.int 0, .int 0, .int 0, .ref a8, .ref a9, .ref a10, .ref a11, .ref a12, .ref a13]), (a10, aI G 72 (fl_fill (-1) 0 72)), (a14, ob 1 [.ref a15, .ref a16, .int 0, .int 0]), (a17, ob 1 [.ref a18, .ref a19, .int 0, .int 0]), (a20, ob 1 [.ref a21, .ref a22, .int 0, .int 0]), (a23, ob 1 [.ref a24, .ref a25, .int 0, .int 0]), (a26, ob 9 [.int 6, .int 3, .int 120, .ref a27, .ref a28, .ref a1, .int 0, .int 0, .int 0, .int 0, .ref a29, .ref a30, .int 0, .int 0, .ref a31, .ref a32, .ref a33, .ref a34]), (a28, ob 4 [.int 0, .int 0, .int 0, .int 0, .int 0, .int 0, .int 0, .ref a35, .ref a36, .ref a37, .ref a38, .ref a39, .ref a40, .ref a41]), (a42, ob 6 [.ref a27, .ref a43, .ref a44, .ref a1, .ref a45, .int (-1)]), (a44, aJ G 5 (fun _ => 0)), (a43, aJ G 8 (fun _ => 0)), (a45, ob 0 [.int (-1), .int 0, .int 0, .int 0, .int 0, .int 0, .int 0, .ref a46, .ref a47, .ref a48]), (a47, aI G 8 (fun _ => 0)), (a48, ob 1 [.ref a49, .ref a50, .int 0, .int 0]), (a27, ob 7 [.ref a51, .ref a52, .ref a53, .ref a54, .ref a55, .int 0, .ref a56, .int 0, .ref a57, .ref a58, .int 0]), (a59, ob 1 [.ref a60, .ref a61, .int 0, .int 0]), (a62, ob 8 [.ref a63, .int 0]), (a64, ob 10 [.ref a65, .int 0, .int (-1), .ref a66, .ref a1, .ref a0, .ref a14, .ref a17, .ref a20, .ref a23, .int 0, .ref a26, .ref a28, .ref a42, .ref a67, .ref a45, .ref a68, .ref a69, .ref a59, .ref a62]), (a65, aI G 800 (fun _ => 0)), (a66, ob 3 [.ref a65, .int 0, .int 0, .int (-1), .ref a0, .ref a70, .int 0])]) rfl dX3_clear_7 (fun H locs hw => ?_)
  refine lv_aload_n hx hb dX3_clear_10 rfl (lv_at hl 0 rfl) ?_
  refine lv_iconst (v := 0) hx hb dX3_clear_11 (by decide) ?_
  refine r_put cx hw inX3 (ci := 2) rfl tyX3_ok nmX3 2 rfl 2 (by decide) fl_X3_37 rfl rfl rfl (Nat.le_of_ble_eq_true rfl) (ws' := [(a1, ob 2 [.int 0, .int 0, .int 0, .ref a2, .ref a3, .ref a4, .ref a5, .ref a6, .ref a7]), (a4, aI G 72 (fl_fill (-1) 0 72)), (a0, ob 2 [.int 0, .int 0, .int 0, .ref a8, .ref a9, .ref a10, .ref a11, .ref a12, .ref a13]), (a10, aI G 72 (fl_fill (-1) 0 72)), (a14, ob 1 [.ref a15, .ref a16, .int 0, .int 0]), (a17, ob 1 [.ref a18, .ref a19, .int 0, .int 0]), (a20, ob 1 [.ref a21, .ref a22, .int 0, .int 0]), (a23, ob 1 [.ref a24, .ref a25, .int 0, .int 0]), (a26, ob 9 [.int 6, .int 3, .int 120, .ref a27, .ref a28, .ref a1, .int 0, .int 0, .int 0, .int 0, .ref a29, .ref a30, .int 0, .int 0, .ref a31, .ref a32, .ref a33, .ref a34]), (a28, ob 4 [.int 0, .int 0, .int 0, .int 0, .int 0, .int 0, .int 0, .ref a35, .ref a36, .ref a37, .ref a38, .ref a39, .ref a40, .ref a41]), (a42, ob 6 [.ref a27, .ref a43, .ref a44, .ref a1, .ref a45, .int (-1)]), (a44, aJ G 5 (fun _ => 0)), (a43, aJ G 8 (fun _ => 0)), (a45, ob 0 [.int (-1), .int 0, .int 0, .int 0, .int 0, .int 0, .int 0, .ref a46, .ref a47, .ref a48]), (a47, aI G 8 (fun _ => 0)), (a48, ob 1 [.ref a49, .ref a50, .int 0, .int 0]), (a27, ob 7 [.ref a51, .ref a52, .ref a53, .ref a54, .ref a55, .int 0, .ref a56, .int 0, .ref a57, .ref a58, .int 0]), (a59, ob 1 [.ref a60, .ref a61, .int 0, .int 0]), (a62, ob 8 [.ref a63, .int 0]), (a64, ob 10 [.ref a65, .int 0, .int (-1), .ref a66, .ref a1, .ref a0, .ref a14, .ref a17, .ref a20, .ref a23, .int 0, .ref a26, .ref a28, .ref a42, .ref a67, .ref a45, .ref a68, .ref a69, .ref a59, .ref a62]), (a65, aI G 800 (fun _ => 0)), (a66, ob 3 [.ref a65, .int 0, .int 0, .int (-1), .ref a0, .ref a70, .int 0])]) rfl dX3_clear_12 (fun H locs hw => ?_)
  refine lv_iconst (v := 0) hx hb dX3_clear_15 (by decide) ?_
  refine lv_istore_n (lv' := [(1, .int 0), (0, .ref a0)]) hx hb dX3_clear_16 rfl hl (by decide) rfl (fun ls hl => ?_)
  refine r_loop (N := 72) (fun k H locs ls => lv_has ls 2 [(1, .int (nI k)), (0, .ref a0)] ∧ ∃ v900 : Nat → Int32, Wd G A [(a1, ob 2 [.int 0, .int 0, .int 0, .ref a2, .ref a3, .ref a4, .ref a5, .ref a6, .ref a7]), (a4, aI G 72 (fl_fill (-1) 0 72)), (a0, ob 2 [.int 0, .int 0, .int 0, .ref a8, .ref a9, .ref a10, .ref a11, .ref a12, .ref a13]), (a10, aI G 72 (v900)), (a14, ob 1 [.ref a15, .ref a16, .int 0, .int 0]), (a17, ob 1 [.ref a18, .ref a19, .int 0, .int 0]), (a20, ob 1 [.ref a21, .ref a22, .int 0, .int 0]), (a23, ob 1 [.ref a24, .ref a25, .int 0, .int 0]), (a26, ob 9 [.int 6, .int 3, .int 120, .ref a27, .ref a28, .ref a1, .int 0, .int 0, .int 0, .int 0, .ref a29, .ref a30, .int 0, .int 0, .ref a31, .ref a32, .ref a33, .ref a34]), (a28, ob 4 [.int 0, .int 0, .int 0, .int 0, .int 0, .int 0, .int 0, .ref a35, .ref a36, .ref a37, .ref a38, .ref a39, .ref a40, .ref a41]), (a42, ob 6 [.ref a27, .ref a43, .ref a44, .ref a1, .ref a45, .int (-1)]), (a44, aJ G 5 (fun _ => 0)), (a43, aJ G 8 (fun _ => 0)), (a45, ob 0 [.int (-1), .int 0, .int 0, .int 0, .int 0, .int 0, .int 0, .ref a46, .ref a47, .ref a48]), (a47, aI G 8 (fun _ => 0)), (a48, ob 1 [.ref a49, .ref a50, .int 0, .int 0]), (a27, ob 7 [.ref a51, .ref a52, .ref a53, .ref a54, .ref a55, .int 0, .ref a56, .int 0, .ref a57, .ref a58, .int 0]), (a59, ob 1 [.ref a60, .ref a61, .int 0, .int 0]), (a62, ob 8 [.ref a63, .int 0]), (a64, ob 10 [.ref a65, .int 0, .int (-1), .ref a66, .ref a1, .ref a0, .ref a14, .ref a17, .ref a20, .ref a23, .int 0, .ref a26, .ref a28, .ref a42, .ref a67, .ref a45, .ref a68, .ref a69, .ref a59, .ref a62]), (a65, aI G 800 (fun _ => 0)), (a66, ob 3 [.ref a65, .int 0, .int 0, .int (-1), .ref a0, .ref a70, .int 0])] s.heap H locs) ?_ ?_ 0 (Nat.zero_le _) _ _ _ ⟨lv_sub hl [0, 1] rfl, _, hw⟩
  · intro H locs ls h9
    obtain ⟨hl, v900, hw⟩ := h9
    have hl : lv_has ls 2 [(1, .int 72), (0, .ref a0)] := hl
    have hw : Wd G A [(a1, ob 2 [.int 0, .int 0, .int 0, .ref a2, .ref a3, .ref a4, .ref a5, .ref a6, .ref a7]), (a4, aI G 72 (fl_fill (-1) 0 72)), (a0, ob 2 [.int 0, .int 0, .int 0, .ref a8, .ref a9, .ref a10, .ref a11, .ref a12, .ref a13]), (a10, aI G 72 (v900)), (a14, ob 1 [.ref a15, .ref a16, .int 0, .int 0]), (a17, ob 1 [.ref a18, .ref a19, .int 0, .int 0]), (a20, ob 1 [.ref a21, .ref a22, .int 0, .int 0]), (a23, ob 1 [.ref a24, .ref a25, .int 0, .int 0]), (a26, ob 9 [.int 6, .int 3, .int 120, .ref a27, .ref a28, .ref a1, .int 0, .int 0, .int 0, .int 0, .ref a29, .ref a30, .int 0, .int 0, .ref a31, .ref a32, .ref a33, .ref a34]), (a28, ob 4 [.int 0, .int 0, .int 0, .int 0, .int 0, .int 0, .int 0, .ref a35, .ref a36, .ref a37, .ref a38, .ref a39, .ref a40, .ref a41]), (a42, ob 6 [.ref a27, .ref a43, .ref a44, .ref a1, .ref a45, .int (-1)]), (a44, aJ G 5 (fun _ => 0)), (a43, aJ G 8 (fun _ => 0)), (a45, ob 0 [.int (-1), .int 0, .int 0, .int 0, .int 0, .int 0, .int 0, .ref a46, .ref a47, .ref a48]), (a47, aI G 8 (fun _ => 0)), (a48, ob 1 [.ref a49, .ref a50, .int 0, .int 0]), (a27, ob 7 [.ref a51, .ref a52, .ref a53, .ref a54, .ref a55, .int 0, .ref a56, .int 0, .ref a57, .ref a58, .int 0]), (a59, ob 1 [.ref a60, .ref a61, .int 0, .int 0]), (a62, ob 8 [.ref a63, .int 0]), (a64, ob 10 [.ref a65, .int 0, .int (-1), .ref a66, .ref a1, .ref a0, .ref a14, .ref a17, .ref a20, .ref a23, .int 0, .ref a26, .ref a28, .ref a42, .ref a67, .ref a45, .ref a68, .ref a69, .ref a59, .ref a62]), (a65, aI G 800 (fun _ => 0)), (a66, ob 3 [.ref a65, .int 0, .int 0, .int (-1), .ref a0, .ref a70, .int 0])] s.heap _ _ := hw
    refine lv_iload_n hx hb dX3_clear_17 rfl (lv_at hl 0 rfl) ?_
    refine lv_bipush (v := 72) hx hb dX3_clear_18 (by decide) ?_
    refine lv_icmp_ge (tgt := 36) hx hb dX3_clear_20 (by decide) (fun _ => ?_) (fun c9 => absurd (by decide) c9)
    have hw : Wd G A [(a1, ob 2 [.int 0, .int 0, .int 0, .ref a2, .ref a3, .ref a4, .ref a5, .ref a6, .ref a7]), (a4, aI G 72 (fl_fill (-1) 0 72)), (a0, ob 2 [.int 0, .int 0, .int 0, .ref a8, .ref a9, .ref a10, .ref a11, .ref a12, .ref a13]), (a10, aI G 72 (v900)), (a14, ob 1 [.ref a15, .ref a16, .int 0, .int 0]), (a17, ob 1 [.ref a18, .ref a19, .int 0, .int 0]), (a20, ob 1 [.ref a21, .ref a22, .int 0, .int 0]), (a23, ob 1 [.ref a24, .ref a25, .int 0, .int 0]), (a26, ob 9 [.int 6, .int 3, .int 120, .ref a27, .ref a28, .ref a1, .int 0, .int 0, .int 0, .int 0, .ref a29, .ref a30, .int 0, .int 0, .ref a31, .ref a32, .ref a33, .ref a34]), (a28, ob 4 [.int 0, .int 0, .int 0, .int 0, .int 0, .int 0, .int 0, .ref a35, .ref a36, .ref a37, .ref a38, .ref a39, .ref a40, .ref a41]), (a42, ob 6 [.ref a27, .ref a43, .ref a44, .ref a1, .ref a45, .int (-1)]), (a44, aJ G 5 (fun _ => 0)), (a43, aJ G 8 (fun _ => 0)), (a45, ob 0 [.int (-1), .int 0, .int 0, .int 0, .int 0, .int 0, .int 0, .ref a46, .ref a47, .ref a48]), (a47, aI G 8 (fun _ => 0)), (a48, ob 1 [.ref a49, .ref a50, .int 0, .int 0]), (a27, ob 7 [.ref a51, .ref a52, .ref a53, .ref a54, .ref a55, .int 0, .ref a56, .int 0, .ref a57, .ref a58, .int 0]), (a59, ob 1 [.ref a60, .ref a61, .int 0, .int 0]), (a62, ob 8 [.ref a63, .int 0]), (a64, ob 10 [.ref a65, .int 0, .int (-1), .ref a66, .ref a1, .ref a0, .ref a14, .ref a17, .ref a20, .ref a23, .int 0, .ref a26, .ref a28, .ref a42, .ref a67, .ref a45, .ref a68, .ref a69, .ref a59, .ref a62]), (a65, aI G 800 (fun _ => 0)), (a66, ob 3 [.ref a65, .int 0, .int 0, .int (-1), .ref a0, .ref a70, .int 0])] s.heap _ _ := hw.sub [0, 1, 2, 3, 4, 5, 6, 7, 8, 9, 10, 11, 12, 13, 14, 15, 16, 17, 18, 19, 20, 21] rfl rfl
    exact r_vret cx hr hlk (v900) trivial hw (Nat.le_of_ble_eq_true rfl) (Nat.le_of_ble_eq_true rfl) dX3_clear_36
  · intro k H locs ls hk h9 ih
    obtain ⟨hl, v900, hw⟩ := h9
    refine lv_iload_n hx hb dX3_clear_17 rfl (lv_at hl 0 rfl) ?_
    refine lv_bipush (v := 72) hx hb dX3_clear_18 (by decide) ?_
    refine lv_icmp_ge (tgt := 36) hx hb dX3_clear_20 (by decide) (fun c9 => absurd c9 (nI_ge hk (by decide))) (fun _ => ?_)
    refine lv_aload_n hx hb dX3_clear_23 rfl (lv_at hl 1 rfl) ?_
    refine r_get cx hw inX3 (ci := 2) rfl 2 rfl 5 (by decide) fl_X3_18 rfl dX3_clear_24 ?_
    refine lv_iload_n hx hb dX3_clear_27 rfl (lv_at hl 0 rfl) ?_
    refine lv_iconst (v := (-1)) hx hb dX3_clear_28 (by decide) ?_
    refine r_iast cx hw 3 rfl (vp_in_nI hk (by decide)) (ws' := [(a1, ob 2 [.int 0, .int 0, .int 0, .ref a2, .ref a3, .ref a4, .ref a5, .ref a6, .ref a7]), (a4, aI G 72 (fl_fill (-1) 0 72)), (a0, ob 2 [.int 0, .int 0, .int 0, .ref a8, .ref a9, .ref a10, .ref a11, .ref a12, .ref a13]), (a10, aI G 72 (upd (v900) ((nI k)).toNatClampNeg (-1))), (a14, ob 1 [.ref a15, .ref a16, .int 0, .int 0]), (a17, ob 1 [.ref a18, .ref a19, .int 0, .int 0]), (a20, ob 1 [.ref a21, .ref a22, .int 0, .int 0]), (a23, ob 1 [.ref a24, .ref a25, .int 0, .int 0]), (a26, ob 9 [.int 6, .int 3, .int 120, .ref a27, .ref a28, .ref a1, .int 0, .int 0, .int 0, .int 0, .ref a29, .ref a30, .int 0, .int 0, .ref a31, .ref a32, .ref a33, .ref a34]), (a28, ob 4 [.int 0, .int 0, .int 0, .int 0, .int 0, .int 0, .int 0, .ref a35, .ref a36, .ref a37, .ref a38, .ref a39, .ref a40, .ref a41]), (a42, ob 6 [.ref a27, .ref a43, .ref a44, .ref a1, .ref a45, .int (-1)]), (a44, aJ G 5 (fun _ => 0)), (a43, aJ G 8 (fun _ => 0)), (a45, ob 0 [.int (-1), .int 0, .int 0, .int 0, .int 0, .int 0, .int 0, .ref a46, .ref a47, .ref a48]), (a47, aI G 8 (fun _ => 0)), (a48, ob 1 [.ref a49, .ref a50, .int 0, .int 0]), (a27, ob 7 [.ref a51, .ref a52, .ref a53, .ref a54, .ref a55, .int 0, .ref a56, .int 0, .ref a57, .ref a58, .int 0]), (a59, ob 1 [.ref a60, .ref a61, .int 0, .int 0]), (a62, ob 8 [.ref a63, .int 0]), (a64, ob 10 [.ref a65, .int 0, .int (-1), .ref a66, .ref a1, .ref a0, .ref a14, .ref a17, .ref a20, .ref a23, .int 0, .ref a26, .ref a28, .ref a42, .ref a67, .ref a45, .ref a68, .ref a69, .ref a59, .ref a62]), (a65, aI G 800 (fun _ => 0)), (a66, ob 3 [.ref a65, .int 0, .int 0, .int (-1), .ref a0, .ref a70, .int 0])]) rfl dX3_clear_29 (fun H locs hw => ?_)
    refine lv_iinc (v := nI (k + 1)) (lv' := [(1, .int (nI (k + 1))), (0, .ref a0)]) hx hb dX3_clear_30 hl (k := 0) rfl (nI_1 k) (by decide) rfl (fun ls hl => ?_)
    refine lv_goto (tgt := 17) hx hb dX3_clear_33 (by decide) ?_
    exact ih H locs ls ⟨lv_sub hl [0, 1] rfl, _, hw.sub [0, 1, 2, 3, 4, 5, 6, 7, 8, 9, 10, 11, 12, 13, 14, 15, 16, 17, 18, 19, 20, 21] rfl rfl⟩

set_option maxHeartbeats 4000000 in
set_option maxRecDepth 100000 in
theorem a_X4_isWell_10 (l : Launch) (G : Gt) (a0 : Nat) (a1 : Nat) (a2 : Nat) (a3 : Nat) : Mt l yX4_isWell cX4_isWell 1 (some .boolean) ({ frames := 0, cells := 0, slots := 0, locals := 0 } : Room) G [.ref a0] [(a0, ob 3 [.ref a1, .int 0, .int 0, .int (-1), .ref a2, .ref a3, .int 0])] (qI G (fun (r : Int32) (w : Unit) => r = 1) (fun w => [(a0, ob 3 [.ref a1, .int 0, .int 0, .int (-1), .ref a2, .ref a3, .int 0])])) := by
  refine Mt.of (own := RX4) (cc := cX4_isWell) (by decide) rfl (Nat.le_of_ble_eq_true rfl) ?_
  intro p e s m below meth c A ls cx hr hlk hmn hA hl hw
  have hx := cx.1
  have hb := cx.2.1
  have hl : lv_has ls 1 [(0, .ref a0)] := hl
  refine lv_aload_n hx hb dX4_isWell_0 rfl (lv_at hl 0 rfl) ?_
  refine r_get cx hw inX4 (ci := 3) rfl 0 rfl 3 (by decide) fl_X4_22 rfl dX4_isWell_1 ?_
  refine lv_iconst (v := (-1)) hx hb dX4_isWell_4 (by decide) ?_
  refine lv_icmp_ne (tgt := 12) hx hb dX4_isWell_5 (by decide) (fun c9 => absurd (by decide) c9) (fun _ => ?_)
  refine lv_iconst (v := 1) hx hb dX4_isWell_8 (by decide) ?_
  refine lv_goto (tgt := 13) hx hb dX4_isWell_9 (by decide) ?_
  have hw : Wd G A [(a0, ob 3 [.ref a1, .int 0, .int 0, .int (-1), .ref a2, .ref a3, .int 0])] s.heap _ _ := hw.sub [0] rfl rfl
  exact r_zret cx hr rfl hlk () rfl hw (Nat.le_of_ble_eq_true rfl) (Nat.le_of_ble_eq_true rfl) dX4_isWell_13

set_option maxHeartbeats 4000000 in
set_option maxRecDepth 100000 in
theorem a_X3_clear_12 (l : Launch) (G : Gt) (a0 : Nat) (a1 : Nat) (a2 : Nat) (a3 : Nat) (a4 : Nat) (a5 : Nat) (a6 : Nat) (a7 : Nat) (a8 : Nat) (a9 : Nat) (a10 : Nat) (a11 : Nat) (a12 : Nat) (a13 : Nat) (a14 : Nat) (a15 : Nat) (a16 : Nat) (a17 : Nat) (a18 : Nat) (a19 : Nat) (a20 : Nat) (a21 : Nat) (a22 : Nat) (a23 : Nat) (a24 : Nat) (a25 : Nat) (a26 : Nat) (a27 : Nat) (a28 : Nat) (a29 : Nat) (a30 : Nat) (a31 : Nat) (a32 : Nat) (a33 : Nat) (a34 : Nat) (a35 : Nat) (a36 : Nat) (a37 : Nat) (a38 : Nat) (a39 : Nat) (a40 : Nat) (a41 : Nat) (a42 : Nat) (a43 : Nat) (a44 : Nat) (a45 : Nat) (a46 : Nat) (a47 : Nat) (a48 : Nat) (a49 : Nat) (a50 : Nat) (a51 : Nat) (a52 : Nat) (a53 : Nat) (a54 : Nat) (a55 : Nat) (a56 : Nat) (a57 : Nat) (a58 : Nat) (a59 : Nat) (a60 : Nat) (a61 : Nat) (a62 : Nat) (a63 : Nat) (a64 : Nat) (a65 : Nat) (a66 : Nat) (a67 : Nat) (a68 : Nat) (a69 : Nat) (a70 : Nat) : Mt l yX3_clear cX3_clear 2 none ({ frames := 0, cells := 0, slots := 0, locals := 0 } : Room) G [.ref a0] [(a1, ob 2 [.int 0, .int 0, .int 0, .ref a2, .ref a3, .ref a4, .ref a5, .ref a6, .ref a7]), (a4, aI G 72 (fl_fill (-1) 0 72)), (a0, ob 2 [.int 0, .int 0, .int 0, .ref a8, .ref a9, .ref a10, .ref a11, .ref a12, .ref a13]), (a10, aI G 72 (fl_fill (-1) 0 72)), (a14, ob 1 [.ref a15, .ref a16, .int 0, .int 0]), (a17, ob 1 [.ref a18, .ref a19, .int 0, .int 0]), (a20, ob 1 [.ref a21, .ref a22, .int 0, .int 0]), (a23, ob 1 [.ref a24, .ref a25, .int 0, .int 0]), (a26, ob 9 [.int 6, .int 3, .int 120, .ref a27, .ref a28, .ref a1, .int 0, .int 0, .int 0, .int 0, .ref a29, .ref a30, .int 0, .int 0, .ref a31, .ref a32, .ref a33, .ref a34]), (a28, ob 4 [.int 0, .int 0, .int 0, .int 0, .int 0, .int 0, .int 0, .ref a35, .ref a36, .ref a37, .ref a38, .ref a39, .ref a40, .ref a41]), (a42, ob 6 [.ref a27, .ref a43, .ref a44, .ref a1, .ref a45, .int (-1)]), (a44, aJ G 5 (fun _ => 0)), (a43, aJ G 8 (fun _ => 0)), (a45, ob 0 [.int (-1), .int 0, .int 0, .int 0, .int 0, .int 0, .int 0, .ref a46, .ref a47, .ref a48]), (a47, aI G 8 (fun _ => 0)), (a48, ob 1 [.ref a49, .ref a50, .int 0, .int 0]), (a27, ob 7 [.ref a51, .ref a52, .ref a53, .ref a54, .ref a55, .int 0, .ref a56, .int 0, .ref a57, .ref a58, .int 0]), (a59, ob 1 [.ref a60, .ref a61, .int 0, .int 0]), (a62, ob 8 [.ref a63, .int 0]), (a64, ob 10 [.ref a65, .int 0, .int (-1), .ref a66, .ref a1, .ref a0, .ref a14, .ref a17, .ref a20, .ref a23, .int 0, .ref a26, .ref a28, .ref a42, .ref a67, .ref a45, .ref a68, .ref a69, .ref a59, .ref a62]), (a65, aI G 800 (fun _ => 0)), (a66, ob 3 [.ref a65, .int 0, .int 0, .int (-1), .ref a0, .ref a70, .int 0])] (qV G (fun (w : Nat → Int32) => True) (fun w => [(a1, ob 2 [.int 0, .int 0, .int 0, .ref a2, .ref a3, .ref a4, .ref a5, .ref a6, .ref a7]), (a4, aI G 72 (fl_fill (-1) 0 72)), (a0, ob 2 [.int 0, .int 0, .int 0, .ref a8, .ref a9, .ref a10, .ref a11, .ref a12, .ref a13]), (a10, aI G 72 (w)), (a14, ob 1 [.ref a15, .ref a16, .int 0, .int 0]), (a17, ob 1 [.ref a18, .ref a19, .int 0, .int 0]), (a20, ob 1 [.ref a21, .ref a22, .int 0, .int 0]), (a23, ob 1 [.ref a24, .ref a25, .int 0, .int 0]), (a26, ob 9 [.int 6, .int 3, .int 120, .ref a27, .ref a28, .ref a1, .int 0, .int 0, .int 0, .int 0, .ref a29, .ref a30, .int 0, .int 0, .ref a31, .ref a32, .ref a33, .ref a34]), (a28, ob 4 [.int 0, .int 0, .int 0, .int 0, .int 0, .int 0, .int 0, .ref a35, .ref a36, .ref a37, .ref a38, .ref a39, .ref a40, .ref a41]), (a42, ob 6 [.ref a27, .ref a43, .ref a44, .ref a1, .ref a45, .int (-1)]), (a44, aJ G 5 (fun _ => 0)), (a43, aJ G 8 (fun _ => 0)), (a45, ob 0 [.int (-1), .int 0, .int 0, .int 0, .int 0, .int 0, .int 0, .ref a46, .ref a47, .ref a48]), (a47, aI G 8 (fun _ => 0)), (a48, ob 1 [.ref a49, .ref a50, .int 0, .int 0]), (a27, ob 7 [.ref a51, .ref a52, .ref a53, .ref a54, .ref a55, .int 0, .ref a56, .int 0, .ref a57, .ref a58, .int 0]), (a59, ob 1 [.ref a60, .ref a61, .int 0, .int 0]), (a62, ob 8 [.ref a63, .int 0]), (a64, ob 10 [.ref a65, .int 0, .int (-1), .ref a66, .ref a1, .ref a0, .ref a14, .ref a17, .ref a20, .ref a23, .int 0, .ref a26, .ref a28, .ref a42, .ref a67, .ref a45, .ref a68, .ref a69, .ref a59, .ref a62]), (a65, aI G 800 (fun _ => 0)), (a66, ob 3 [.ref a65, .int 0, .int 0, .int (-1), .ref a0, .ref a70, .int 0])])) := by
  refine Mt.of (own := RX3) (cc := cX3_clear) (by decide) rfl (Nat.le_of_ble_eq_true rfl) ?_
  intro p e s m below meth c A ls cx hr hlk hmn hA hl hw
  have hx := cx.1
  have hb := cx.2.1
  have hl : lv_has ls 2 [(0, .ref a0)] := hl
  refine lv_aload_n hx hb dX3_clear_0 rfl (lv_at hl 0 rfl) ?_
  refine lv_iconst (v := 0) hx hb dX3_clear_1 (by decide) ?_
  refine r_put cx hw inX3 (ci := 2) rfl tyX3_ok nmX3 2 rfl 0 (by decide) fl_X3_30 rfl rfl rfl (Nat.le_of_ble_eq_true rfl) (ws' := [(a1, ob 2 [.int 0, .int 0, .int 0, .ref a2, .ref a3, .ref a4, .ref a5, .ref a6, .ref a7]), (a4, aI G 72 (fl_fill (-1) 0 72)), (a0, ob 2 [.int 0, .int 0, .int 0, .ref a8, .ref a9, .ref a10, .ref a11, .ref a12, .ref a13]), (a10, aI G 72 (fl_fill (-1) 0 72)), (a14, ob 1 [.ref a15, .ref a16, .int 0, .int 0]), (a17, ob 1 [.ref a18, .ref a19, .int 0, .int 0]), (a20, ob 1 [.ref a21, .ref a22, .int 0, .int 0]), (a23, ob 1 [.ref a24, .ref a25, .int 0, .int 0]), (a26, ob 9 [.int 6, .int 3, .int 120, .ref a27, .ref a28, .ref a1, .int 0, .int 0, .int 0, .int 0, .ref a29, .ref a30, .int 0, .int 0, .ref a31, .ref a32, .ref a33, .ref a34]), (a28, ob 4 [.int 0, .int 0, .int 0, .int 0, .int 0, .int 0, .int 0, .ref a35, .ref a36, .ref a37, .ref a38, .ref a39, .ref a40, .ref a41]), (a42, ob 6 [.ref a27, .ref a43, .ref a44, .ref a1, .ref a45, .int (-1)]), (a44, aJ G 5 (fun _ => 0)), (a43, aJ G 8 (fun _ => 0)), (a45, ob 0 [.int (-1), .int 0, .int 0, .int 0, .int 0, .int 0, .int 0, .ref a46, .ref a47, .ref a48]), (a47, aI G 8 (fun _ => 0)), (a48, ob 1 [.ref a49, .ref a50, .int 0, .int 0]), (a27, ob 7 [.ref a51, .ref a52, .ref a53, .ref a54, .ref a55, .int 0, .ref a56, .int 0, .ref a57, .ref a58, .int 0]), (a59, ob 1 [.ref a60, .ref a61, .int 0, .int 0]), (a62, ob 8 [.ref a63, .int 0]), (a64, ob 10 [.ref a65, .int 0, .int (-1), .ref a66, .ref a1, .ref a0, .ref a14, .ref a17, .ref a20, .ref a23, .int 0, .ref a26, .ref a28, .ref a42, .ref a67, .ref a45, .ref a68, .ref a69, .ref a59, .ref a62]), (a65, aI G 800 (fun _ => 0)), (a66, ob 3 [.ref a65, .int 0, .int 0, .int (-1), .ref a0, .ref a70, .int 0])]) rfl dX3_clear_2 (fun H locs hw => ?_)
  refine lv_aload_n hx hb dX3_clear_5 rfl (lv_at hl 0 rfl) ?_
  refine lv_iconst (v := 0) hx hb dX3_clear_6 (by decide) ?_
  refine r_put cx hw inX3 (ci := 2) rfl tyX3_ok nmX3 2 rfl 1 (by decide) fl_X3_34 rfl rfl rfl (Nat.le_of_ble_eq_true rfl) (ws' := [(a1, ob 2 [.int 0, .int 0, .int 0, .ref a2, .ref a3, .ref a4, .ref a5, .ref a6, .ref a7]), (a4, aI G 72 (fl_fill (-1) 0 72)), (a0, ob 2 [.int 0, .int 0, .int 0, .ref a8, .ref a9, .ref a10, .ref a11, .ref a12, .ref a13]), (a10, aI G 72 (fl_fill (-1) 0 72)), (a14, ob 1 [.ref a15, .ref a16, .int 0, .int 0]), (a17, ob 1 [.ref a18, .ref a19, .int 0, .int 0]), (a20, ob 1 [.ref a21, .ref a22, .int 0, .int 0]), (a23, ob 1 [.ref a24, .ref a25, .int 0, .int 0]), (a26, ob 9 [.int 6, .int 3, .int 120, .ref a27, .ref a28, .ref a1, .int 0, .int 0, .int 0, .int 0, .ref a29, .ref a30, .int 0, .int 0, .ref a31, .ref a32, .ref a33, .ref a34]), (a28, ob 4 [.int 0, .int 0, .int 0, .int 0, .int 0, .int 0, .int 0, .ref a35, .ref a36, .ref a37, .ref a38, .ref a39, .ref a40, .ref a41]), (a42, ob 6 [.ref a27, .ref a43, .ref a44, .ref a1, .ref a45, .int (-1)]), (a44, aJ G 5 (fun _ => 0)), (a43, aJ G 8 (fun _ => 0)), (a45, ob 0 [.int (-1), .int 0, .int 0, .int 0, .int 0, .int 0, .int 0, .ref a46, .ref a47, .ref a48]), (a47, aI G 8 (fun _ => 0)), (a48, ob 1 [.ref a49, .ref a50, .int 0, .int 0]), (a27, ob 7 [.ref a51, .ref a52, .ref a53, .ref a54, .ref a55, .int 0, .ref a56, .int 0, .ref a57, .ref a58, .int 0]), (a59, ob 1 [.ref a60, .ref a61, .int 0, .int 0]), (a62, ob 8 [.ref a63, .int 0]), (a64, ob 10 [.ref a65, .int 0, .int (-1), .ref a66, .ref a1, .ref a0, .ref a14, .ref a17, .ref a20, .ref a23, .int 0, .ref a26, .ref a28, .ref a42, .ref a67, .ref a45, .ref a68, .ref a69, .ref a59, .ref a62]), (a65, aI G 800 (fun _ => 0)), (a66, ob 3 [.ref a65, .int 0, .int 0, .int (-1), .ref a0, .ref a70, .int 0])]) rfl dX3_clear_7 (fun H locs hw => ?_)
  refine lv_aload_n hx hb dX3_clear_10 rfl (lv_at hl 0 rfl) ?_
  refine lv_iconst (v := 0) hx hb dX3_clear_11 (by decide) ?_
  refine r_put cx hw inX3 (ci := 2) rfl tyX3_ok nmX3 2 rfl 2 (by decide) fl_X3_37 rfl rfl rfl (Nat.le_of_ble_eq_true rfl) (ws' := [(a1, ob 2 [.int 0, .int 0, .int 0, .ref a2, .ref a3, .ref a4, .ref a5, .ref a6, .ref a7]), (a4, aI G 72 (fl_fill (-1) 0 72)), (a0, ob 2 [.int 0, .int 0, .int 0, .ref a8, .ref a9, .ref a10, .ref a11, .ref a12, .ref a13]), (a10, aI G 72 (fl_fill (-1) 0 72)), (a14, ob 1 [.ref a15, .ref a16, .int 0, .int 0]), (a17, ob 1 [.ref a18, .ref a19, .int 0, .int 0]), (a20, ob 1 [.ref a21, .ref a22, .int 0, .int 0]), (a23, ob 1 [.ref a24, .ref a25, .int 0, .int 0]), (a26, ob 9 [.int 6, .int 3, .int 120, .ref a27, .ref a28, .ref a1, .int 0, .int 0, .int 0, .int 0, .ref a29, .ref a30, .int 0, .int 0, .ref a31, .ref a32, .ref a33, .ref a34]), (a28, ob 4 [.int 0, .int 0, .int 0, .int 0, .int 0, .int 0, .int 0, .ref a35, .ref a36, .ref a37, .ref a38, .ref a39, .ref a40, .ref a41]), (a42, ob 6 [.ref a27, .ref a43, .ref a44, .ref a1, .ref a45, .int (-1)]), (a44, aJ G 5 (fun _ => 0)), (a43, aJ G 8 (fun _ => 0)), (a45, ob 0 [.int (-1), .int 0, .int 0, .int 0, .int 0, .int 0, .int 0, .ref a46, .ref a47, .ref a48]), (a47, aI G 8 (fun _ => 0)), (a48, ob 1 [.ref a49, .ref a50, .int 0, .int 0]), (a27, ob 7 [.ref a51, .ref a52, .ref a53, .ref a54, .ref a55, .int 0, .ref a56, .int 0, .ref a57, .ref a58, .int 0]), (a59, ob 1 [.ref a60, .ref a61, .int 0, .int 0]), (a62, ob 8 [.ref a63, .int 0]), (a64, ob 10 [.ref a65, .int 0, .int (-1), .ref a66, .ref a1, .ref a0, .ref a14, .ref a17, .ref a20, .ref a23, .int 0, .ref a26, .ref a28, .ref a42, .ref a67, .ref a45, .ref a68, .ref a69, .ref a59, .ref a62]), (a65, aI G 800 (fun _ => 0)), (a66, ob 3 [.ref a65, .int 0, .int 0, .int (-1), .ref a0, .ref a70, .int 0])]) rfl dX3_clear_12 (fun H locs hw => ?_)
  refine lv_iconst (v := 0) hx hb dX3_clear_15 (by decide) ?_
  refine lv_istore_n (lv' := [(1, .int 0), (0, .ref a0)]) hx hb dX3_clear_16 rfl hl (by decide) rfl (fun ls hl => ?_)
  refine r_loop (N := 72) (fun k H locs ls => lv_has ls 2 [(1, .int (nI k)), (0, .ref a0)] ∧ ∃ v900 : Nat → Int32, Wd G A [(a1, ob 2 [.int 0, .int 0, .int 0, .ref a2, .ref a3, .ref a4, .ref a5, .ref a6, .ref a7]), (a4, aI G 72 (fl_fill (-1) 0 72)), (a0, ob 2 [.int 0, .int 0, .int 0, .ref a8, .ref a9, .ref a10, .ref a11, .ref a12, .ref a13]), (a10, aI G 72 (v900)), (a14, ob 1 [.ref a15, .ref a16, .int 0, .int 0]), (a17, ob 1 [.ref a18, .ref a19, .int 0, .int 0]), (a20, ob 1 [.ref a21, .ref a22, .int 0, .int 0]), (a23, ob 1 [.ref a24, .ref a25, .int 0, .int 0]), (a26, ob 9 [.int 6, .int 3, .int 120, .ref a27, .ref a28, .ref a1, .int 0, .int 0, .int 0, .int 0, .ref a29, .ref a30, .int 0, .int 0, .ref a31, .ref a32, .ref a33, .ref a34]), (a28, ob 4 [.int 0, .int 0, .int 0, .int 0, .int 0, .int 0, .int 0, .ref a35, .ref a36, .ref a37, .ref a38, .ref a39, .ref a40, .ref a41]), (a42, ob 6 [.ref a27, .ref a43, .ref a44, .ref a1, .ref a45, .int (-1)]), (a44, aJ G 5 (fun _ => 0)), (a43, aJ G 8 (fun _ => 0)), (a45, ob 0 [.int (-1), .int 0, .int 0, .int 0, .int 0, .int 0, .int 0, .ref a46, .ref a47, .ref a48]), (a47, aI G 8 (fun _ => 0)), (a48, ob 1 [.ref a49, .ref a50, .int 0, .int 0]), (a27, ob 7 [.ref a51, .ref a52, .ref a53, .ref a54, .ref a55, .int 0, .ref a56, .int 0, .ref a57, .ref a58, .int 0]), (a59, ob 1 [.ref a60, .ref a61, .int 0, .int 0]), (a62, ob 8 [.ref a63, .int 0]), (a64, ob 10 [.ref a65, .int 0, .int (-1), .ref a66, .ref a1, .ref a0, .ref a14, .ref a17, .ref a20, .ref a23, .int 0, .ref a26, .ref a28, .ref a42, .ref a67, .ref a45, .ref a68, .ref a69, .ref a59, .ref a62]), (a65, aI G 800 (fun _ => 0)), (a66, ob 3 [.ref a65, .int 0, .int 0, .int (-1), .ref a0, .ref a70, .int 0])] s.heap H locs) ?_ ?_ 0 (Nat.zero_le _) _ _ _ ⟨lv_sub hl [0, 1] rfl, _, hw⟩
  · intro H locs ls h9
    obtain ⟨hl, v900, hw⟩ := h9
    have hl : lv_has ls 2 [(1, .int 72), (0, .ref a0)] := hl
    have hw : Wd G A [(a1, ob 2 [.int 0, .int 0, .int 0, .ref a2, .ref a3, .ref a4, .ref a5, .ref a6, .ref a7]), (a4, aI G 72 (fl_fill (-1) 0 72)), (a0, ob 2 [.int 0, .int 0, .int 0, .ref a8, .ref a9, .ref a10, .ref a11, .ref a12, .ref a13]), (a10, aI G 72 (v900)), (a14, ob 1 [.ref a15, .ref a16, .int 0, .int 0]), (a17, ob 1 [.ref a18, .ref a19, .int 0, .int 0]), (a20, ob 1 [.ref a21, .ref a22, .int 0, .int 0]), (a23, ob 1 [.ref a24, .ref a25, .int 0, .int 0]), (a26, ob 9 [.int 6, .int 3, .int 120, .ref a27, .ref a28, .ref a1, .int 0, .int 0, .int 0, .int 0, .ref a29, .ref a30, .int 0, .int 0, .ref a31, .ref a32, .ref a33, .ref a34]), (a28, ob 4 [.int 0, .int 0, .int 0, .int 0, .int 0, .int 0, .int 0, .ref a35, .ref a36, .ref a37, .ref a38, .ref a39, .ref a40, .ref a41]), (a42, ob 6 [.ref a27, .ref a43, .ref a44, .ref a1, .ref a45, .int (-1)]), (a44, aJ G 5 (fun _ => 0)), (a43, aJ G 8 (fun _ => 0)), (a45, ob 0 [.int (-1), .int 0, .int 0, .int 0, .int 0, .int 0, .int 0, .ref a46, .ref a47, .ref a48]), (a47, aI G 8 (fun _ => 0)), (a48, ob 1 [.ref a49, .ref a50, .int 0, .int 0]), (a27, ob 7 [.ref a51, .ref a52, .ref a53, .ref a54, .ref a55, .int 0, .ref a56, .int 0, .ref a57, .ref a58, .int 0]), (a59, ob 1 [.ref a60, .ref a61, .int 0, .int 0]), (a62, ob 8 [.ref a63, .int 0]), (a64, ob 10 [.ref a65, .int 0, .int (-1), .ref a66, .ref a1, .ref a0, .ref a14, .ref a17, .ref a20, .ref a23, .int 0, .ref a26, .ref a28, .ref a42, .ref a67, .ref a45, .ref a68, .ref a69, .ref a59, .ref a62]), (a65, aI G 800 (fun _ => 0)), (a66, ob 3 [.ref a65, .int 0, .int 0, .int (-1), .ref a0, .ref a70, .int 0])] s.heap _ _ := hw
    refine lv_iload_n hx hb dX3_clear_17 rfl (lv_at hl 0 rfl) ?_
    refine lv_bipush (v := 72) hx hb dX3_clear_18 (by decide) ?_
    refine lv_icmp_ge (tgt := 36) hx hb dX3_clear_20 (by decide) (fun _ => ?_) (fun c9 => absurd (by decide) c9)
    have hw : Wd G A [(a1, ob 2 [.int 0, .int 0, .int 0, .ref a2, .ref a3, .ref a4, .ref a5, .ref a6, .ref a7]), (a4, aI G 72 (fl_fill (-1) 0 72)), (a0, ob 2 [.int 0, .int 0, .int 0, .ref a8, .ref a9, .ref a10, .ref a11, .ref a12, .ref a13]), (a10, aI G 72 (v900)), (a14, ob 1 [.ref a15, .ref a16, .int 0, .int 0]), (a17, ob 1 [.ref a18, .ref a19, .int 0, .int 0]), (a20, ob 1 [.ref a21, .ref a22, .int 0, .int 0]), (a23, ob 1 [.ref a24, .ref a25, .int 0, .int 0]), (a26, ob 9 [.int 6, .int 3, .int 120, .ref a27, .ref a28, .ref a1, .int 0, .int 0, .int 0, .int 0, .ref a29, .ref a30, .int 0, .int 0, .ref a31, .ref a32, .ref a33, .ref a34]), (a28, ob 4 [.int 0, .int 0, .int 0, .int 0, .int 0, .int 0, .int 0, .ref a35, .ref a36, .ref a37, .ref a38, .ref a39, .ref a40, .ref a41]), (a42, ob 6 [.ref a27, .ref a43, .ref a44, .ref a1, .ref a45, .int (-1)]), (a44, aJ G 5 (fun _ => 0)), (a43, aJ G 8 (fun _ => 0)), (a45, ob 0 [.int (-1), .int 0, .int 0, .int 0, .int 0, .int 0, .int 0, .ref a46, .ref a47, .ref a48]), (a47, aI G 8 (fun _ => 0)), (a48, ob 1 [.ref a49, .ref a50, .int 0, .int 0]), (a27, ob 7 [.ref a51, .ref a52, .ref a53, .ref a54, .ref a55, .int 0, .ref a56, .int 0, .ref a57, .ref a58, .int 0]), (a59, ob 1 [.ref a60, .ref a61, .int 0, .int 0]), (a62, ob 8 [.ref a63, .int 0]), (a64, ob 10 [.ref a65, .int 0, .int (-1), .ref a66, .ref a1, .ref a0, .ref a14, .ref a17, .ref a20, .ref a23, .int 0, .ref a26, .ref a28, .ref a42, .ref a67, .ref a45, .ref a68, .ref a69, .ref a59, .ref a62]), (a65, aI G 800 (fun _ => 0)), (a66, ob 3 [.ref a65, .int 0, .int 0, .int (-1), .ref a0, .ref a70, .int 0])] s.heap _ _ := hw.sub [0, 1, 2, 3, 4, 5, 6, 7, 8, 9, 10, 11, 12, 13, 14, 15, 16, 17, 18, 19, 20, 21] rfl rfl
    exact r_vret cx hr hlk (v900) trivial hw (Nat.le_of_ble_eq_true rfl) (Nat.le_of_ble_eq_true rfl) dX3_clear_36
  · intro k H locs ls hk h9 ih
    obtain ⟨hl, v900, hw⟩ := h9
    refine lv_iload_n hx hb dX3_clear_17 rfl (lv_at hl 0 rfl) ?_
    refine lv_bipush (v := 72) hx hb dX3_clear_18 (by decide) ?_
    refine lv_icmp_ge (tgt := 36) hx hb dX3_clear_20 (by decide) (fun c9 => absurd c9 (nI_ge hk (by decide))) (fun _ => ?_)
    refine lv_aload_n hx hb dX3_clear_23 rfl (lv_at hl 1 rfl) ?_
    refine r_get cx hw inX3 (ci := 2) rfl 2 rfl 5 (by decide) fl_X3_18 rfl dX3_clear_24 ?_
    refine lv_iload_n hx hb dX3_clear_27 rfl (lv_at hl 0 rfl) ?_
    refine lv_iconst (v := (-1)) hx hb dX3_clear_28 (by decide) ?_
    refine r_iast cx hw 3 rfl (vp_in_nI hk (by decide)) (ws' := [(a1, ob 2 [.int 0, .int 0, .int 0, .ref a2, .ref a3, .ref a4, .ref a5, .ref a6, .ref a7]), (a4, aI G 72 (fl_fill (-1) 0 72)), (a0, ob 2 [.int 0, .int 0, .int 0, .ref a8, .ref a9, .ref a10, .ref a11, .ref a12, .ref a13]), (a10, aI G 72 (upd (v900) ((nI k)).toNatClampNeg (-1))), (a14, ob 1 [.ref a15, .ref a16, .int 0, .int 0]), (a17, ob 1 [.ref a18, .ref a19, .int 0, .int 0]), (a20, ob 1 [.ref a21, .ref a22, .int 0, .int 0]), (a23, ob 1 [.ref a24, .ref a25, .int 0, .int 0]), (a26, ob 9 [.int 6, .int 3, .int 120, .ref a27, .ref a28, .ref a1, .int 0, .int 0, .int 0, .int 0, .ref a29, .ref a30, .int 0, .int 0, .ref a31, .ref a32, .ref a33, .ref a34]), (a28, ob 4 [.int 0, .int 0, .int 0, .int 0, .int 0, .int 0, .int 0, .ref a35, .ref a36, .ref a37, .ref a38, .ref a39, .ref a40, .ref a41]), (a42, ob 6 [.ref a27, .ref a43, .ref a44, .ref a1, .ref a45, .int (-1)]), (a44, aJ G 5 (fun _ => 0)), (a43, aJ G 8 (fun _ => 0)), (a45, ob 0 [.int (-1), .int 0, .int 0, .int 0, .int 0, .int 0, .int 0, .ref a46, .ref a47, .ref a48]), (a47, aI G 8 (fun _ => 0)), (a48, ob 1 [.ref a49, .ref a50, .int 0, .int 0]), (a27, ob 7 [.ref a51, .ref a52, .ref a53, .ref a54, .ref a55, .int 0, .ref a56, .int 0, .ref a57, .ref a58, .int 0]), (a59, ob 1 [.ref a60, .ref a61, .int 0, .int 0]), (a62, ob 8 [.ref a63, .int 0]), (a64, ob 10 [.ref a65, .int 0, .int (-1), .ref a66, .ref a1, .ref a0, .ref a14, .ref a17, .ref a20, .ref a23, .int 0, .ref a26, .ref a28, .ref a42, .ref a67, .ref a45, .ref a68, .ref a69, .ref a59, .ref a62]), (a65, aI G 800 (fun _ => 0)), (a66, ob 3 [.ref a65, .int 0, .int 0, .int (-1), .ref a0, .ref a70, .int 0])]) rfl dX3_clear_29 (fun H locs hw => ?_)
    refine lv_iinc (v := nI (k + 1)) (lv' := [(1, .int (nI (k + 1))), (0, .ref a0)]) hx hb dX3_clear_30 hl (k := 0) rfl (nI_1 k) (by decide) rfl (fun ls hl => ?_)
    refine lv_goto (tgt := 17) hx hb dX3_clear_33 (by decide) ?_
    exact ih H locs ls ⟨lv_sub hl [0, 1] rfl, _, hw.sub [0, 1, 2, 3, 4, 5, 6, 7, 8, 9, 10, 11, 12, 13, 14, 15, 16, 17, 18, 19, 20, 21] rfl rfl⟩

set_option maxHeartbeats 4000000 in
set_option maxRecDepth 100000 in
theorem a_X3_clear_13 (l : Launch) (G : Gt) (a0 : Nat) (a1 : Nat) (a2 : Nat) (a3 : Nat) (a4 : Nat) (a5 : Nat) (a6 : Nat) (a7 : Nat) (a8 : Nat) (a9 : Nat) (a10 : Nat) (a11 : Nat) (a12 : Nat) (a13 : Nat) (a14 : Nat) (a15 : Nat) (a16 : Nat) (a17 : Nat) (a18 : Nat) (a19 : Nat) (a20 : Nat) (a21 : Nat) (a22 : Nat) (a23 : Nat) (a24 : Nat) (a25 : Nat) (a26 : Nat) (a27 : Nat) (a28 : Nat) (a29 : Nat) (a30 : Nat) (a31 : Nat) (a32 : Nat) (a33 : Nat) (a34 : Nat) (a35 : Nat) (a36 : Nat) (a37 : Nat) (a38 : Nat) (a39 : Nat) (a40 : Nat) (a41 : Nat) (a42 : Nat) (a43 : Nat) (a44 : Nat) (a45 : Nat) (a46 : Nat) (a47 : Nat) (a48 : Nat) (a49 : Nat) (a50 : Nat) (a51 : Nat) (a52 : Nat) (a53 : Nat) (a54 : Nat) (a55 : Nat) (a56 : Nat) (a57 : Nat) (a58 : Nat) (a59 : Nat) (a60 : Nat) (a61 : Nat) (a62 : Nat) (a63 : Nat) (a64 : Nat) (a65 : Nat) (a66 : Nat) (a67 : Nat) (a68 : Nat) (a69 : Nat) (a70 : Nat) : Mt l yX3_clear cX3_clear 2 none ({ frames := 0, cells := 0, slots := 0, locals := 0 } : Room) G [.ref a0] [(a1, ob 2 [.int 0, .int 0, .int 0, .ref a2, .ref a3, .ref a4, .ref a5, .ref a6, .ref a7]), (a4, aI G 72 (fl_fill (-1) 0 72)), (a0, ob 2 [.int 0, .int 0, .int 0, .ref a8, .ref a9, .ref a10, .ref a11, .ref a12, .ref a13]), (a10, aI G 72 (fl_fill (-1) 0 72)), (a14, ob 1 [.ref a15, .ref a16, .int 0, .int 0]), (a17, ob 1 [.ref a18, .ref a19, .int 0, .int 0]), (a20, ob 1 [.ref a21, .ref a22, .int 0, .int 0]), (a23, ob 1 [.ref a24, .ref a25, .int 0, .int 0]), (a26, ob 9 [.int 6, .int 3, .int 120, .ref a27, .ref a28, .ref a1, .int 0, .int 0, .int 0, .int 0, .ref a29, .ref a30, .int 0, .int 0, .ref a31, .ref a32, .ref a33, .ref a34]), (a28, ob 4 [.int 0, .int 0, .int 0, .int 0, .int 0, .int 0, .int 0, .ref a35, .ref a36, .ref a37, .ref a38, .ref a39, .ref a40, .ref a41]), (a42, ob 6 [.ref a27, .ref a43, .ref a44, .ref a1, .ref a45, .int (-1)]), (a44, aJ G 5 (fun _ => 0)), (a43, aJ G 8 (fun _ => 0)), (a45, ob 0 [.int (-1), .int 0, .int 0, .int 0, .int 0, .int 0, .int 0, .ref a46, .ref a47, .ref a48]), (a47, aI G 8 (fun _ => 0)), (a48, ob 1 [.ref a49, .ref a50, .int 0, .int 0]), (a27, ob 7 [.ref a51, .ref a52, .ref a53, .ref a54, .ref a55, .int 0, .ref a56, .int 0, .ref a57, .ref a58, .int 0]), (a59, ob 1 [.ref a60, .ref a61, .int 0, .int 0]), (a62, ob 8 [.ref a63, .int 0]), (a64, ob 10 [.ref a65, .int 0, .int (-1), .ref a66, .ref a1, .ref a0, .ref a14, .ref a17, .ref a20, .ref a23, .int 0, .ref a26, .ref a28, .ref a42, .ref a67, .ref a45, .ref a68, .ref a69, .ref a59, .ref a62]), (a65, aI G 800 (fun _ => 0)), (a66, ob 3 [.ref a65, .int 0, .int 0, .int (-1), .ref a0, .ref a70, .int 0])] (qV G (fun (w : Nat → Int32) => True) (fun w => [(a1, ob 2 [.int 0, .int 0, .int 0, .ref a2, .ref a3, .ref a4, .ref a5, .ref a6, .ref a7]), (a4, aI G 72 (fl_fill (-1) 0 72)), (a0, ob 2 [.int 0, .int 0, .int 0, .ref a8, .ref a9, .ref a10, .ref a11, .ref a12, .ref a13]), (a10, aI G 72 (w)), (a14, ob 1 [.ref a15, .ref a16, .int 0, .int 0]), (a17, ob 1 [.ref a18, .ref a19, .int 0, .int 0]), (a20, ob 1 [.ref a21, .ref a22, .int 0, .int 0]), (a23, ob 1 [.ref a24, .ref a25, .int 0, .int 0]), (a26, ob 9 [.int 6, .int 3, .int 120, .ref a27, .ref a28, .ref a1, .int 0, .int 0, .int 0, .int 0, .ref a29, .ref a30, .int 0, .int 0, .ref a31, .ref a32, .ref a33, .ref a34]), (a28, ob 4 [.int 0, .int 0, .int 0, .int 0, .int 0, .int 0, .int 0, .ref a35, .ref a36, .ref a37, .ref a38, .ref a39, .ref a40, .ref a41]), (a42, ob 6 [.ref a27, .ref a43, .ref a44, .ref a1, .ref a45, .int (-1)]), (a44, aJ G 5 (fun _ => 0)), (a43, aJ G 8 (fun _ => 0)), (a45, ob 0 [.int (-1), .int 0, .int 0, .int 0, .int 0, .int 0, .int 0, .ref a46, .ref a47, .ref a48]), (a47, aI G 8 (fun _ => 0)), (a48, ob 1 [.ref a49, .ref a50, .int 0, .int 0]), (a27, ob 7 [.ref a51, .ref a52, .ref a53, .ref a54, .ref a55, .int 0, .ref a56, .int 0, .ref a57, .ref a58, .int 0]), (a59, ob 1 [.ref a60, .ref a61, .int 0, .int 0]), (a62, ob 8 [.ref a63, .int 0]), (a64, ob 10 [.ref a65, .int 0, .int (-1), .ref a66, .ref a1, .ref a0, .ref a14, .ref a17, .ref a20, .ref a23, .int 0, .ref a26, .ref a28, .ref a42, .ref a67, .ref a45, .ref a68, .ref a69, .ref a59, .ref a62]), (a65, aI G 800 (fun _ => 0)), (a66, ob 3 [.ref a65, .int 0, .int 0, .int (-1), .ref a0, .ref a70, .int 0])])) := by
  refine Mt.of (own := RX3) (cc := cX3_clear) (by decide) rfl (Nat.le_of_ble_eq_true rfl) ?_
  intro p e s m below meth c A ls cx hr hlk hmn hA hl hw
  have hx := cx.1
  have hb := cx.2.1
  have hl : lv_has ls 2 [(0, .ref a0)] := hl
  refine lv_aload_n hx hb dX3_clear_0 rfl (lv_at hl 0 rfl) ?_
  refine lv_iconst (v := 0) hx hb dX3_clear_1 (by decide) ?_
  refine r_put cx hw inX3 (ci := 2) rfl tyX3_ok nmX3 2 rfl 0 (by decide) fl_X3_30 rfl rfl rfl (Nat.le_of_ble_eq_true rfl) (ws' := [(a1, ob 2 [.int 0, .int 0, .int 0, .ref a2, .ref a3, .ref a4, .ref a5, .ref a6, .ref a7]), (a4, aI G 72 (fl_fill (-1) 0 72)), (a0, ob 2 [.int 0, .int 0, .int 0, .ref a8, .ref a9, .ref a10, .ref a11, .ref a12, .ref a13]), (a10, aI G 72 (fl_fill (-1) 0 72)), (a14, ob 1 [.ref a15, .ref a16, .int 0, .int 0]), (a17, ob 1 [.ref a18, .ref a19, .int 0, .int 0]), (a20, ob 1 [.ref a21, .ref a22, .int 0, .int 0]), (a23, ob 1 [.ref a24, .ref a25, .int 0, .int 0]), (a26, ob 9 [.int 6, .int 3, .int 120, .ref a27, .ref a28, .ref a1, .int 0, .int 0, .int 0, .int 0, .ref a29, .ref a30, .int 0, .int 0, .ref a31, .ref a32, .ref a33, .ref a34]), (a28, ob 4 [.int 0, .int 0, .int 0, .int 0, .int 0, .int 0, .int 0, .ref a35, .ref a36, .ref a37, .ref a38, .ref a39, .ref a40, .ref a41]), (a42, ob 6 [.ref a27, .ref a43, .ref a44, .ref a1, .ref a45, .int (-1)]), (a44, aJ G 5 (fun _ => 0)), (a43, aJ G 8 (fun _ => 0)), (a45, ob 0 [.int (-1), .int 0, .int 0, .int 0, .int 0, .int 0, .int 0, .ref a46, .ref a47, .ref a48]), (a47, aI G 8 (fun _ => 0)), (a48, ob 1 [.ref a49, .ref a50, .int 0, .int 0]), (a27, ob 7 [.ref a51, .ref a52, .ref a53, .ref a54, .ref a55, .int 0, .ref a56, .int 0, .ref a57, .ref a58, .int 0]), (a59, ob 1 [.ref a60, .ref a61, .int 0, .int 0]), (a62, ob 8 [.ref a63, .int 0]), (a64, ob 10 [.ref a65, .int 0, .int (-1), .ref a66, .ref a1, .ref a0, .ref a14, .ref a17, .ref a20, .ref a23, .int 0, .ref a26, .ref a28, .ref a42, .ref a67, .ref a45, .ref a68, .ref a69, .ref a59, .ref a62]), (a65, aI G 800 (fun _ => 0)), (a66, ob 3 [.ref a65, .int 0, .int 0, .int (-1), .ref a0, .ref a70, .int 0])]) rfl dX3_clear_2 (fun H locs hw => ?_)
  refine lv_aload_n hx hb dX3_clear_5 rfl (lv_at hl 0 rfl) ?_
  refine lv_iconst (v := 0) hx hb dX3_clear_6 (by decide) ?_
  refine r_put cx hw inX3 (ci := 2) rfl tyX3_ok nmX3 2 rfl 1 (by decide) fl_X3_34 rfl rfl rfl (Nat.le_of_ble_eq_true rfl) (ws' := [(a1, ob 2 [.int 0, .int 0, .int 0, .ref a2, .ref a3, .ref a4, .ref a5, .ref a6, .ref a7]), (a4, aI G 72 (fl_fill (-1) 0 72)), (a0, ob 2 [.int 0, .int 0, .int 0, .ref a8, .ref a9, .ref a10, .ref a11, .ref a12, .ref a13]), (a10, aI G 72 (fl_fill (-1) 0 72)), (a14, ob 1 [.ref a15, .ref a16, .int 0, .int 0]), (a17, ob 1 [.ref a18, .ref a19, .int 0, .int 0]), (a20, ob 1 [.ref a21, .ref a22, .int 0, .int 0]), (a23, ob 1 [.ref a24, .ref a25, .int 0, .int 0]), (a26, ob 9 [.int 6, .int 3, .int 120, .ref a27, .ref a28, .ref a1, .int 0, .int 0, .int 0, .int 0, .ref a29, .ref a30, .int 0, .int 0, .ref a31, .ref a32, .ref a33, .ref a34]), (a28, ob 4 [.int 0, .int 0, .int 0, .int 0, .int 0, .int 0, .int 0, .ref a35, .ref a36, .ref a37, .ref a38, .ref a39, .ref a40, .ref a41]), (a42, ob 6 [.ref a27, .ref a43, .ref a44, .ref a1, .ref a45, .int (-1)]), (a44, aJ G 5 (fun _ => 0)), (a43, aJ G 8 (fun _ => 0)), (a45, ob 0 [.int (-1), .int 0, .int 0, .int 0, .int 0, .int 0, .int 0, .ref a46, .ref a47, .ref a48]), (a47, aI G 8 (fun _ => 0)), (a48, ob 1 [.ref a49, .ref a50, .int 0, .int 0]), (a27, ob 7 [.ref a51, .ref a52, .ref a53, .ref a54, .ref a55, .int 0, .ref a56, .int 0, .ref a57, .ref a58, .int 0]), (a59, ob 1 [.ref a60, .ref a61, .int 0, .int 0]), (a62, ob 8 [.ref a63, .int 0]), (a64, ob 10 [.ref a65, .int 0, .int (-1), .ref a66, .ref a1, .ref a0, .ref a14, .ref a17, .ref a20, .ref a23, .int 0, .ref a26, .ref a28, .ref a42, .ref a67, .ref a45, .ref a68, .ref a69, .ref a59, .ref a62]), (a65, aI G 800 (fun _ => 0)), (a66, ob 3 [.ref a65, .int 0, .int 0, .int (-1), .ref a0, .ref a70, .int 0])]) rfl dX3_clear_7 (fun H locs hw => ?_)
  refine lv_aload_n hx hb dX3_clear_10 rfl (lv_at hl 0 rfl) ?_
  refine lv_iconst (v := 0) hx hb dX3_clear_11 (by decide) ?_
  refine r_put cx hw inX3 (ci := 2) rfl tyX3_ok nmX3 2 rfl 2 (by decide) fl_X3_37 rfl rfl rfl (Nat.le_of_ble_eq_true rfl) (ws' := [(a1, ob 2 [.int 0, .int 0, .int 0, .ref a2, .ref a3, .ref a4, .ref a5, .ref a6, .ref a7]), (a4, aI G 72 (fl_fill (-1) 0 72)), (a0, ob 2 [.int 0, .int 0, .int 0, .ref a8, .ref a9, .ref a10, .ref a11, .ref a12, .ref a13]), (a10, aI G 72 (fl_fill (-1) 0 72)), (a14, ob 1 [.ref a15, .ref a16, .int 0, .int 0]), (a17, ob 1 [.ref a18, .ref a19, .int 0, .int 0]), (a20, ob 1 [.ref a21, .ref a22, .int 0, .int 0]), (a23, ob 1 [.ref a24, .ref a25, .int 0, .int 0]), (a26, ob 9 [.int 6, .int 3, .int 120, .ref a27, .ref a28, .ref a1, .int 0, .int 0, .int 0, .int 0, .ref a29, .ref a30, .int 0, .int 0, .ref a31, .ref a32, .ref a33, .ref a34]), (a28, ob 4 [.int 0, .int 0, .int 0, .int 0, .int 0, .int 0, .int 0, .ref a35, .ref a36, .ref a37, .ref a38, .ref a39, .ref a40, .ref a41]), (a42, ob 6 [.ref a27, .ref a43, .ref a44, .ref a1, .ref a45, .int (-1)]), (a44, aJ G 5 (fun _ => 0)), (a43, aJ G 8 (fun _ => 0)), (a45, ob 0 [.int (-1), .int 0, .int 0, .int 0, .int 0, .int 0, .int 0, .ref a46, .ref a47, .ref a48]), (a47, aI G 8 (fun _ => 0)), (a48, ob 1 [.ref a49, .ref a50, .int 0, .int 0]), (a27, ob 7 [.ref a51, .ref a52, .ref a53, .ref a54, .ref a55, .int 0, .ref a56, .int 0, .ref a57, .ref a58, .int 0]), (a59, ob 1 [.ref a60, .ref a61, .int 0, .int 0]), (a62, ob 8 [.ref a63, .int 0]), (a64, ob 10 [.ref a65, .int 0, .int (-1), .ref a66, .ref a1, .ref a0, .ref a14, .ref a17, .ref a20, .ref a23, .int 0, .ref a26, .ref a28, .ref a42, .ref a67, .ref a45, .ref a68, .ref a69, .ref a59, .ref a62]), (a65, aI G 800 (fun _ => 0)), (a66, ob 3 [.ref a65, .int 0, .int 0, .int (-1), .ref a0, .ref a70, .int 0])]) rfl dX3_clear_12 (fun H locs hw => ?_)
  refine lv_iconst (v := 0) hx hb dX3_clear_15 (by decide) ?_
  refine lv_istore_n (lv' := [(1, .int 0), (0, .ref a0)]) hx hb dX3_clear_16 rfl hl (by decide) rfl (fun ls hl => ?_)
  refine r_loop (N := 72) (fun k H locs ls => lv_has ls 2 [(1, .int (nI k)), (0, .ref a0)] ∧ ∃ v900 : Nat → Int32, Wd G A [(a1, ob 2 [.int 0, .int 0, .int 0, .ref a2, .ref a3, .ref a4, .ref a5, .ref a6, .ref a7]), (a4, aI G 72 (fl_fill (-1) 0 72)), (a0, ob 2 [.int 0, .int 0, .int 0, .ref a8, .ref a9, .ref a10, .ref a11, .ref a12, .ref a13]), (a10, aI G 72 (v900)), (a14, ob 1 [.ref a15, .ref a16, .int 0, .int 0]), (a17, ob 1 [.ref a18, .ref a19, .int 0, .int 0]), (a20, ob 1 [.ref a21, .ref a22, .int 0, .int 0]), (a23, ob 1 [.ref a24, .ref a25, .int 0, .int 0]), (a26, ob 9 [.int 6, .int 3, .int 120, .ref a27, .ref a28, .ref a1, .int 0, .int 0, .int 0, .int 0, .ref a29, .ref a30, .int 0, .int 0, .ref a31, .ref a32, .ref a33, .ref a34]), (a28, ob 4 [.int 0, .int 0, .int 0, .int 0, .int 0, .int 0, .int 0, .ref a35, .ref a36, .ref a37, .ref a38, .ref a39, .ref a40, .ref a41]), (a42, ob 6 [.ref a27, .ref a43, .ref a44, .ref a1, .ref a45, .int (-1)]), (a44, aJ G 5 (fun _ => 0)), (a43, aJ G 8 (fun _ => 0)), (a45, ob 0 [.int (-1), .int 0, .int 0, .int 0, .int 0, .int 0, .int 0, .ref a46, .ref a47, .ref a48]), (a47, aI G 8 (fun _ => 0)), (a48, ob 1 [.ref a49, .ref a50, .int 0, .int 0]), (a27, ob 7 [.ref a51, .ref a52, .ref a53, .ref a54, .ref a55, .int 0, .ref a56, .int 0, .ref a57, .ref a58, .int 0]), (a59, ob 1 [.ref a60, .ref a61, .int 0, .int 0]), (a62, ob 8 [.ref a63, .int 0]), (a64, ob 10 [.ref a65, .int 0, .int (-1), .ref a66, .ref a1, .ref a0, .ref a14, .ref a17, .ref a20, .ref a23, .int 0, .ref a26, .ref a28, .ref a42, .ref a67, .ref a45, .ref a68, .ref a69, .ref a59, .ref a62]), (a65, aI G 800 (fun _ => 0)), (a66, ob 3 [.ref a65, .int 0, .int 0, .int (-1), .ref a0, .ref a70, .int 0])] s.heap H locs) ?_ ?_ 0 (Nat.zero_le _) _ _ _ ⟨lv_sub hl [0, 1] rfl, _, hw⟩
  · intro H locs ls h9
    obtain ⟨hl, v900, hw⟩ := h9
    have hl : lv_has ls 2 [(1, .int 72), (0, .ref a0)] := hl
    have hw : Wd G A [(a1, ob 2 [.int 0, .int 0, .int 0, .ref a2, .ref a3, .ref a4, .ref a5, .ref a6, .ref a7]), (a4, aI G 72 (fl_fill (-1) 0 72)), (a0, ob 2 [.int 0, .int 0, .int 0, .ref a8, .ref a9, .ref a10, .ref a11, .ref a12, .ref a13]), (a10, aI G 72 (v900)), (a14, ob 1 [.ref a15, .ref a16, .int 0, .int 0]), (a17, ob 1 [.ref a18, .ref a19, .int 0, .int 0]), (a20, ob 1 [.ref a21, .ref a22, .int 0, .int 0]), (a23, ob 1 [.ref a24, .ref a25, .int 0, .int 0]), (a26, ob 9 [.int 6, .int 3, .int 120, .ref a27, .ref a28, .ref a1, .int 0, .int 0, .int 0, .int 0, .ref a29, .ref a30, .int 0, .int 0, .ref a31, .ref a32, .ref a33, .ref a34]), (a28, ob 4 [.int 0, .int 0, .int 0, .int 0, .int 0, .int 0, .int 0, .ref a35, .ref a36, .ref a37, .ref a38, .ref a39, .ref a40, .ref a41]), (a42, ob 6 [.ref a27, .ref a43, .ref a44, .ref a1, .ref a45, .int (-1)]), (a44, aJ G 5 (fun _ => 0)), (a43, aJ G 8 (fun _ => 0)), (a45, ob 0 [.int (-1), .int 0, .int 0, .int 0, .int 0, .int 0, .int 0, .ref a46, .ref a47, .ref a48]), (a47, aI G 8 (fun _ => 0)), (a48, ob 1 [.ref a49, .ref a50, .int 0, .int 0]), (a27, ob 7 [.ref a51, .ref a52, .ref a53, .ref a54, .ref a55, .int 0, .ref a56, .int 0, .ref a57, .ref a58, .int 0]), (a59, ob 1 [.ref a60, .ref a61, .int 0, .int 0]), (a62, ob 8 [.ref a63, .int 0]), (a64, ob 10 [.ref a65, .int 0, .int (-1), .ref a66, .ref a1, .ref a0, .ref a14, .ref a17, .ref a20, .ref a23, .int 0, .ref a26, .ref a28, .ref a42, .ref a67, .ref a45, .ref a68, .ref a69, .ref a59, .ref a62]), (a65, aI G 800 (fun _ => 0)), (a66, ob 3 [.ref a65, .int 0, .int 0, .int (-1), .ref a0, .ref a70, .int 0])] s.heap _ _ := hw
    refine lv_iload_n hx hb dX3_clear_17 rfl (lv_at hl 0 rfl) ?_
    refine lv_bipush (v := 72) hx hb dX3_clear_18 (by decide) ?_
    refine lv_icmp_ge (tgt := 36) hx hb dX3_clear_20 (by decide) (fun _ => ?_) (fun c9 => absurd (by decide) c9)
    have hw : Wd G A [(a1, ob 2 [.int 0, .int 0, .int 0, .ref a2, .ref a3, .ref a4, .ref a5, .ref a6, .ref a7]), (a4, aI G 72 (fl_fill (-1) 0 72)), (a0, ob 2 [.int 0, .int 0, .int 0, .ref a8, .ref a9, .ref a10, .ref a11, .ref a12, .ref a13]), (a10, aI G 72 (v900)), (a14, ob 1 [.ref a15, .ref a16, .int 0, .int 0]), (a17, ob 1 [.ref a18, .ref a19, .int 0, .int 0]), (a20, ob 1 [.ref a21, .ref a22, .int 0, .int 0]), (a23, ob 1 [.ref a24, .ref a25, .int 0, .int 0]), (a26, ob 9 [.int 6, .int 3, .int 120, .ref a27, .ref a28, .ref a1, .int 0, .int 0, .int 0, .int 0, .ref a29, .ref a30, .int 0, .int 0, .ref a31, .ref a32, .ref a33, .ref a34]), (a28, ob 4 [.int 0, .int 0, .int 0, .int 0, .int 0, .int 0, .int 0, .ref a35, .ref a36, .ref a37, .ref a38, .ref a39, .ref a40, .ref a41]), (a42, ob 6 [.ref a27, .ref a43, .ref a44, .ref a1, .ref a45, .int (-1)]), (a44, aJ G 5 (fun _ => 0)), (a43, aJ G 8 (fun _ => 0)), (a45, ob 0 [.int (-1), .int 0, .int 0, .int 0, .int 0, .int 0, .int 0, .ref a46, .ref a47, .ref a48]), (a47, aI G 8 (fun _ => 0)), (a48, ob 1 [.ref a49, .ref a50, .int 0, .int 0]), (a27, ob 7 [.ref a51, .ref a52, .ref a53, .ref a54, .ref a55, .int 0, .ref a56, .int 0, .ref a57, .ref a58, .int 0]), (a59, ob 1 [.ref a60, .ref a61, .int 0, .int 0]), (a62, ob 8 [.ref a63, .int 0]), (a64, ob 10 [.ref a65, .int 0, .int (-1), .ref a66, .ref a1, .ref a0, .ref a14, .ref a17, .ref a20, .ref a23, .int 0, .ref a26, .ref a28, .ref a42, .ref a67, .ref a45, .ref a68, .ref a69, .ref a59, .ref a62]), (a65, aI G 800 (fun _ => 0)), (a66, ob 3 [.ref a65, .int 0, .int 0, .int (-1), .ref a0, .ref a70, .int 0])] s.heap _ _ := hw.sub [0, 1, 2, 3, 4, 5, 6, 7, 8, 9, 10, 11, 12, 13, 14, 15, 16, 17, 18, 19, 20, 21] rfl rfl
    exact r_vret cx hr hlk (v900) trivial hw (Nat.le_of_ble_eq_true rfl) (Nat.le_of_ble_eq_true rfl) dX3_clear_36
  · intro k H locs ls hk h9 ih
    obtain ⟨hl, v900, hw⟩ := h9
    refine lv_iload_n hx hb dX3_clear_17 rfl (lv_at hl 0 rfl) ?_
    refine lv_bipush (v := 72) hx hb dX3_clear_18 (by decide) ?_
    refine lv_icmp_ge (tgt := 36) hx hb dX3_clear_20 (by decide) (fun c9 => absurd c9 (nI_ge hk (by decide))) (fun _ => ?_)
    refine lv_aload_n hx hb dX3_clear_23 rfl (lv_at hl 1 rfl) ?_
    refine r_get cx hw inX3 (ci := 2) rfl 2 rfl 5 (by decide) fl_X3_18 rfl dX3_clear_24 ?_
    refine lv_iload_n hx hb dX3_clear_27 rfl (lv_at hl 0 rfl) ?_
    refine lv_iconst (v := (-1)) hx hb dX3_clear_28 (by decide) ?_
    refine r_iast cx hw 3 rfl (vp_in_nI hk (by decide)) (ws' := [(a1, ob 2 [.int 0, .int 0, .int 0, .ref a2, .ref a3, .ref a4, .ref a5, .ref a6, .ref a7]), (a4, aI G 72 (fl_fill (-1) 0 72)), (a0, ob 2 [.int 0, .int 0, .int 0, .ref a8, .ref a9, .ref a10, .ref a11, .ref a12, .ref a13]), (a10, aI G 72 (upd (v900) ((nI k)).toNatClampNeg (-1))), (a14, ob 1 [.ref a15, .ref a16, .int 0, .int 0]), (a17, ob 1 [.ref a18, .ref a19, .int 0, .int 0]), (a20, ob 1 [.ref a21, .ref a22, .int 0, .int 0]), (a23, ob 1 [.ref a24, .ref a25, .int 0, .int 0]), (a26, ob 9 [.int 6, .int 3, .int 120, .ref a27, .ref a28, .ref a1, .int 0, .int 0, .int 0, .int 0, .ref a29, .ref a30, .int 0, .int 0, .ref a31, .ref a32, .ref a33, .ref a34]), (a28, ob 4 [.int 0, .int 0, .int 0, .int 0, .int 0, .int 0, .int 0, .ref a35, .ref a36, .ref a37, .ref a38, .ref a39, .ref a40, .ref a41]), (a42, ob 6 [.ref a27, .ref a43, .ref a44, .ref a1, .ref a45, .int (-1)]), (a44, aJ G 5 (fun _ => 0)), (a43, aJ G 8 (fun _ => 0)), (a45, ob 0 [.int (-1), .int 0, .int 0, .int 0, .int 0, .int 0, .int 0, .ref a46, .ref a47, .ref a48]), (a47, aI G 8 (fun _ => 0)), (a48, ob 1 [.ref a49, .ref a50, .int 0, .int 0]), (a27, ob 7 [.ref a51, .ref a52, .ref a53, .ref a54, .ref a55, .int 0, .ref a56, .int 0, .ref a57, .ref a58, .int 0]), (a59, ob 1 [.ref a60, .ref a61, .int 0, .int 0]), (a62, ob 8 [.ref a63, .int 0]), (a64, ob 10 [.ref a65, .int 0, .int (-1), .ref a66, .ref a1, .ref a0, .ref a14, .ref a17, .ref a20, .ref a23, .int 0, .ref a26, .ref a28, .ref a42, .ref a67, .ref a45, .ref a68, .ref a69, .ref a59, .ref a62]), (a65, aI G 800 (fun _ => 0)), (a66, ob 3 [.ref a65, .int 0, .int 0, .int (-1), .ref a0, .ref a70, .int 0])]) rfl dX3_clear_29 (fun H locs hw => ?_)
    refine lv_iinc (v := nI (k + 1)) (lv' := [(1, .int (nI (k + 1))), (0, .ref a0)]) hx hb dX3_clear_30 hl (k := 0) rfl (nI_1 k) (by decide) rfl (fun ls hl => ?_)
    refine lv_goto (tgt := 17) hx hb dX3_clear_33 (by decide) ?_
    exact ih H locs ls ⟨lv_sub hl [0, 1] rfl, _, hw.sub [0, 1, 2, 3, 4, 5, 6, 7, 8, 9, 10, 11, 12, 13, 14, 15, 16, 17, 18, 19, 20, 21] rfl rfl⟩

set_option maxHeartbeats 4000000 in
set_option maxRecDepth 100000 in
theorem a_X4_readProgram_11 (l : Launch) (G : Gt) (a0 : Nat) (a1 : Nat) (a2 : Nat) (a3 : Nat) (a4 : Nat) (a5 : Nat) (a6 : Nat) (a7 : Nat) (a8 : Nat) (a9 : Nat) (a10 : Nat) (a11 : Nat) (a12 : Nat) (a13 : Nat) (a14 : Nat) (a15 : Nat) (a16 : Nat) (a17 : Nat) (a18 : Nat) (a19 : Nat) (a20 : Nat) (a21 : Nat) (a22 : Nat) (a23 : Nat) (a24 : Nat) (a25 : Nat) (a26 : Nat) (a27 : Nat) (a28 : Nat) (a29 : Nat) (a30 : Nat) (a31 : Nat) (a32 : Nat) (a33 : Nat) (a34 : Nat) (a35 : Nat) (a36 : Nat) (a37 : Nat) (a38 : Nat) (a39 : Nat) (a40 : Nat) (a41 : Nat) (a42 : Nat) (a43 : Nat) (a44 : Nat) (a45 : Nat) (a46 : Nat) (a47 : Nat) (a48 : Nat) (a49 : Nat) (a50 : Nat) (a51 : Nat) (a52 : Nat) (a53 : Nat) (a54 : Nat) (a55 : Nat) (a56 : Nat) (a57 : Nat) (a58 : Nat) (a59 : Nat) (a60 : Nat) (a61 : Nat) (a62 : Nat) (a63 : Nat) (a64 : Nat) (a65 : Nat) (a66 : Nat) (a67 : Nat) (a68 : Nat) (a69 : Nat) (a70 : Nat) : Mt l yX4_readProgram cX4_readProgram 3 none ({ frames := 1, cells := 0, slots := 0, locals := 21 } : Room) G [.ref a0, .ref a1] [(a2, ob 2 [.int 0, .int 0, .int 0, .ref a3, .ref a4, .ref a5, .ref a6, .ref a7, .ref a8]), (a5, aI G 72 (fl_fill (-1) 0 72)), (a1, ob 2 [.int 0, .int 0, .int 0, .ref a9, .ref a10, .ref a11, .ref a12, .ref a13, .ref a14]), (a11, aI G 72 (fl_fill (-1) 0 72)), (a15, ob 1 [.ref a16, .ref a17, .int 0, .int 0]), (a18, ob 1 [.ref a19, .ref a20, .int 0, .int 0]), (a21, ob 1 [.ref a22, .ref a23, .int 0, .int 0]), (a24, ob 1 [.ref a25, .ref a26, .int 0, .int 0]), (a27, ob 9 [.int 6, .int 3, .int 120, .ref a28, .ref a29, .ref a2, .int 0, .int 0, .int 0, .int 0, .ref a30, .ref a31, .int 0, .int 0, .ref a32, .ref a33, .ref a34, .ref a35]), (a29, ob 4 [.int 0, .int 0, .int 0, .int 0, .int 0, .int 0, .int 0, .ref a36, .ref a37, .ref a38, .ref a39, .ref a40, .ref a41, .ref a42]), (a43, ob 6 [.ref a28, .ref a44, .ref a45, .ref a2, .ref a46, .int (-1)]), (a45, aJ G 5 (fun _ => 0)), (a44, aJ G 8 (fun _ => 0)), (a46, ob 0 [.int (-1), .int 0, .int 0, .int 0, .int 0, .int 0, .int 0, .ref a47, .ref a48, .ref a49]), (a48, aI G 8 (fun _ => 0)), (a49, ob 1 [.ref a50, .ref a51, .int 0, .int 0]), (a28, ob 7 [.ref a52, .ref a53, .ref a54, .ref a55, .ref a56, .int 0, .ref a57, .int 0, .ref a58, .ref a59, .int 0]), (a60, ob 1 [.ref a61, .ref a62, .int 0, .int 0]), (a63, ob 8 [.ref a64, .int 0]), (a65, ob 10 [.ref a66, .int 0, .int (-1), .ref a0, .ref a2, .ref a1, .ref a15, .ref a18, .ref a21, .ref a24, .int 0, .ref a27, .ref a29, .ref a43, .ref a67, .ref a46, .ref a68, .ref a69, .ref a60, .ref a63]), (a66, aI G 800 (fun _ => 0)), (a0, ob 3 [.ref a66, .int 0, .int 0, .int (-1), .ref a1, .ref a70, .int 0])] (qV G (fun (w : Nat → Int32) => True) (fun w => [(a2, ob 2 [.int 0, .int 0, .int 0, .ref a3, .ref a4, .ref a5, .ref a6, .ref a7, .ref a8]), (a5, aI G 72 (fl_fill (-1) 0 72)), (a1, ob 2 [.int 0, .int 0, .int 0, .ref a9, .ref a10, .ref a11, .ref a12, .ref a13, .ref a14]), (a11, aI G 72 (w)), (a15, ob 1 [.ref a16, .ref a17, .int 0, .int 0]), (a18, ob 1 [.ref a19, .ref a20, .int 0, .int 0]), (a21, ob 1 [.ref a22, .ref a23, .int 0, .int 0]), (a24, ob 1 [.ref a25, .ref a26, .int 0, .int 0]), (a27, ob 9 [.int 6, .int 3, .int 120, .ref a28, .ref a29, .ref a2, .int 0, .int 0, .int 0, .int 0, .ref a30, .ref a31, .int 0, .int 0, .ref a32, .ref a33, .ref a34, .ref a35]), (a29, ob 4 [.int 0, .int 0, .int 0, .int 0, .int 0, .int 0, .int 0, .ref a36, .ref a37, .ref a38, .ref a39, .ref a40, .ref a41, .ref a42]), (a43, ob 6 [.ref a28, .ref a44, .ref a45, .ref a2, .ref a46, .int (-1)]), (a45, aJ G 5 (fun _ => 0)), (a44, aJ G 8 (fun _ => 0)), (a46, ob 0 [.int (-1), .int 0, .int 0, .int 0, .int 0, .int 0, .int 0, .ref a47, .ref a48, .ref a49]), (a48, aI G 8 (fun _ => 0)), (a49, ob 1 [.ref a50, .ref a51, .int 0, .int 0]), (a28, ob 7 [.ref a52, .ref a53, .ref a54, .ref a55, .ref a56, .int 0, .ref a57, .int 0, .ref a58, .ref a59, .int 0]), (a60, ob 1 [.ref a61, .ref a62, .int 0, .int 0]), (a63, ob 8 [.ref a64, .int 0]), (a65, ob 10 [.ref a66, .int 0, .int (-1), .ref a0, .ref a2, .ref a1, .ref a15, .ref a18, .ref a21, .ref a24, .int 0, .ref a27, .ref a29, .ref a43, .ref a67, .ref a46, .ref a68, .ref a69, .ref a60, .ref a63]), (a66, aI G 800 (fun _ => 0)), (a0, ob 3 [.ref a66, .int 0, .int 0, .int (-1), .ref a1, .ref a70, .int 0])])) := by
  refine Mt.of (own := RX4) (cc := cX4_readProgram) (by decide) rfl (Nat.le_of_ble_eq_true rfl) ?_
  intro p e s m below meth c A ls cx hr hlk hmn hA hl hw
  have hx := cx.1
  have hb := cx.2.1
  have hl : lv_has ls 3 [(0, .ref a0), (1, .ref a1)] := hl
  refine lv_aload_n hx hb dX4_readProgram_0 rfl (lv_at hl 0 rfl) ?_
  refine lv_aload_n hx hb dX4_readProgram_1 rfl (lv_at hl 1 rfl) ?_
  refine r_put cx hw inX4 (ci := 3) rfl tyX4_ok nmX4 21 rfl 4 (by decide) fl_X4_25 rfl rfl rfl (Nat.le_of_ble_eq_true rfl) (ws' := [(a2, ob 2 [.int 0, .int 0, .int 0, .ref a3, .ref a4, .ref a5, .ref a6, .ref a7, .ref a8]), (a5, aI G 72 (fl_fill (-1) 0 72)), (a1, ob 2 [.int 0, .int 0, .int 0, .ref a9, .ref a10, .ref a11, .ref a12, .ref a13, .ref a14]), (a11, aI G 72 (fl_fill (-1) 0 72)), (a15, ob 1 [.ref a16, .ref a17, .int 0, .int 0]), (a18, ob 1 [.ref a19, .ref a20, .int 0, .int 0]), (a21, ob 1 [.ref a22, .ref a23, .int 0, .int 0]), (a24, ob 1 [.ref a25, .ref a26, .int 0, .int 0]), (a27, ob 9 [.int 6, .int 3, .int 120, .ref a28, .ref a29, .ref a2, .int 0, .int 0, .int 0, .int 0, .ref a30, .ref a31, .int 0, .int 0, .ref a32, .ref a33, .ref a34, .ref a35]), (a29, ob 4 [.int 0, .int 0, .int 0, .int 0, .int 0, .int 0, .int 0, .ref a36, .ref a37, .ref a38, .ref a39, .ref a40, .ref a41, .ref a42]), (a43, ob 6 [.ref a28, .ref a44, .ref a45, .ref a2, .ref a46, .int (-1)]), (a45, aJ G 5 (fun _ => 0)), (a44, aJ G 8 (fun _ => 0)), (a46, ob 0 [.int (-1), .int 0, .int 0, .int 0, .int 0, .int 0, .int 0, .ref a47, .ref a48, .ref a49]), (a48, aI G 8 (fun _ => 0)), (a49, ob 1 [.ref a50, .ref a51, .int 0, .int 0]), (a28, ob 7 [.ref a52, .ref a53, .ref a54, .ref a55, .ref a56, .int 0, .ref a57, .int 0, .ref a58, .ref a59, .int 0]), (a60, ob 1 [.ref a61, .ref a62, .int 0, .int 0]), (a63, ob 8 [.ref a64, .int 0]), (a65, ob 10 [.ref a66, .int 0, .int (-1), .ref a0, .ref a2, .ref a1, .ref a15, .ref a18, .ref a21, .ref a24, .int 0, .ref a27, .ref a29, .ref a43, .ref a67, .ref a46, .ref a68, .ref a69, .ref a60, .ref a63]), (a66, aI G 800 (fun _ => 0)), (a0, ob 3 [.ref a66, .int 0, .int 0, .int (-1), .ref a1, .ref a70, .int 0])]) rfl dX4_readProgram_2 (fun H locs hw => ?_)
  refine lv_aload_n hx hb dX4_readProgram_5 rfl (lv_at hl 0 rfl) ?_
  refine r_get cx hw inX4 (ci := 3) rfl 21 rfl 4 (by decide) fl_X4_25 rfl dX4_readProgram_6 ?_
  refine r_callVV (As := []) (rest := []) (wr := []) cx hw hA (a_X3_clear_13 l G a1 a2 a3 a4 a5 a6 a7 a8 a9 a10 a11 a12 a13 a14 a15 a16 a17 a18 a19 a20 a21 a22 a23 a24 a25 a26 a27 a28 a29 a30 a31 a32 a33 a34 a35 a36 a37 a38 a39 a40 a41 a42 a43 a44 a45 a46 a47 a48 a49 a50 a51 a52 a53 a54 a55 a56 a57 a58 a59 a60 a61 a62 a63 a64 a65 a66 a0 a67 a68 a69 a70) [0, 1, 2, 3, 4, 5, 6, 7, 8, 9, 10, 11, 12, 13, 14, 15, 16, 17, 18, 19, 20, 21] [] rfl rfl rfl rfl rfl 2 rfl (ci := 2) rfl ml_X4_59 im_X3_clear se_X3_clear in_X3 co_X3_clear rfl hd_X3_clear rfl ⟨Nat.le_of_ble_eq_true rfl, Nat.le_of_ble_eq_true rfl⟩ hl.1 rfl (Nat.le_of_ble_eq_true rfl) dX4_readProgram_9 ⟨Nat.le_of_ble_eq_true rfl, Nat.le_of_ble_eq_true rfl⟩ (fun u1 H locs hr2 hw => ?_)
  have hw : Wd G A [(a2, ob 2 [.int 0, .int 0, .int 0, .ref a3, .ref a4, .ref a5, .ref a6, .ref a7, .ref a8]), (a5, aI G 72 (fl_fill (-1) 0 72)), (a1, ob 2 [.int 0, .int 0, .int 0, .ref a9, .ref a10, .ref a11, .ref a12, .ref a13, .ref a14]), (a11, aI G 72 (u1)), (a15, ob 1 [.ref a16, .ref a17, .int 0, .int 0]), (a18, ob 1 [.ref a19, .ref a20, .int 0, .int 0]), (a21, ob 1 [.ref a22, .ref a23, .int 0, .int 0]), (a24, ob 1 [.ref a25, .ref a26, .int 0, .int 0]), (a27, ob 9 [.int 6, .int 3, .int 120, .ref a28, .ref a29, .ref a2, .int 0, .int 0, .int 0, .int 0, .ref a30, .ref a31, .int 0, .int 0, .ref a32, .ref a33, .ref a34, .ref a35]), (a29, ob 4 [.int 0, .int 0, .int 0, .int 0, .int 0, .int 0, .int 0, .ref a36, .ref a37, .ref a38, .ref a39, .ref a40, .ref a41, .ref a42]), (a43, ob 6 [.ref a28, .ref a44, .ref a45, .ref a2, .ref a46, .int (-1)]), (a45, aJ G 5 (fun _ => 0)), (a44, aJ G 8 (fun _ => 0)), (a46, ob 0 [.int (-1), .int 0, .int 0, .int 0, .int 0, .int 0, .int 0, .ref a47, .ref a48, .ref a49]), (a48, aI G 8 (fun _ => 0)), (a49, ob 1 [.ref a50, .ref a51, .int 0, .int 0]), (a28, ob 7 [.ref a52, .ref a53, .ref a54, .ref a55, .ref a56, .int 0, .ref a57, .int 0, .ref a58, .ref a59, .int 0]), (a60, ob 1 [.ref a61, .ref a62, .int 0, .int 0]), (a63, ob 8 [.ref a64, .int 0]), (a65, ob 10 [.ref a66, .int 0, .int (-1), .ref a0, .ref a2, .ref a1, .ref a15, .ref a18, .ref a21, .ref a24, .int 0, .ref a27, .ref a29, .ref a43, .ref a67, .ref a46, .ref a68, .ref a69, .ref a60, .ref a63]), (a66, aI G 800 (fun _ => 0)), (a0, ob 3 [.ref a66, .int 0, .int 0, .int (-1), .ref a1, .ref a70, .int 0])] s.heap _ _ := hw
  refine lv_iconst (v := 0) hx hb dX4_readProgram_12 (by decide) ?_
  refine lv_istore_n (lv' := [(2, .int 0), (0, .ref a0), (1, .ref a1)]) hx hb dX4_readProgram_13 rfl hl (by decide) rfl (fun ls hl => ?_)
  refine lv_iload_n hx hb dX4_readProgram_14 rfl (lv_at hl 0 rfl) ?_
  refine lv_sipush (v := 800) hx hb dX4_readProgram_15 (by decide) ?_
  refine lv_icmp_gt (tgt := 49) hx hb dX4_readProgram_18 (by decide) (fun c9 => absurd c9 (by decide)) (fun _ => ?_)
  refine lv_aload_n hx hb dX4_readProgram_21 rfl (lv_at hl 1 rfl) ?_
  refine r_callVI (As := []) (rest := []) (wr := [(a2, ob 2 [.int 0, .int 0, .int 0, .ref a3, .ref a4, .ref a5, .ref a6, .ref a7, .ref a8]), (a5, aI G 72 (fl_fill (-1) 0 72)), (a1, ob 2 [.int 0, .int 0, .int 0, .ref a9, .ref a10, .ref a11, .ref a12, .ref a13, .ref a14]), (a11, aI G 72 (u1)), (a15, ob 1 [.ref a16, .ref a17, .int 0, .int 0]), (a18, ob 1 [.ref a19, .ref a20, .int 0, .int 0]), (a21, ob 1 [.ref a22, .ref a23, .int 0, .int 0]), (a24, ob 1 [.ref a25, .ref a26, .int 0, .int 0]), (a27, ob 9 [.int 6, .int 3, .int 120, .ref a28, .ref a29, .ref a2, .int 0, .int 0, .int 0, .int 0, .ref a30, .ref a31, .int 0, .int 0, .ref a32, .ref a33, .ref a34, .ref a35]), (a29, ob 4 [.int 0, .int 0, .int 0, .int 0, .int 0, .int 0, .int 0, .ref a36, .ref a37, .ref a38, .ref a39, .ref a40, .ref a41, .ref a42]), (a43, ob 6 [.ref a28, .ref a44, .ref a45, .ref a2, .ref a46, .int (-1)]), (a45, aJ G 5 (fun _ => 0)), (a44, aJ G 8 (fun _ => 0)), (a46, ob 0 [.int (-1), .int 0, .int 0, .int 0, .int 0, .int 0, .int 0, .ref a47, .ref a48, .ref a49]), (a48, aI G 8 (fun _ => 0)), (a49, ob 1 [.ref a50, .ref a51, .int 0, .int 0]), (a28, ob 7 [.ref a52, .ref a53, .ref a54, .ref a55, .ref a56, .int 0, .ref a57, .int 0, .ref a58, .ref a59, .int 0]), (a60, ob 1 [.ref a61, .ref a62, .int 0, .int 0]), (a63, ob 8 [.ref a64, .int 0]), (a65, ob 10 [.ref a66, .int 0, .int (-1), .ref a0, .ref a2, .ref a1, .ref a15, .ref a18, .ref a21, .ref a24, .int 0, .ref a27, .ref a29, .ref a43, .ref a67, .ref a46, .ref a68, .ref a69, .ref a60, .ref a63]), (a66, aI G 800 (fun _ => 0))]) cx hw hA (a_X4_isWell_10 l G a0 a66 a1 a70) [21] [0, 1, 2, 3, 4, 5, 6, 7, 8, 9, 10, 11, 12, 13, 14, 15, 16, 17, 18, 19, 20] rfl rfl rfl rfl rfl 21 rfl (ci := 3) rfl ml_X4_43 im_X4_isWell se_X4_isWell in_X4 co_X4_isWell rfl hd_X4_isWell rfl ⟨Nat.le_of_ble_eq_true rfl, Nat.le_of_ble_eq_true rfl⟩ hl.1 rfl (Nat.le_of_ble_eq_true rfl) dX4_readProgram_22 ⟨Nat.le_of_ble_eq_true rfl, Nat.le_of_ble_eq_true rfl⟩ (fun r4 u3 H locs hr4 hw => ?_)
  have hw : Wd G A [(a2, ob 2 [.int 0, .int 0, .int 0, .ref a3, .ref a4, .ref a5, .ref a6, .ref a7, .ref a8]), (a5, aI G 72 (fl_fill (-1) 0 72)), (a1, ob 2 [.int 0, .int 0, .int 0, .ref a9, .ref a10, .ref a11, .ref a12, .ref a13, .ref a14]), (a11, aI G 72 (u1)), (a15, ob 1 [.ref a16, .ref a17, .int 0, .int 0]), (a18, ob 1 [.ref a19, .ref a20, .int 0, .int 0]), (a21, ob 1 [.ref a22, .ref a23, .int 0, .int 0]), (a24, ob 1 [.ref a25, .ref a26, .int 0, .int 0]), (a27, ob 9 [.int 6, .int 3, .int 120, .ref a28, .ref a29, .ref a2, .int 0, .int 0, .int 0, .int 0, .ref a30, .ref a31, .int 0, .int 0, .ref a32, .ref a33, .ref a34, .ref a35]), (a29, ob 4 [.int 0, .int 0, .int 0, .int 0, .int 0, .int 0, .int 0, .ref a36, .ref a37, .ref a38, .ref a39, .ref a40, .ref a41, .ref a42]), (a43, ob 6 [.ref a28, .ref a44, .ref a45, .ref a2, .ref a46, .int (-1)]), (a45, aJ G 5 (fun _ => 0)), (a44, aJ G 8 (fun _ => 0)), (a46, ob 0 [.int (-1), .int 0, .int 0, .int 0, .int 0, .int 0, .int 0, .ref a47, .ref a48, .ref a49]), (a48, aI G 8 (fun _ => 0)), (a49, ob 1 [.ref a50, .ref a51, .int 0, .int 0]), (a28, ob 7 [.ref a52, .ref a53, .ref a54, .ref a55, .ref a56, .int 0, .ref a57, .int 0, .ref a58, .ref a59, .int 0]), (a60, ob 1 [.ref a61, .ref a62, .int 0, .int 0]), (a63, ob 8 [.ref a64, .int 0]), (a65, ob 10 [.ref a66, .int 0, .int (-1), .ref a0, .ref a2, .ref a1, .ref a15, .ref a18, .ref a21, .ref a24, .int 0, .ref a27, .ref a29, .ref a43, .ref a67, .ref a46, .ref a68, .ref a69, .ref a60, .ref a63]), (a66, aI G 800 (fun _ => 0)), (a0, ob 3 [.ref a66, .int 0, .int 0, .int (-1), .ref a1, .ref a70, .int 0])] s.heap _ _ := hw
  subst hr4
  refine lv_if_eq (tgt := 49) hx hb dX4_readProgram_25 (by decide) (fun c9 => absurd c9 (by decide)) (fun _ => ?_)
  refine lv_aload_n hx hb dX4_readProgram_28 rfl (lv_at hl 1 rfl) ?_
  refine r_get cx hw inX4 (ci := 3) rfl 21 rfl 2 (by decide) fl_X4_19 rfl dX4_readProgram_29 ?_
  refine lv_aload_n hx hb dX4_readProgram_32 rfl (lv_at hl 1 rfl) ?_
  refine r_get cx hw inX4 (ci := 3) rfl 21 rfl 1 (by decide) fl_X4_15 rfl dX4_readProgram_33 ?_
  refine lv_icmp_ge (tgt := 49) hx hb dX4_readProgram_36 (by decide) (fun _ => ?_) (fun c9 => absurd (by decide) c9)
  have hw : Wd G A [(a2, ob 2 [.int 0, .int 0, .int 0, .ref a3, .ref a4, .ref a5, .ref a6, .ref a7, .ref a8]), (a5, aI G 72 (fl_fill (-1) 0 72)), (a1, ob 2 [.int 0, .int 0, .int 0, .ref a9, .ref a10, .ref a11, .ref a12, .ref a13, .ref a14]), (a11, aI G 72 (u1)), (a15, ob 1 [.ref a16, .ref a17, .int 0, .int 0]), (a18, ob 1 [.ref a19, .ref a20, .int 0, .int 0]), (a21, ob 1 [.ref a22, .ref a23, .int 0, .int 0]), (a24, ob 1 [.ref a25, .ref a26, .int 0, .int 0]), (a27, ob 9 [.int 6, .int 3, .int 120, .ref a28, .ref a29, .ref a2, .int 0, .int 0, .int 0, .int 0, .ref a30, .ref a31, .int 0, .int 0, .ref a32, .ref a33, .ref a34, .ref a35]), (a29, ob 4 [.int 0, .int 0, .int 0, .int 0, .int 0, .int 0, .int 0, .ref a36, .ref a37, .ref a38, .ref a39, .ref a40, .ref a41, .ref a42]), (a43, ob 6 [.ref a28, .ref a44, .ref a45, .ref a2, .ref a46, .int (-1)]), (a45, aJ G 5 (fun _ => 0)), (a44, aJ G 8 (fun _ => 0)), (a46, ob 0 [.int (-1), .int 0, .int 0, .int 0, .int 0, .int 0, .int 0, .ref a47, .ref a48, .ref a49]), (a48, aI G 8 (fun _ => 0)), (a49, ob 1 [.ref a50, .ref a51, .int 0, .int 0]), (a28, ob 7 [.ref a52, .ref a53, .ref a54, .ref a55, .ref a56, .int 0, .ref a57, .int 0, .ref a58, .ref a59, .int 0]), (a60, ob 1 [.ref a61, .ref a62, .int 0, .int 0]), (a63, ob 8 [.ref a64, .int 0]), (a65, ob 10 [.ref a66, .int 0, .int (-1), .ref a0, .ref a2, .ref a1, .ref a15, .ref a18, .ref a21, .ref a24, .int 0, .ref a27, .ref a29, .ref a43, .ref a67, .ref a46, .ref a68, .ref a69, .ref a60, .ref a63]), (a66, aI G 800 (fun _ => 0)), (a0, ob 3 [.ref a66, .int 0, .int 0, .int (-1), .ref a1, .ref a70, .int 0])] s.heap _ _ := hw.sub [0, 1, 2, 3, 4, 5, 6, 7, 8, 9, 10, 11, 12, 13, 14, 15, 16, 17, 18, 19, 20, 21] rfl rfl
  exact r_vret cx hr hlk (u1) trivial hw (Nat.le_of_ble_eq_true rfl) (Nat.le_of_ble_eq_true rfl) dX4_readProgram_49

set_option maxHeartbeats 4000000 in
set_option maxRecDepth 100000 in
theorem a_X4_badPlace_14 (l : Launch) (G : Gt) (a0 : Nat) (a1 : Nat) (a2 : Nat) (a3 : Nat) : Mt l yX4_badPlace cX4_badPlace 1 (some .int) ({ frames := 0, cells := 0, slots := 0, locals := 0 } : Room) G [.ref a0] [(a0, ob 3 [.ref a1, .int 0, .int 0, .int (-1), .ref a2, .ref a3, .int 0])] (qI G (fun (r : Int32) (w : Unit) => r = (-1)) (fun w => [(a0, ob 3 [.ref a1, .int 0, .int 0, .int (-1), .ref a2, .ref a3, .int 0])])) := by
  refine Mt.of (own := RX4) (cc := cX4_badPlace) (by decide) rfl (Nat.le_of_ble_eq_true rfl) ?_
  intro p e s m below meth c A ls cx hr hlk hmn hA hl hw
  have hx := cx.1
  have hb := cx.2.1
  have hl : lv_has ls 1 [(0, .ref a0)] := hl
  refine lv_aload_n hx hb dX4_badPlace_0 rfl (lv_at hl 0 rfl) ?_
  refine r_get cx hw inX4 (ci := 3) rfl 0 rfl 3 (by decide) fl_X4_22 rfl dX4_badPlace_1 ?_
  have hw : Wd G A [(a0, ob 3 [.ref a1, .int 0, .int 0, .int (-1), .ref a2, .ref a3, .int 0])] s.heap _ _ := hw.sub [0] rfl rfl
  exact r_iret cx hr hlk () rfl hw (Nat.le_of_ble_eq_true rfl) (Nat.le_of_ble_eq_true rfl) dX4_badPlace_4

set_option maxHeartbeats 4000000 in
set_option maxRecDepth 100000 in
theorem a_X5_clear_15 (l : Launch) (G : Gt) (a0 : Nat) (a1 : Nat) (a2 : Nat) (a3 : Nat) (a4 : Nat) (a5 : Nat) (a6 : Nat) (a7 : Nat) : Mt l yX5_clear cX5_clear 1 none ({ frames := 0, cells := 0, slots := 0, locals := 0 } : Room) G [.ref a0] [(a0, ob 4 [.int 0, .int 0, .int 0, .int 0, .int 0, .int 0, .int 0, .ref a1, .ref a2, .ref a3, .ref a4, .ref a5, .ref a6, .ref a7])] (qV G (fun (w : Unit) => True) (fun w => [(a0, ob 4 [.int 0, .int 0, .int 0, .int 0, .int 0, .int 0, .int 0, .ref a1, .ref a2, .ref a3, .ref a4, .ref a5, .ref a6, .ref a7])])) := by
  refine Mt.of (own := RX5) (cc := cX5_clear) (by decide) rfl (Nat.le_of_ble_eq_true rfl) ?_
  intro p e s m below meth c A ls cx hr hlk hmn hA hl hw
  have hx := cx.1
  have hb := cx.2.1
  have hl : lv_has ls 1 [(0, .ref a0)] := hl
  refine lv_aload_n hx hb dX5_clear_0 rfl (lv_at hl 0 rfl) ?_
  refine lv_iconst (v := 0) hx hb dX5_clear_1 (by decide) ?_
  refine r_put cx hw inX5 (ci := 4) rfl tyX5_ok nmX5 0 rfl 0 (by decide) fl_X5_40 rfl rfl rfl (Nat.le_of_ble_eq_true rfl) (ws' := [(a0, ob 4 [.int 0, .int 0, .int 0, .int 0, .int 0, .int 0, .int 0, .ref a1, .ref a2, .ref a3, .ref a4, .ref a5, .ref a6, .ref a7])]) rfl dX5_clear_2 (fun H locs hw => ?_)
  refine lv_aload_n hx hb dX5_clear_5 rfl (lv_at hl 0 rfl) ?_
  refine lv_iconst (v := 0) hx hb dX5_clear_6 (by decide) ?_
  refine r_put cx hw inX5 (ci := 4) rfl tyX5_ok nmX5 0 rfl 1 (by decide) fl_X5_44 rfl rfl rfl (Nat.le_of_ble_eq_true rfl) (ws' := [(a0, ob 4 [.int 0, .int 0, .int 0, .int 0, .int 0, .int 0, .int 0, .ref a1, .ref a2, .ref a3, .ref a4, .ref a5, .ref a6, .ref a7])]) rfl dX5_clear_7 (fun H locs hw => ?_)
  refine lv_aload_n hx hb dX5_clear_10 rfl (lv_at hl 0 rfl) ?_
  refine lv_iconst (v := 0) hx hb dX5_clear_11 (by decide) ?_
  refine r_put cx hw inX5 (ci := 4) rfl tyX5_ok nmX5 0 rfl 2 (by decide) fl_X5_48 rfl rfl rfl (Nat.le_of_ble_eq_true rfl) (ws' := [(a0, ob 4 [.int 0, .int 0, .int 0, .int 0, .int 0, .int 0, .int 0, .ref a1, .ref a2, .ref a3, .ref a4, .ref a5, .ref a6, .ref a7])]) rfl dX5_clear_12 (fun H locs hw => ?_)
  refine lv_aload_n hx hb dX5_clear_15 rfl (lv_at hl 0 rfl) ?_
  refine lv_iconst (v := 0) hx hb dX5_clear_16 (by decide) ?_
  refine r_put cx hw inX5 (ci := 4) rfl tyX5_ok nmX5 0 rfl 3 (by decide) fl_X5_51 rfl rfl rfl (Nat.le_of_ble_eq_true rfl) (ws' := [(a0, ob 4 [.int 0, .int 0, .int 0, .int 0, .int 0, .int 0, .int 0, .ref a1, .ref a2, .ref a3, .ref a4, .ref a5, .ref a6, .ref a7])]) rfl dX5_clear_17 (fun H locs hw => ?_)
  refine lv_aload_n hx hb dX5_clear_20 rfl (lv_at hl 0 rfl) ?_
  refine lv_iconst (v := 0) hx hb dX5_clear_21 (by decide) ?_
  refine r_put cx hw inX5 (ci := 4) rfl tyX5_ok nmX5 0 rfl 4 (by decide) fl_X5_54 rfl rfl rfl (Nat.le_of_ble_eq_true rfl) (ws' := [(a0, ob 4 [.int 0, .int 0, .int 0, .int 0, .int 0, .int 0, .int 0, .ref a1, .ref a2, .ref a3, .ref a4, .ref a5, .ref a6, .ref a7])]) rfl dX5_clear_22 (fun H locs hw => ?_)
  refine lv_aload_n hx hb dX5_clear_25 rfl (lv_at hl 0 rfl) ?_
  refine lv_iconst (v := 0) hx hb dX5_clear_26 (by decide) ?_
  refine r_put cx hw inX5 (ci := 4) rfl tyX5_ok nmX5 0 rfl 5 (by decide) fl_X5_57 rfl rfl rfl (Nat.le_of_ble_eq_true rfl) (ws' := [(a0, ob 4 [.int 0, .int 0, .int 0, .int 0, .int 0, .int 0, .int 0, .ref a1, .ref a2, .ref a3, .ref a4, .ref a5, .ref a6, .ref a7])]) rfl dX5_clear_27 (fun H locs hw => ?_)
  refine lv_aload_n hx hb dX5_clear_30 rfl (lv_at hl 0 rfl) ?_
  refine lv_iconst (v := 0) hx hb dX5_clear_31 (by decide) ?_
  refine r_put cx hw inX5 (ci := 4) rfl tyX5_ok nmX5 0 rfl 6 (by decide) fl_X5_60 rfl rfl rfl (Nat.le_of_ble_eq_true rfl) (ws' := [(a0, ob 4 [.int 0, .int 0, .int 0, .int 0, .int 0, .int 0, .int 0, .ref a1, .ref a2, .ref a3, .ref a4, .ref a5, .ref a6, .ref a7])]) rfl dX5_clear_32 (fun H locs hw => ?_)
  have hw : Wd G A [(a0, ob 4 [.int 0, .int 0, .int 0, .int 0, .int 0, .int 0, .int 0, .ref a1, .ref a2, .ref a3, .ref a4, .ref a5, .ref a6, .ref a7])] s.heap _ _ := hw.sub [0] rfl rfl
  exact r_vret cx hr hlk () trivial hw (Nat.le_of_ble_eq_true rfl) (Nat.le_of_ble_eq_true rfl) dX5_clear_35

set_option maxHeartbeats 4000000 in
set_option maxRecDepth 100000 in
theorem a_X3_clear_16 (l : Launch) (G : Gt) (a0 : Nat) (a1 : Nat) (a2 : Nat) (a3 : Nat) (a4 : Nat) (a5 : Nat) (a6 : Nat) (a7 : Nat) (a8 : Nat) (a9 : Nat) (a10 : Nat) (a11 : Nat) (a12 : Nat) (a13 : Nat) (a14 : Nat) (a15 : Nat) (a16 : Nat) (a17 : Nat) (a18 : Nat) (a19 : Nat) (a20 : Nat) (a21 : Nat) (a22 : Nat) (a23 : Nat) (a24 : Nat) (a25 : Nat) (a26 : Nat) (a27 : Nat) (a28 : Nat) (a29 : Nat) (a30 : Nat) (a31 : Nat) (a32 : Nat) (a33 : Nat) (a34 : Nat) (a35 : Nat) (a36 : Nat) (a37 : Nat) (a38 : Nat) (a39 : Nat) (a40 : Nat) (a41 : Nat) (a42 : Nat) (a43 : Nat) (a44 : Nat) (a45 : Nat) (a46 : Nat) (a47 : Nat) (a48 : Nat) (a49 : Nat) (a50 : Nat) (a51 : Nat) (a52 : Nat) (a53 : Nat) (a54 : Nat) (a55 : Nat) (a56 : Nat) (a57 : Nat) (a58 : Nat) (a59 : Nat) (a60 : Nat) (a61 : Nat) (a62 : Nat) (a63 : Nat) (a64 : Nat) (a65 : Nat) (a66 : Nat) (a67 : Nat) (a68 : Nat) (a69 : Nat) (a70 : Nat) : Mt l yX3_clear cX3_clear 2 none ({ frames := 0, cells := 0, slots := 0, locals := 0 } : Room) G [.ref a0] [(a1, ob 2 [.int 0, .int 0, .int 0, .ref a2, .ref a3, .ref a4, .ref a5, .ref a6, .ref a7]), (a4, aI G 72 (fl_fill (-1) 0 72)), (a0, ob 2 [.int 0, .int 0, .int 0, .ref a8, .ref a9, .ref a10, .ref a11, .ref a12, .ref a13]), (a10, aI G 72 (fl_fill (-1) 0 72)), (a14, ob 1 [.ref a15, .ref a16, .int 0, .int 0]), (a17, ob 1 [.ref a18, .ref a19, .int 0, .int 0]), (a20, ob 1 [.ref a21, .ref a22, .int 0, .int 0]), (a23, ob 1 [.ref a24, .ref a25, .int 0, .int 0]), (a26, ob 9 [.int 6, .int 3, .int 120, .ref a27, .ref a28, .ref a1, .int 0, .int 0, .int 0, .int 0, .ref a29, .ref a30, .int 0, .int 0, .ref a31, .ref a32, .ref a33, .ref a34]), (a28, ob 4 [.int 0, .int 0, .int 0, .int 0, .int 0, .int 0, .int 0, .ref a35, .ref a36, .ref a37, .ref a38, .ref a39, .ref a40, .ref a41]), (a42, ob 6 [.ref a27, .ref a43, .ref a44, .ref a1, .ref a45, .int (-1)]), (a44, aJ G 5 (fun _ => 0)), (a43, aJ G 8 (fun _ => 0)), (a45, ob 0 [.int (-1), .int 0, .int 0, .int 0, .int 0, .int 0, .int 0, .ref a46, .ref a47, .ref a48]), (a47, aI G 8 (fun _ => 0)), (a48, ob 1 [.ref a49, .ref a50, .int 0, .int 0]), (a27, ob 7 [.ref a51, .ref a52, .ref a53, .ref a54, .ref a55, .int 0, .ref a56, .int 0, .ref a57, .ref a58, .int 0]), (a59, ob 1 [.ref a60, .ref a61, .int 0, .int 0]), (a62, ob 8 [.ref a63, .int 0]), (a64, ob 10 [.ref a65, .int 0, .int (-1), .ref a66, .ref a1, .ref a0, .ref a14, .ref a17, .ref a20, .ref a23, .int 0, .ref a26, .ref a28, .ref a42, .ref a67, .ref a45, .ref a68, .ref a69, .ref a59, .ref a62]), (a65, aI G 800 (fun _ => 0)), (a66, ob 3 [.ref a65, .int 0, .int 0, .int (-1), .ref a0, .ref a70, .int 0])] (qV G (fun (w : Nat → Int32) => True) (fun w => [(a1, ob 2 [.int 0, .int 0, .int 0, .ref a2, .ref a3, .ref a4, .ref a5, .ref a6, .ref a7]), (a4, aI G 72 (fl_fill (-1) 0 72)), (a0, ob 2 [.int 0, .int 0, .int 0, .ref a8, .ref a9, .ref a10, .ref a11, .ref a12, .ref a13]), (a10, aI G 72 (w)), (a14, ob 1 [.ref a15, .ref a16, .int 0, .int 0]), (a17, ob 1 [.ref a18, .ref a19, .int 0, .int 0]), (a20, ob 1 [.ref a21, .ref a22, .int 0, .int 0]), (a23, ob 1 [.ref a24, .ref a25, .int 0, .int 0]), (a26, ob 9 [.int 6, .int 3, .int 120, .ref a27, .ref a28, .ref a1, .int 0, .int 0, .int 0, .int 0, .ref a29, .ref a30, .int 0, .int 0, .ref a31, .ref a32, .ref a33, .ref a34]), (a28, ob 4 [.int 0, .int 0, .int 0, .int 0, .int 0, .int 0, .int 0, .ref a35, .ref a36, .ref a37, .ref a38, .ref a39, .ref a40, .ref a41]), (a42, ob 6 [.ref a27, .ref a43, .ref a44, .ref a1, .ref a45, .int (-1)]), (a44, aJ G 5 (fun _ => 0)), (a43, aJ G 8 (fun _ => 0)), (a45, ob 0 [.int (-1), .int 0, .int 0, .int 0, .int 0, .int 0, .int 0, .ref a46, .ref a47, .ref a48]), (a47, aI G 8 (fun _ => 0)), (a48, ob 1 [.ref a49, .ref a50, .int 0, .int 0]), (a27, ob 7 [.ref a51, .ref a52, .ref a53, .ref a54, .ref a55, .int 0, .ref a56, .int 0, .ref a57, .ref a58, .int 0]), (a59, ob 1 [.ref a60, .ref a61, .int 0, .int 0]), (a62, ob 8 [.ref a63, .int 0]), (a64, ob 10 [.ref a65, .int 0, .int (-1), .ref a66, .ref a1, .ref a0, .ref a14, .ref a17, .ref a20, .ref a23, .int 0, .ref a26, .ref a28, .ref a42, .ref a67, .ref a45, .ref a68, .ref a69, .ref a59, .ref a62]), (a65, aI G 800 (fun _ => 0)), (a66, ob 3 [.ref a65, .int 0, .int 0, .int (-1), .ref a0, .ref a70, .int 0])])) := by
  refine Mt.of (own := RX3) (cc := cX3_clear) (by decide) rfl (Nat.le_of_ble_eq_true rfl) ?_
  intro p e s m below meth c A ls cx hr hlk hmn hA hl hw
  have hx := cx.1
  have hb := cx.2.1
  have hl : lv_has ls 2 [(0, .ref a0)] := hl
  refine lv_aload_n hx hb dX3_clear_0 rfl (lv_at hl 0 rfl) ?_
  refine lv_iconst (v := 0) hx hb dX3_clear_1 (by decide) ?_
  refine r_put cx hw inX3 (ci := 2) rfl tyX3_ok nmX3 2 rfl 0 (by decide) fl_X3_30 rfl rfl rfl (Nat.le_of_ble_eq_true rfl) (ws' := [(a1, ob 2 [.int 0, .int 0, .int 0, .ref a2, .ref a3, .ref a4, .ref a5, .ref a6, .ref a7]), (a4, aI G 72 (fl_fill (-1) 0 72)), (a0, ob 2 [.int 0, .int 0, .int 0, .ref a8, .ref a9, .ref a10, .ref a11, .ref a12, .ref a13]), (a10, aI G 72 (fl_fill (-1) 0 72)), (a14, ob 1 [.ref a15, .ref a16, .int 0, .int 0]), (a17, ob 1 [.ref a18, .ref a19, .int 0, .int 0]), (a20, ob 1 [.ref a21, .ref a22, .int 0, .int 0]), (a23, ob 1 [.ref a24, .ref a25, .int 0, .int 0]), (a26, ob 9 [.int 6, .int 3, .int 120, .ref a27, .ref a28, .ref a1, .int 0, .int 0, .int 0, .int 0, .ref a29, .ref a30, .int 0, .int 0, .ref a31, .ref a32, .ref a33, .ref a34]), (a28, ob 4 [.int 0, .int 0, .int 0, .int 0, .int 0, .int 0, .int 0, .ref a35, .ref a36, .ref a37, .ref a38, .ref a39, .ref a40, .ref a41]), (a42, ob 6 [.ref a27, .ref a43, .ref a44, .ref a1, .ref a45, .int (-1)]), (a44, aJ G 5 (fun _ => 0)), (a43, aJ G 8 (fun _ => 0)), (a45, ob 0 [.int (-1), .int 0, .int 0, .int 0, .int 0, .int 0, .int 0, .ref a46, .ref a47, .ref a48]), (a47, aI G 8 (fun _ => 0)), (a48, ob 1 [.ref a49, .ref a50, .int 0, .int 0]), (a27, ob 7 [.ref a51, .ref a52, .ref a53, .ref a54, .ref a55, .int 0, .ref a56, .int 0, .ref a57, .ref a58, .int 0]), (a59, ob 1 [.ref a60, .ref a61, .int 0, .int 0]), (a62, ob 8 [.ref a63, .int 0]), (a64, ob 10 [.ref a65, .int 0, .int (-1), .ref a66, .ref a1, .ref a0, .ref a14, .ref a17, .ref a20, .ref a23, .int 0, .ref a26, .ref a28, .ref a42, .ref a67, .ref a45, .ref a68, .ref a69, .ref a59, .ref a62]), (a65, aI G 800 (fun _ => 0)), (a66, ob 3 [.ref a65, .int 0, .int 0, .int (-1), .ref a0, .ref a70, .int 0])]) rfl dX3_clear_2 (fun H locs hw => ?_)
  refine lv_aload_n hx hb dX3_clear_5 rfl (lv_at hl 0 rfl) ?_
  refine lv_iconst (v := 0) hx hb dX3_clear_6 (by decide) ?_
  refine r_put cx hw inX3 (ci := 2) rfl tyX3_ok nmX3 2 rfl 1 (by decide) fl_X3_34 rfl rfl rfl (Nat.le_of_ble_eq_true rfl) (ws' := [(a1, ob 2 [.int 0, .int 0, .int 0, .ref a2, .ref a3, .ref a4, .ref a5, .ref a6, .ref a7]), (a4, aI G 72 (fl_fill (-1) 0 72)), (a0, ob 2 [.int 0, .int 0, .int 0, .ref a8, .ref a9, .ref a10, .ref a11, .ref a12, .ref a13]), (a10, aI G 72 (fl_fill (-1) 0 72)), (a14, ob 1 [.ref a15, .ref a16, .int 0, .int 0]), (a17, ob 1 [.ref a18, .ref a19, .int 0, .int 0]), (a20, ob 1 [.ref a21, .ref a22, .int 0, .int 0]), (a23, ob 1 [.ref a24, .ref a25, .int 0, .int 0]), (a26, ob 9 [.int 6, .int 3, .int 120, .ref a27, .ref a28, .ref a1, .int 0, .int 0, .int 0, .int 0, .ref a29, .ref a30, .int 0, .int 0, .ref a31, .ref a32, .ref a33, .ref a34]), (a28, ob 4 [.int 0, .int 0, .int 0, .int 0, .int 0, .int 0, .int 0, .ref a35, .ref a36, .ref a37, .ref a38, .ref a39, .ref a40, .ref a41]), (a42, ob 6 [.ref a27, .ref a43, .ref a44, .ref a1, .ref a45, .int (-1)]), (a44, aJ G 5 (fun _ => 0)), (a43, aJ G 8 (fun _ => 0)), (a45, ob 0 [.int (-1), .int 0, .int 0, .int 0, .int 0, .int 0, .int 0, .ref a46, .ref a47, .ref a48]), (a47, aI G 8 (fun _ => 0)), (a48, ob 1 [.ref a49, .ref a50, .int 0, .int 0]), (a27, ob 7 [.ref a51, .ref a52, .ref a53, .ref a54, .ref a55, .int 0, .ref a56, .int 0, .ref a57, .ref a58, .int 0]), (a59, ob 1 [.ref a60, .ref a61, .int 0, .int 0]), (a62, ob 8 [.ref a63, .int 0]), (a64, ob 10 [.ref a65, .int 0, .int (-1), .ref a66, .ref a1, .ref a0, .ref a14, .ref a17, .ref a20, .ref a23, .int 0, .ref a26, .ref a28, .ref a42, .ref a67, .ref a45, .ref a68, .ref a69, .ref a59, .ref a62]), (a65, aI G 800 (fun _ => 0)), (a66, ob 3 [.ref a65, .int 0, .int 0, .int (-1), .ref a0, .ref a70, .int 0])]) rfl dX3_clear_7 (fun H locs hw => ?_)
  refine lv_aload_n hx hb dX3_clear_10 rfl (lv_at hl 0 rfl) ?_
  refine lv_iconst (v := 0) hx hb dX3_clear_11 (by decide) ?_
  refine r_put cx hw inX3 (ci := 2) rfl tyX3_ok nmX3 2 rfl 2 (by decide) fl_X3_37 rfl rfl rfl (Nat.le_of_ble_eq_true rfl) (ws' := [(a1, ob 2 [.int 0, .int 0, .int 0, .ref a2, .ref a3, .ref a4, .ref a5, .ref a6, .ref a7]), (a4, aI G 72 (fl_fill (-1) 0 72)), (a0, ob 2 [.int 0, .int 0, .int 0, .ref a8, .ref a9, .ref a10, .ref a11, .ref a12, .ref a13]), (a10, aI G 72 (fl_fill (-1) 0 72)), (a14, ob 1 [.ref a15, .ref a16, .int 0, .int 0]), (a17, ob 1 [.ref a18, .ref a19, .int 0, .int 0]), (a20, ob 1 [.ref a21, .ref a22, .int 0, .int 0]), (a23, ob 1 [.ref a24, .ref a25, .int 0, .int 0]), (a26, ob 9 [.int 6, .int 3, .int 120, .ref a27, .ref a28, .ref a1, .int 0, .int 0, .int 0, .int 0, .ref a29, .ref a30, .int 0, .int 0, .ref a31, .ref a32, .ref a33, .ref a34]), (a28, ob 4 [.int 0, .int 0, .int 0, .int 0, .int 0, .int 0, .int 0, .ref a35, .ref a36, .ref a37, .ref a38, .ref a39, .ref a40, .ref a41]), (a42, ob 6 [.ref a27, .ref a43, .ref a44, .ref a1, .ref a45, .int (-1)]), (a44, aJ G 5 (fun _ => 0)), (a43, aJ G 8 (fun _ => 0)), (a45, ob 0 [.int (-1), .int 0, .int 0, .int 0, .int 0, .int 0, .int 0, .ref a46, .ref a47, .ref a48]), (a47, aI G 8 (fun _ => 0)), (a48, ob 1 [.ref a49, .ref a50, .int 0, .int 0]), (a27, ob 7 [.ref a51, .ref a52, .ref a53, .ref a54, .ref a55, .int 0, .ref a56, .int 0, .ref a57, .ref a58, .int 0]), (a59, ob 1 [.ref a60, .ref a61, .int 0, .int 0]), (a62, ob 8 [.ref a63, .int 0]), (a64, ob 10 [.ref a65, .int 0, .int (-1), .ref a66, .ref a1, .ref a0, .ref a14, .ref a17, .ref a20, .ref a23, .int 0, .ref a26, .ref a28, .ref a42, .ref a67, .ref a45, .ref a68, .ref a69, .ref a59, .ref a62]), (a65, aI G 800 (fun _ => 0)), (a66, ob 3 [.ref a65, .int 0, .int 0, .int (-1), .ref a0, .ref a70, .int 0])]) rfl dX3_clear_12 (fun H locs hw => ?_)
  refine lv_iconst (v := 0) hx hb dX3_clear_15 (by decide) ?_
  refine lv_istore_n (lv' := [(1, .int 0), (0, .ref a0)]) hx hb dX3_clear_16 rfl hl (by decide) rfl (fun ls hl => ?_)
  refine r_loop (N := 72) (fun k H locs ls => lv_has ls 2 [(1, .int (nI k)), (0, .ref a0)] ∧ ∃ v900 : Nat → Int32, Wd G A [(a1, ob 2 [.int 0, .int 0, .int 0, .ref a2, .ref a3, .ref a4, .ref a5, .ref a6, .ref a7]), (a4, aI G 72 (fl_fill (-1) 0 72)), (a0, ob 2 [.int 0, .int 0, .int 0, .ref a8, .ref a9, .ref a10, .ref a11, .ref a12, .ref a13]), (a10, aI G 72 (v900)), (a14, ob 1 [.ref a15, .ref a16, .int 0, .int 0]), (a17, ob 1 [.ref a18, .ref a19, .int 0, .int 0]), (a20, ob 1 [.ref a21, .ref a22, .int 0, .int 0]), (a23, ob 1 [.ref a24, .ref a25, .int 0, .int 0]), (a26, ob 9 [.int 6, .int 3, .int 120, .ref a27, .ref a28, .ref a1, .int 0, .int 0, .int 0, .int 0, .ref a29, .ref a30, .int 0, .int 0, .ref a31, .ref a32, .ref a33, .ref a34]), (a28, ob 4 [.int 0, .int 0, .int 0, .int 0, .int 0, .int 0, .int 0, .ref a35, .ref a36, .ref a37, .ref a38, .ref a39, .ref a40, .ref a41]), (a42, ob 6 [.ref a27, .ref a43, .ref a44, .ref a1, .ref a45, .int (-1)]), (a44, aJ G 5 (fun _ => 0)), (a43, aJ G 8 (fun _ => 0)), (a45, ob 0 [.int (-1), .int 0, .int 0, .int 0, .int 0, .int 0, .int 0, .ref a46, .ref a47, .ref a48]), (a47, aI G 8 (fun _ => 0)), (a48, ob 1 [.ref a49, .ref a50, .int 0, .int 0]), (a27, ob 7 [.ref a51, .ref a52, .ref a53, .ref a54, .ref a55, .int 0, .ref a56, .int 0, .ref a57, .ref a58, .int 0]), (a59, ob 1 [.ref a60, .ref a61, .int 0, .int 0]), (a62, ob 8 [.ref a63, .int 0]), (a64, ob 10 [.ref a65, .int 0, .int (-1), .ref a66, .ref a1, .ref a0, .ref a14, .ref a17, .ref a20, .ref a23, .int 0, .ref a26, .ref a28, .ref a42, .ref a67, .ref a45, .ref a68, .ref a69, .ref a59, .ref a62]), (a65, aI G 800 (fun _ => 0)), (a66, ob 3 [.ref a65, .int 0, .int 0, .int (-1), .ref a0, .ref a70, .int 0])] s.heap H locs) ?_ ?_ 0 (Nat.zero_le _) _ _ _ ⟨lv_sub hl [0, 1] rfl, _, hw⟩
  · intro H locs ls h9
    obtain ⟨hl, v900, hw⟩ := h9
    have hl : lv_has ls 2 [(1, .int 72), (0, .ref a0)] := hl
    have hw : Wd G A [(a1, ob 2 [.int 0, .int 0, .int 0, .ref a2, .ref a3, .ref a4, .ref a5, .ref a6, .ref a7]), (a4, aI G 72 (fl_fill (-1) 0 72)), (a0, ob 2 [.int 0, .int 0, .int 0, .ref a8, .ref a9, .ref a10, .ref a11, .ref a12, .ref a13]), (a10, aI G 72 (v900)), (a14, ob 1 [.ref a15, .ref a16, .int 0, .int 0]), (a17, ob 1 [.ref a18, .ref a19, .int 0, .int 0]), (a20, ob 1 [.ref a21, .ref a22, .int 0, .int 0]), (a23, ob 1 [.ref a24, .ref a25, .int 0, .int 0]), (a26, ob 9 [.int 6, .int 3, .int 120, .ref a27, .ref a28, .ref a1, .int 0, .int 0, .int 0, .int 0, .ref a29, .ref a30, .int 0, .int 0, .ref a31, .ref a32, .ref a33, .ref a34]), (a28, ob 4 [.int 0, .int 0, .int 0, .int 0, .int 0, .int 0, .int 0, .ref a35, .ref a36, .ref a37, .ref a38, .ref a39, .ref a40, .ref a41]), (a42, ob 6 [.ref a27, .ref a43, .ref a44, .ref a1, .ref a45, .int (-1)]), (a44, aJ G 5 (fun _ => 0)), (a43, aJ G 8 (fun _ => 0)), (a45, ob 0 [.int (-1), .int 0, .int 0, .int 0, .int 0, .int 0, .int 0, .ref a46, .ref a47, .ref a48]), (a47, aI G 8 (fun _ => 0)), (a48, ob 1 [.ref a49, .ref a50, .int 0, .int 0]), (a27, ob 7 [.ref a51, .ref a52, .ref a53, .ref a54, .ref a55, .int 0, .ref a56, .int 0, .ref a57, .ref a58, .int 0]), (a59, ob 1 [.ref a60, .ref a61, .int 0, .int 0]), (a62, ob 8 [.ref a63, .int 0]), (a64, ob 10 [.ref a65, .int 0, .int (-1), .ref a66, .ref a1, .ref a0, .ref a14, .ref a17, .ref a20, .ref a23, .int 0, .ref a26, .ref a28, .ref a42, .ref a67, .ref a45, .ref a68, .ref a69, .ref a59, .ref a62]), (a65, aI G 800 (fun _ => 0)), (a66, ob 3 [.ref a65, .int 0, .int 0, .int (-1), .ref a0, .ref a70, .int 0])] s.heap _ _ := hw
    refine lv_iload_n hx hb dX3_clear_17 rfl (lv_at hl 0 rfl) ?_
    refine lv_bipush (v := 72) hx hb dX3_clear_18 (by decide) ?_
    refine lv_icmp_ge (tgt := 36) hx hb dX3_clear_20 (by decide) (fun _ => ?_) (fun c9 => absurd (by decide) c9)
    have hw : Wd G A [(a1, ob 2 [.int 0, .int 0, .int 0, .ref a2, .ref a3, .ref a4, .ref a5, .ref a6, .ref a7]), (a4, aI G 72 (fl_fill (-1) 0 72)), (a0, ob 2 [.int 0, .int 0, .int 0, .ref a8, .ref a9, .ref a10, .ref a11, .ref a12, .ref a13]), (a10, aI G 72 (v900)), (a14, ob 1 [.ref a15, .ref a16, .int 0, .int 0]), (a17, ob 1 [.ref a18, .ref a19, .int 0, .int 0]), (a20, ob 1 [.ref a21, .ref a22, .int 0, .int 0]), (a23, ob 1 [.ref a24, .ref a25, .int 0, .int 0]), (a26, ob 9 [.int 6, .int 3, .int 120, .ref a27, .ref a28, .ref a1, .int 0, .int 0, .int 0, .int 0, .ref a29, .ref a30, .int 0, .int 0, .ref a31, .ref a32, .ref a33, .ref a34]), (a28, ob 4 [.int 0, .int 0, .int 0, .int 0, .int 0, .int 0, .int 0, .ref a35, .ref a36, .ref a37, .ref a38, .ref a39, .ref a40, .ref a41]), (a42, ob 6 [.ref a27, .ref a43, .ref a44, .ref a1, .ref a45, .int (-1)]), (a44, aJ G 5 (fun _ => 0)), (a43, aJ G 8 (fun _ => 0)), (a45, ob 0 [.int (-1), .int 0, .int 0, .int 0, .int 0, .int 0, .int 0, .ref a46, .ref a47, .ref a48]), (a47, aI G 8 (fun _ => 0)), (a48, ob 1 [.ref a49, .ref a50, .int 0, .int 0]), (a27, ob 7 [.ref a51, .ref a52, .ref a53, .ref a54, .ref a55, .int 0, .ref a56, .int 0, .ref a57, .ref a58, .int 0]), (a59, ob 1 [.ref a60, .ref a61, .int 0, .int 0]), (a62, ob 8 [.ref a63, .int 0]), (a64, ob 10 [.ref a65, .int 0, .int (-1), .ref a66, .ref a1, .ref a0, .ref a14, .ref a17, .ref a20, .ref a23, .int 0, .ref a26, .ref a28, .ref a42, .ref a67, .ref a45, .ref a68, .ref a69, .ref a59, .ref a62]), (a65, aI G 800 (fun _ => 0)), (a66, ob 3 [.ref a65, .int 0, .int 0, .int (-1), .ref a0, .ref a70, .int 0])] s.heap _ _ := hw.sub [0, 1, 2, 3, 4, 5, 6, 7, 8, 9, 10, 11, 12, 13, 14, 15, 16, 17, 18, 19, 20, 21] rfl rfl
    exact r_vret cx hr hlk (v900) trivial hw (Nat.le_of_ble_eq_true rfl) (Nat.le_of_ble_eq_true rfl) dX3_clear_36
  · intro k H locs ls hk h9 ih
    obtain ⟨hl, v900, hw⟩ := h9
    refine lv_iload_n hx hb dX3_clear_17 rfl (lv_at hl 0 rfl) ?_
    refine lv_bipush (v := 72) hx hb dX3_clear_18 (by decide) ?_
    refine lv_icmp_ge (tgt := 36) hx hb dX3_clear_20 (by decide) (fun c9 => absurd c9 (nI_ge hk (by decide))) (fun _ => ?_)
    refine lv_aload_n hx hb dX3_clear_23 rfl (lv_at hl 1 rfl) ?_
    refine r_get cx hw inX3 (ci := 2) rfl 2 rfl 5 (by decide) fl_X3_18 rfl dX3_clear_24 ?_
    refine lv_iload_n hx hb dX3_clear_27 rfl (lv_at hl 0 rfl) ?_
    refine lv_iconst (v := (-1)) hx hb dX3_clear_28 (by decide) ?_
    refine r_iast cx hw 3 rfl (vp_in_nI hk (by decide)) (ws' := [(a1, ob 2 [.int 0, .int 0, .int 0, .ref a2, .ref a3, .ref a4, .ref a5, .ref a6, .ref a7]), (a4, aI G 72 (fl_fill (-1) 0 72)), (a0, ob 2 [.int 0, .int 0, .int 0, .ref a8, .ref a9, .ref a10, .ref a11, .ref a12, .ref a13]), (a10, aI G 72 (upd (v900) ((nI k)).toNatClampNeg (-1))), (a14, ob 1 [.ref a15, .ref a16, .int 0, .int 0]), (a17, ob 1 [.ref a18, .ref a19, .int 0, .int 0]), (a20, ob 1 [.ref a21, .ref a22, .int 0, .int 0]), (a23, ob 1 [.ref a24, .ref a25, .int 0, .int 0]), (a26, ob 9 [.int 6, .int 3, .int 120, .ref a27, .ref a28, .ref a1, .int 0, .int 0, .int 0, .int 0, .ref a29, .ref a30, .int 0, .int 0, .ref a31, .ref a32, .ref a33, .ref a34]), (a28, ob 4 [.int 0, .int 0, .int 0, .int 0, .int 0, .int 0, .int 0, .ref a35, .ref a36, .ref a37, .ref a38, .ref a39, .ref a40, .ref a41]), (a42, ob 6 [.ref a27, .ref a43, .ref a44, .ref a1, .ref a45, .int (-1)]), (a44, aJ G 5 (fun _ => 0)), (a43, aJ G 8 (fun _ => 0)), (a45, ob 0 [.int (-1), .int 0, .int 0, .int 0, .int 0, .int 0, .int 0, .ref a46, .ref a47, .ref a48]), (a47, aI G 8 (fun _ => 0)), (a48, ob 1 [.ref a49, .ref a50, .int 0, .int 0]), (a27, ob 7 [.ref a51, .ref a52, .ref a53, .ref a54, .ref a55, .int 0, .ref a56, .int 0, .ref a57, .ref a58, .int 0]), (a59, ob 1 [.ref a60, .ref a61, .int 0, .int 0]), (a62, ob 8 [.ref a63, .int 0]), (a64, ob 10 [.ref a65, .int 0, .int (-1), .ref a66, .ref a1, .ref a0, .ref a14, .ref a17, .ref a20, .ref a23, .int 0, .ref a26, .ref a28, .ref a42, .ref a67, .ref a45, .ref a68, .ref a69, .ref a59, .ref a62]), (a65, aI G 800 (fun _ => 0)), (a66, ob 3 [.ref a65, .int 0, .int 0, .int (-1), .ref a0, .ref a70, .int 0])]) rfl dX3_clear_29 (fun H locs hw => ?_)
    refine lv_iinc (v := nI (k + 1)) (lv' := [(1, .int (nI (k + 1))), (0, .ref a0)]) hx hb dX3_clear_30 hl (k := 0) rfl (nI_1 k) (by decide) rfl (fun ls hl => ?_)
    refine lv_goto (tgt := 17) hx hb dX3_clear_33 (by decide) ?_
    exact ih H locs ls ⟨lv_sub hl [0, 1] rfl, _, hw.sub [0, 1, 2, 3, 4, 5, 6, 7, 8, 9, 10, 11, 12, 13, 14, 15, 16, 17, 18, 19, 20, 21] rfl rfl⟩

set_option maxHeartbeats 4000000 in
set_option maxRecDepth 100000 in
theorem a_X3_clear_18 (l : Launch) (G : Gt) (a0 : Nat) (a1 : Nat) (a2 : Nat) (a3 : Nat) (a4 : Nat) (a5 : Nat) (a6 : Nat) (a7 : Nat) (a8 : Nat) (a9 : Nat) (a10 : Nat) (a11 : Nat) (a12 : Nat) (a13 : Nat) (a14 : Nat) (a15 : Nat) (a16 : Nat) (a17 : Nat) (a18 : Nat) (a19 : Nat) (a20 : Nat) (a21 : Nat) (a22 : Nat) (a23 : Nat) (a24 : Nat) (a25 : Nat) (a26 : Nat) (a27 : Nat) (a28 : Nat) (a29 : Nat) (a30 : Nat) (a31 : Nat) (a32 : Nat) (a33 : Nat) (a34 : Nat) (a35 : Nat) (a36 : Nat) (a37 : Nat) (a38 : Nat) (a39 : Nat) (a40 : Nat) (a41 : Nat) (a42 : Nat) (a43 : Nat) (a44 : Nat) (a45 : Nat) (a46 : Nat) (a47 : Nat) (a48 : Nat) (a49 : Nat) (a50 : Nat) (a51 : Nat) (a52 : Nat) (a53 : Nat) (a54 : Nat) (a55 : Nat) (a56 : Nat) (a57 : Nat) (a58 : Nat) (a59 : Nat) (a60 : Nat) (a61 : Nat) (a62 : Nat) (a63 : Nat) (a64 : Nat) (a65 : Nat) (a66 : Nat) (a67 : Nat) (a68 : Nat) (a69 : Nat) (a70 : Nat) : Mt l yX3_clear cX3_clear 2 none ({ frames := 0, cells := 0, slots := 0, locals := 0 } : Room) G [.ref a0] [(a1, ob 2 [.int 0, .int 0, .int 0, .ref a2, .ref a3, .ref a4, .ref a5, .ref a6, .ref a7]), (a4, aI G 72 (fl_fill (-1) 0 72)), (a0, ob 2 [.int 0, .int 0, .int 0, .ref a8, .ref a9, .ref a10, .ref a11, .ref a12, .ref a13]), (a10, aI G 72 (fl_fill (-1) 0 72)), (a14, ob 1 [.ref a15, .ref a16, .int 0, .int 0]), (a17, ob 1 [.ref a18, .ref a19, .int 0, .int 0]), (a20, ob 1 [.ref a21, .ref a22, .int 0, .int 0]), (a23, ob 1 [.ref a24, .ref a25, .int 0, .int 0]), (a26, ob 9 [.int 6, .int 3, .int 120, .ref a27, .ref a28, .ref a1, .int 0, .int 0, .int 0, .int 0, .ref a29, .ref a30, .int 0, .int 0, .ref a31, .ref a32, .ref a33, .ref a34]), (a28, ob 4 [.int 0, .int 0, .int 0, .int 0, .int 0, .int 0, .int 0, .ref a35, .ref a36, .ref a37, .ref a38, .ref a39, .ref a40, .ref a41]), (a42, ob 6 [.ref a27, .ref a43, .ref a44, .ref a1, .ref a45, .int (-1)]), (a44, aJ G 5 (fun _ => 0)), (a43, aJ G 8 (fun _ => 0)), (a45, ob 0 [.int (-1), .int 0, .int 0, .int 0, .int 0, .int 0, .int 0, .ref a46, .ref a47, .ref a48]), (a47, aI G 8 (fun _ => 0)), (a48, ob 1 [.ref a49, .ref a50, .int 0, .int 0]), (a27, ob 7 [.ref a51, .ref a52, .ref a53, .ref a54, .ref a55, .int 0, .ref a56, .int 0, .ref a57, .ref a58, .int 0]), (a59, ob 1 [.ref a60, .ref a61, .int 0, .int 0]), (a62, ob 8 [.ref a63, .int 0]), (a64, ob 10 [.ref a65, .int 0, .int (-1), .ref a66, .ref a1, .ref a0, .ref a14, .ref a17, .ref a20, .ref a23, .int 0, .ref a26, .ref a28, .ref a42, .ref a67, .ref a45, .ref a68, .ref a69, .ref a59, .ref a62]), (a65, aI G 800 (fun _ => 0)), (a66, ob 3 [.ref a65, .int 0, .int 0, .int (-1), .ref a0, .ref a70, .int 0])] (qV G (fun (w : Nat → Int32) => True) (fun w => [(a1, ob 2 [.int 0, .int 0, .int 0, .ref a2, .ref a3, .ref a4, .ref a5, .ref a6, .ref a7]), (a4, aI G 72 (fl_fill (-1) 0 72)), (a0, ob 2 [.int 0, .int 0, .int 0, .ref a8, .ref a9, .ref a10, .ref a11, .ref a12, .ref a13]), (a10, aI G 72 (w)), (a14, ob 1 [.ref a15, .ref a16, .int 0, .int 0]), (a17, ob 1 [.ref a18, .ref a19, .int 0, .int 0]), (a20, ob 1 [.ref a21, .ref a22, .int 0, .int 0]), (a23, ob 1 [.ref a24, .ref a25, .int 0, .int 0]), (a26, ob 9 [.int 6, .int 3, .int 120, .ref a27, .ref a28, .ref a1, .int 0, .int 0, .int 0, .int 0, .ref a29, .ref a30, .int 0, .int 0, .ref a31, .ref a32, .ref a33, .ref a34]), (a28, ob 4 [.int 0, .int 0, .int 0, .int 0, .int 0, .int 0, .int 0, .ref a35, .ref a36, .ref a37, .ref a38, .ref a39, .ref a40, .ref a41]), (a42, ob 6 [.ref a27, .ref a43, .ref a44, .ref a1, .ref a45, .int (-1)]), (a44, aJ G 5 (fun _ => 0)), (a43, aJ G 8 (fun _ => 0)), (a45, ob 0 [.int (-1), .int 0, .int 0, .int 0, .int 0, .int 0, .int 0, .ref a46, .ref a47, .ref a48]), (a47, aI G 8 (fun _ => 0)), (a48, ob 1 [.ref a49, .ref a50, .int 0, .int 0]), (a27, ob 7 [.ref a51, .ref a52, .ref a53, .ref a54, .ref a55, .int 0, .ref a56, .int 0, .ref a57, .ref a58, .int 0]), (a59, ob 1 [.ref a60, .ref a61, .int 0, .int 0]), (a62, ob 8 [.ref a63, .int 0]), (a64, ob 10 [.ref a65, .int 0, .int (-1), .ref a66, .ref a1, .ref a0, .ref a14, .ref a17, .ref a20, .ref a23, .int 0, .ref a26, .ref a28, .ref a42, .ref a67, .ref a45, .ref a68, .ref a69, .ref a59, .ref a62]), (a65, aI G 800 (fun _ => 0)), (a66, ob 3 [.ref a65, .int 0, .int 0, .int (-1), .ref a0, .ref a70, .int 0])])) := by
  refine Mt.of (own := RX3) (cc := cX3_clear) (by decide) rfl (Nat.le_of_ble_eq_true rfl) ?_
  intro p e s m below meth c A ls cx hr hlk hmn hA hl hw
  have hx := cx.1
  have hb := cx.2.1
  have hl : lv_has ls 2 [(0, .ref a0)] := hl
  refine lv_aload_n hx hb dX3_clear_0 rfl (lv_at hl 0 rfl) ?_
  refine lv_iconst (v := 0) hx hb dX3_clear_1 (by decide) ?_
  refine r_put cx hw inX3 (ci := 2) rfl tyX3_ok nmX3 2 rfl 0 (by decide) fl_X3_30 rfl rfl rfl (Nat.le_of_ble_eq_true rfl) (ws' := [(a1, ob 2 [.int 0, .int 0, .int 0, .ref a2, .ref a3, .ref a4, .ref a5, .ref a6, .ref a7]), (a4, aI G 72 (fl_fill (-1) 0 72)), (a0, ob 2 [.int 0, .int 0, .int 0, .ref a8, .ref a9, .ref a10, .ref a11, .ref a12, .ref a13]), (a10, aI G 72 (fl_fill (-1) 0 72)), (a14, ob 1 [.ref a15, .ref a16, .int 0, .int 0]), (a17, ob 1 [.ref a18, .ref a19, .int 0, .int 0]), (a20, ob 1 [.ref a21, .ref a22, .int 0, .int 0]), (a23, ob 1 [.ref a24, .ref a25, .int 0, .int 0]), (a26, ob 9 [.int 6, .int 3, .int 120, .ref a27, .ref a28, .ref a1, .int 0, .int 0, .int 0, .int 0, .ref a29, .ref a30, .int 0, .int 0, .ref a31, .ref a32, .ref a33, .ref a34]), (a28, ob 4 [.int 0, .int 0, .int 0, .int 0, .int 0, .int 0, .int 0, .ref a35, .ref a36, .ref a37, .ref a38, .ref a39, .ref a40, .ref a41]), (a42, ob 6 [.ref a27, .ref a43, .ref a44, .ref a1, .ref a45, .int (-1)]), (a44, aJ G 5 (fun _ => 0)), (a43, aJ G 8 (fun _ => 0)), (a45, ob 0 [.int (-1), .int 0, .int 0, .int 0, .int 0, .int 0, .int 0, .ref a46, .ref a47, .ref a48]), (a47, aI G 8 (fun _ => 0)), (a48, ob 1 [.ref a49, .ref a50, .int 0, .int 0]), (a27, ob 7 [.ref a51, .ref a52, .ref a53, .ref a54, .ref a55, .int 0, .ref a56, .int 0, .ref a57, .ref a58, .int 0]), (a59, ob 1 [.ref a60, .ref a61, .int 0, .int 0]), (a62, ob 8 [.ref a63, .int 0]), (a64, ob 10 [.ref a65, .int 0, .int (-1), .ref a66, .ref a1, .ref a0, .ref a14, .ref a17, .ref a20, .ref a23, .int 0, .ref a26, .ref a28, .ref a42, .ref a67, .ref a45, .ref a68, .ref a69, .ref a59, .ref a62]), (a65, aI G 800 (fun _ => 0)), (a66, ob 3 [.ref a65, .int 0, .int 0, .int (-1), .ref a0, .ref a70, .int 0])]) rfl dX3_clear_2 (fun H locs hw => ?_)
  refine lv_aload_n hx hb dX3_clear_5 rfl (lv_at hl 0 rfl) ?_
  refine lv_iconst (v := 0) hx hb dX3_clear_6 (by decide) ?_
  refine r_put cx hw inX3 (ci := 2) rfl tyX3_ok nmX3 2 rfl 1 (by decide) fl_X3_34 rfl rfl rfl (Nat.le_of_ble_eq_true rfl) (ws' := [(a1, ob 2 [.int 0, .int 0, .int 0, .ref a2, .ref a3, .ref a4, .ref a5, .ref a6, .ref a7]), (a4, aI G 72 (fl_fill (-1) 0 72)), (a0, ob 2 [.int 0, .int 0, .int 0, .ref a8, .ref a9, .ref a10, .ref a11, .ref a12, .ref a13]), (a10, aI G 72 (fl_fill (-1) 0 72)), (a14, ob 1 [.ref a15, .ref a16, .int 0, .int 0]), (a17, ob 1 [.ref a18, .ref a19, .int 0, .int 0]), (a20, ob 1 [.ref a21, .ref a22, .int 0, .int 0]), (a23, ob 1 [.ref a24, .ref a25, .int 0, .int 0]), (a26, ob 9 [.int 6, .int 3, .int 120, .ref a27, .ref a28, .ref a1, .int 0, .int 0, .int 0, .int 0, .ref a29, .ref a30, .int 0, .int 0, .ref a31, .ref a32, .ref a33, .ref a34]), (a28, ob 4 [.int 0, .int 0, .int 0, .int 0, .int 0, .int 0, .int 0, .ref a35, .ref a36, .ref a37, .ref a38, .ref a39, .ref a40, .ref a41]), (a42, ob 6 [.ref a27, .ref a43, .ref a44, .ref a1, .ref a45, .int (-1)]), (a44, aJ G 5 (fun _ => 0)), (a43, aJ G 8 (fun _ => 0)), (a45, ob 0 [.int (-1), .int 0, .int 0, .int 0, .int 0, .int 0, .int 0, .ref a46, .ref a47, .ref a48]), (a47, aI G 8 (fun _ => 0)), (a48, ob 1 [.ref a49, .ref a50, .int 0, .int 0]), (a27, ob 7 [.ref a51, .ref a52, .ref a53, .ref a54, .ref a55, .int 0, .ref a56, .int 0, .ref a57, .ref a58, .int 0]), (a59, ob 1 [.ref a60, .ref a61, .int 0, .int 0]), (a62, ob 8 [.ref a63, .int 0]), (a64, ob 10 [.ref a65, .int 0, .int (-1), .ref a66, .ref a1, .ref a0, .ref a14, .ref a17, .ref a20, .ref a23, .int 0, .ref a26, .ref a28, .ref a42, .ref a67, .ref a45, .ref a68, .ref a69, .ref a59, .ref a62]), (a65, aI G 800 (fun _ => 0)), (a66, ob 3 [.ref a65, .int 0, .int 0, .int (-1), .ref a0, .ref a70, .int 0])]) rfl dX3_clear_7 (fun H locs hw => ?_)
  refine lv_aload_n hx hb dX3_clear_10 rfl (lv_at hl 0 rfl) ?_
  refine lv_iconst (v := 0) hx hb dX3_clear_11 (by decide) ?_
  refine r_put cx hw inX3 (ci := 2) rfl tyX3_ok nmX3 2 rfl 2 (by decide) fl_X3_37 rfl rfl rfl (Nat.le_of_ble_eq_true rfl) (ws' := [(a1, ob 2 [.int 0, .int 0, .int 0, .ref a2, .ref a3, .ref a4, .ref a5, .ref a6, .ref a7]), (a4, aI G 72 (fl_fill (-1) 0 72)), (a0, ob 2 [.int 0, .int 0, .int 0, .ref a8, .ref a9, .ref a10, .ref a11, .ref a12, .ref a13]), (a10, aI G 72 (fl_fill (-1) 0 72)), (a14, ob 1 [.ref a15, .ref a16, .int 0, .int 0]), (a17, ob 1 [.ref a18, .ref a19, .int 0, .int 0]), (a20, ob 1 [.ref a21, .ref a22, .int 0, .int 0]), (a23, ob 1 [.ref a24, .ref a25, .int 0, .int 0]), (a26, ob 9 [.int 6, .int 3, .int 120, .ref a27, .ref a28, .ref a1, .int 0, .int 0, .int 0, .int 0, .ref a29, .ref a30, .int 0, .int 0, .ref a31, .ref a32, .ref a33, .ref a34]), (a28, ob 4 [.int 0, .int 0, .int 0, .int 0, .int 0, .int 0, .int 0, .ref a35, .ref a36, .ref a37, .ref a38, .ref a39, .ref a40, .ref a41]), (a42, ob 6 [.ref a27, .ref a43, .ref a44, .ref a1, .ref a45, .int (-1)]), (a44, aJ G 5 (fun _ => 0)), (a43, aJ G 8 (fun _ => 0)), (a45, ob 0 [.int (-1), .int 0, .int 0, .int 0, .int 0, .int 0, .int 0, .ref a46, .ref a47, .ref a48]), (a47, aI G 8 (fun _ => 0)), (a48, ob 1 [.ref a49, .ref a50, .int 0, .int 0]), (a27, ob 7 [.ref a51, .ref a52, .ref a53, .ref a54, .ref a55, .int 0, .ref a56, .int 0, .ref a57, .ref a58, .int 0]), (a59, ob 1 [.ref a60, .ref a61, .int 0, .int 0]), (a62, ob 8 [.ref a63, .int 0]), (a64, ob 10 [.ref a65, .int 0, .int (-1), .ref a66, .ref a1, .ref a0, .ref a14, .ref a17, .ref a20, .ref a23, .int 0, .ref a26, .ref a28, .ref a42, .ref a67, .ref a45, .ref a68, .ref a69, .ref a59, .ref a62]), (a65, aI G 800 (fun _ => 0)), (a66, ob 3 [.ref a65, .int 0, .int 0, .int (-1), .ref a0, .ref a70, .int 0])]) rfl dX3_clear_12 (fun H locs hw => ?_)
  refine lv_iconst (v := 0) hx hb dX3_clear_15 (by decide) ?_
  refine lv_istore_n (lv' := [(1, .int 0), (0, .ref a0)]) hx hb dX3_clear_16 rfl hl (by decide) rfl (fun ls hl => ?_)
  refine r_loop (N := 72) (fun k H locs ls => lv_has ls 2 [(1, .int (nI k)), (0, .ref a0)] ∧ ∃ v900 : Nat → Int32, Wd G A [(a1, ob 2 [.int 0, .int 0, .int 0, .ref a2, .ref a3, .ref a4, .ref a5, .ref a6, .ref a7]), (a4, aI G 72 (fl_fill (-1) 0 72)), (a0, ob 2 [.int 0, .int 0, .int 0, .ref a8, .ref a9, .ref a10, .ref a11, .ref a12, .ref a13]), (a10, aI G 72 (v900)), (a14, ob 1 [.ref a15, .ref a16, .int 0, .int 0]), (a17, ob 1 [.ref a18, .ref a19, .int 0, .int 0]), (a20, ob 1 [.ref a21, .ref a22, .int 0, .int 0]), (a23, ob 1 [.ref a24, .ref a25, .int 0, .int 0]), (a26, ob 9 [.int 6, .int 3, .int 120, .ref a27, .ref a28, .ref a1, .int 0, .int 0, .int 0, .int 0, .ref a29, .ref a30, .int 0, .int 0, .ref a31, .ref a32, .ref a33, .ref a34]), (a28, ob 4 [.int 0, .int 0, .int 0, .int 0, .int 0, .int 0, .int 0, .ref a35, .ref a36, .ref a37, .ref a38, .ref a39, .ref a40, .ref a41]), (a42, ob 6 [.ref a27, .ref a43, .ref a44, .ref a1, .ref a45, .int (-1)]), (a44, aJ G 5 (fun _ => 0)), (a43, aJ G 8 (fun _ => 0)), (a45, ob 0 [.int (-1), .int 0, .int 0, .int 0, .int 0, .int 0, .int 0, .ref a46, .ref a47, .ref a48]), (a47, aI G 8 (fun _ => 0)), (a48, ob 1 [.ref a49, .ref a50, .int 0, .int 0]), (a27, ob 7 [.ref a51, .ref a52, .ref a53, .ref a54, .ref a55, .int 0, .ref a56, .int 0, .ref a57, .ref a58, .int 0]), (a59, ob 1 [.ref a60, .ref a61, .int 0, .int 0]), (a62, ob 8 [.ref a63, .int 0]), (a64, ob 10 [.ref a65, .int 0, .int (-1), .ref a66, .ref a1, .ref a0, .ref a14, .ref a17, .ref a20, .ref a23, .int 0, .ref a26, .ref a28, .ref a42, .ref a67, .ref a45, .ref a68, .ref a69, .ref a59, .ref a62]), (a65, aI G 800 (fun _ => 0)), (a66, ob 3 [.ref a65, .int 0, .int 0, .int (-1), .ref a0, .ref a70, .int 0])] s.heap H locs) ?_ ?_ 0 (Nat.zero_le _) _ _ _ ⟨lv_sub hl [0, 1] rfl, _, hw⟩
  · intro H locs ls h9
    obtain ⟨hl, v900, hw⟩ := h9
    have hl : lv_has ls 2 [(1, .int 72), (0, .ref a0)] := hl
    have hw : Wd G A [(a1, ob 2 [.int 0, .int 0, .int 0, .ref a2, .ref a3, .ref a4, .ref a5, .ref a6, .ref a7]), (a4, aI G 72 (fl_fill (-1) 0 72)), (a0, ob 2 [.int 0, .int 0, .int 0, .ref a8, .ref a9, .ref a10, .ref a11, .ref a12, .ref a13]), (a10, aI G 72 (v900)), (a14, ob 1 [.ref a15, .ref a16, .int 0, .int 0]), (a17, ob 1 [.ref a18, .ref a19, .int 0, .int 0]), (a20, ob 1 [.ref a21, .ref a22, .int 0, .int 0]), (a23, ob 1 [.ref a24, .ref a25, .int 0, .int 0]), (a26, ob 9 [.int 6, .int 3, .int 120, .ref a27, .ref a28, .ref a1, .int 0, .int 0, .int 0, .int 0, .ref a29, .ref a30, .int 0, .int 0, .ref a31, .ref a32, .ref a33, .ref a34]), (a28, ob 4 [.int 0, .int 0, .int 0, .int 0, .int 0, .int 0, .int 0, .ref a35, .ref a36, .ref a37, .ref a38, .ref a39, .ref a40, .ref a41]), (a42, ob 6 [.ref a27, .ref a43, .ref a44, .ref a1, .ref a45, .int (-1)]), (a44, aJ G 5 (fun _ => 0)), (a43, aJ G 8 (fun _ => 0)), (a45, ob 0 [.int (-1), .int 0, .int 0, .int 0, .int 0, .int 0, .int 0, .ref a46, .ref a47, .ref a48]), (a47, aI G 8 (fun _ => 0)), (a48, ob 1 [.ref a49, .ref a50, .int 0, .int 0]), (a27, ob 7 [.ref a51, .ref a52, .ref a53, .ref a54, .ref a55, .int 0, .ref a56, .int 0, .ref a57, .ref a58, .int 0]), (a59, ob 1 [.ref a60, .ref a61, .int 0, .int 0]), (a62, ob 8 [.ref a63, .int 0]), (a64, ob 10 [.ref a65, .int 0, .int (-1), .ref a66, .ref a1, .ref a0, .ref a14, .ref a17, .ref a20, .ref a23, .int 0, .ref a26, .ref a28, .ref a42, .ref a67, .ref a45, .ref a68, .ref a69, .ref a59, .ref a62]), (a65, aI G 800 (fun _ => 0)), (a66, ob 3 [.ref a65, .int 0, .int 0, .int (-1), .ref a0, .ref a70, .int 0])] s.heap _ _ := hw
    refine lv_iload_n hx hb dX3_clear_17 rfl (lv_at hl 0 rfl) ?_
    refine lv_bipush (v := 72) hx hb dX3_clear_18 (by decide) ?_
    refine lv_icmp_ge (tgt := 36) hx hb dX3_clear_20 (by decide) (fun _ => ?_) (fun c9 => absurd (by decide) c9)
    have hw : Wd G A [(a1, ob 2 [.int 0, .int 0, .int 0, .ref a2, .ref a3, .ref a4, .ref a5, .ref a6, .ref a7]), (a4, aI G 72 (fl_fill (-1) 0 72)), (a0, ob 2 [.int 0, .int 0, .int 0, .ref a8, .ref a9, .ref a10, .ref a11, .ref a12, .ref a13]), (a10, aI G 72 (v900)), (a14, ob 1 [.ref a15, .ref a16, .int 0, .int 0]), (a17, ob 1 [.ref a18, .ref a19, .int 0, .int 0]), (a20, ob 1 [.ref a21, .ref a22, .int 0, .int 0]), (a23, ob 1 [.ref a24, .ref a25, .int 0, .int 0]), (a26, ob 9 [.int 6, .int 3, .int 120, .ref a27, .ref a28, .ref a1, .int 0, .int 0, .int 0, .int 0, .ref a29, .ref a30, .int 0, .int 0, .ref a31, .ref a32, .ref a33, .ref a34]), (a28, ob 4 [.int 0, .int 0, .int 0, .int 0, .int 0, .int 0, .int 0, .ref a35, .ref a36, .ref a37, .ref a38, .ref a39, .ref a40, .ref a41]), (a42, ob 6 [.ref a27, .ref a43, .ref a44, .ref a1, .ref a45, .int (-1)]), (a44, aJ G 5 (fun _ => 0)), (a43, aJ G 8 (fun _ => 0)), (a45, ob 0 [.int (-1), .int 0, .int 0, .int 0, .int 0, .int 0, .int 0, .ref a46, .ref a47, .ref a48]), (a47, aI G 8 (fun _ => 0)), (a48, ob 1 [.ref a49, .ref a50, .int 0, .int 0]), (a27, ob 7 [.ref a51, .ref a52, .ref a53, .ref a54, .ref a55, .int 0, .ref a56, .int 0, .ref a57, .ref a58, .int 0]), (a59, ob 1 [.ref a60, .ref a61, .int 0, .int 0]), (a62, ob 8 [.ref a63, .int 0]), (a64, ob 10 [.ref a65, .int 0, .int (-1), .ref a66, .ref a1, .ref a0, .ref a14, .ref a17, .ref a20, .ref a23, .int 0, .ref a26, .ref a28, .ref a42, .ref a67, .ref a45, .ref a68, .ref a69, .ref a59, .ref a62]), (a65, aI G 800 (fun _ => 0)), (a66, ob 3 [.ref a65, .int 0, .int 0, .int (-1), .ref a0, .ref a70, .int 0])] s.heap _ _ := hw.sub [0, 1, 2, 3, 4, 5, 6, 7, 8, 9, 10, 11, 12, 13, 14, 15, 16, 17, 18, 19, 20, 21] rfl rfl
    exact r_vret cx hr hlk (v900) trivial hw (Nat.le_of_ble_eq_true rfl) (Nat.le_of_ble_eq_true rfl) dX3_clear_36
  · intro k H locs ls hk h9 ih
    obtain ⟨hl, v900, hw⟩ := h9
    refine lv_iload_n hx hb dX3_clear_17 rfl (lv_at hl 0 rfl) ?_
    refine lv_bipush (v := 72) hx hb dX3_clear_18 (by decide) ?_
    refine lv_icmp_ge (tgt := 36) hx hb dX3_clear_20 (by decide) (fun c9 => absurd c9 (nI_ge hk (by decide))) (fun _ => ?_)
    refine lv_aload_n hx hb dX3_clear_23 rfl (lv_at hl 1 rfl) ?_
    refine r_get cx hw inX3 (ci := 2) rfl 2 rfl 5 (by decide) fl_X3_18 rfl dX3_clear_24 ?_
    refine lv_iload_n hx hb dX3_clear_27 rfl (lv_at hl 0 rfl) ?_
    refine lv_iconst (v := (-1)) hx hb dX3_clear_28 (by decide) ?_
    refine r_iast cx hw 3 rfl (vp_in_nI hk (by decide)) (ws' := [(a1, ob 2 [.int 0, .int 0, .int 0, .ref a2, .ref a3, .ref a4, .ref a5, .ref a6, .ref a7]), (a4, aI G 72 (fl_fill (-1) 0 72)), (a0, ob 2 [.int 0, .int 0, .int 0, .ref a8, .ref a9, .ref a10, .ref a11, .ref a12, .ref a13]), (a10, aI G 72 (upd (v900) ((nI k)).toNatClampNeg (-1))), (a14, ob 1 [.ref a15, .ref a16, .int 0, .int 0]), (a17, ob 1 [.ref a18, .ref a19, .int 0, .int 0]), (a20, ob 1 [.ref a21, .ref a22, .int 0, .int 0]), (a23, ob 1 [.ref a24, .ref a25, .int 0, .int 0]), (a26, ob 9 [.int 6, .int 3, .int 120, .ref a27, .ref a28, .ref a1, .int 0, .int 0, .int 0, .int 0, .ref a29, .ref a30, .int 0, .int 0, .ref a31, .ref a32, .ref a33, .ref a34]), (a28, ob 4 [.int 0, .int 0, .int 0, .int 0, .int 0, .int 0, .int 0, .ref a35, .ref a36, .ref a37, .ref a38, .ref a39, .ref a40, .ref a41]), (a42, ob 6 [.ref a27, .ref a43, .ref a44, .ref a1, .ref a45, .int (-1)]), (a44, aJ G 5 (fun _ => 0)), (a43, aJ G 8 (fun _ => 0)), (a45, ob 0 [.int (-1), .int 0, .int 0, .int 0, .int 0, .int 0, .int 0, .ref a46, .ref a47, .ref a48]), (a47, aI G 8 (fun _ => 0)), (a48, ob 1 [.ref a49, .ref a50, .int 0, .int 0]), (a27, ob 7 [.ref a51, .ref a52, .ref a53, .ref a54, .ref a55, .int 0, .ref a56, .int 0, .ref a57, .ref a58, .int 0]), (a59, ob 1 [.ref a60, .ref a61, .int 0, .int 0]), (a62, ob 8 [.ref a63, .int 0]), (a64, ob 10 [.ref a65, .int 0, .int (-1), .ref a66, .ref a1, .ref a0, .ref a14, .ref a17, .ref a20, .ref a23, .int 0, .ref a26, .ref a28, .ref a42, .ref a67, .ref a45, .ref a68, .ref a69, .ref a59, .ref a62]), (a65, aI G 800 (fun _ => 0)), (a66, ob 3 [.ref a65, .int 0, .int 0, .int (-1), .ref a0, .ref a70, .int 0])]) rfl dX3_clear_29 (fun H locs hw => ?_)
    refine lv_iinc (v := nI (k + 1)) (lv' := [(1, .int (nI (k + 1))), (0, .ref a0)]) hx hb dX3_clear_30 hl (k := 0) rfl (nI_1 k) (by decide) rfl (fun ls hl => ?_)
    refine lv_goto (tgt := 17) hx hb dX3_clear_33 (by decide) ?_
    exact ih H locs ls ⟨lv_sub hl [0, 1] rfl, _, hw.sub [0, 1, 2, 3, 4, 5, 6, 7, 8, 9, 10, 11, 12, 13, 14, 15, 16, 17, 18, 19, 20, 21] rfl rfl⟩

set_option maxHeartbeats 4000000 in
set_option maxRecDepth 100000 in
theorem a_X3_clear_19 (l : Launch) (G : Gt) (a0 : Nat) (a1 : Nat) (a2 : Nat) (a3 : Nat) (a4 : Nat) (a5 : Nat) (a6 : Nat) (a7 : Nat) (a8 : Nat) (a9 : Nat) (a10 : Nat) (a11 : Nat) (a12 : Nat) (a13 : Nat) (a14 : Nat) (a15 : Nat) (a16 : Nat) (a17 : Nat) (a18 : Nat) (a19 : Nat) (a20 : Nat) (a21 : Nat) (a22 : Nat) (a23 : Nat) (a24 : Nat) (a25 : Nat) (a26 : Nat) (a27 : Nat) (a28 : Nat) (a29 : Nat) (a30 : Nat) (a31 : Nat) (a32 : Nat) (a33 : Nat) (a34 : Nat) (a35 : Nat) (a36 : Nat) (a37 : Nat) (a38 : Nat) (a39 : Nat) (a40 : Nat) (a41 : Nat) (a42 : Nat) (a43 : Nat) (a44 : Nat) (a45 : Nat) (a46 : Nat) (a47 : Nat) (a48 : Nat) (a49 : Nat) (a50 : Nat) (a51 : Nat) (a52 : Nat) (a53 : Nat) (a54 : Nat) (a55 : Nat) (a56 : Nat) (a57 : Nat) (a58 : Nat) (a59 : Nat) (a60 : Nat) (a61 : Nat) (a62 : Nat) (a63 : Nat) (a64 : Nat) (a65 : Nat) (a66 : Nat) (a67 : Nat) (a68 : Nat) (a69 : Nat) (a70 : Nat) : Mt l yX3_clear cX3_clear 2 none ({ frames := 0, cells := 0, slots := 0, locals := 0 } : Room) G [.ref a0] [(a1, ob 2 [.int 0, .int 0, .int 0, .ref a2, .ref a3, .ref a4, .ref a5, .ref a6, .ref a7]), (a4, aI G 72 (fl_fill (-1) 0 72)), (a0, ob 2 [.int 0, .int 0, .int 0, .ref a8, .ref a9, .ref a10, .ref a11, .ref a12, .ref a13]), (a10, aI G 72 (fl_fill (-1) 0 72)), (a14, ob 1 [.ref a15, .ref a16, .int 0, .int 0]), (a17, ob 1 [.ref a18, .ref a19, .int 0, .int 0]), (a20, ob 1 [.ref a21, .ref a22, .int 0, .int 0]), (a23, ob 1 [.ref a24, .ref a25, .int 0, .int 0]), (a26, ob 9 [.int 6, .int 3, .int 120, .ref a27, .ref a28, .ref a1, .int 0, .int 0, .int 0, .int 0, .ref a29, .ref a30, .int 0, .int 0, .ref a31, .ref a32, .ref a33, .ref a34]), (a28, ob 4 [.int 0, .int 0, .int 0, .int 0, .int 0, .int 0, .int 0, .ref a35, .ref a36, .ref a37, .ref a38, .ref a39, .ref a40, .ref a41]), (a42, ob 6 [.ref a27, .ref a43, .ref a44, .ref a1, .ref a45, .int (-1)]), (a44, aJ G 5 (fun _ => 0)), (a43, aJ G 8 (fun _ => 0)), (a45, ob 0 [.int (-1), .int 0, .int 0, .int 0, .int 0, .int 0, .int 0, .ref a46, .ref a47, .ref a48]), (a47, aI G 8 (fun _ => 0)), (a48, ob 1 [.ref a49, .ref a50, .int 0, .int 0]), (a27, ob 7 [.ref a51, .ref a52, .ref a53, .ref a54, .ref a55, .int 0, .ref a56, .int 0, .ref a57, .ref a58, .int 0]), (a59, ob 1 [.ref a60, .ref a61, .int 0, .int 0]), (a62, ob 8 [.ref a63, .int 0]), (a64, ob 10 [.ref a65, .int 0, .int (-1), .ref a66, .ref a1, .ref a0, .ref a14, .ref a17, .ref a20, .ref a23, .int 0, .ref a26, .ref a28, .ref a42, .ref a67, .ref a45, .ref a68, .ref a69, .ref a59, .ref a62]), (a65, aI G 800 (fun _ => 0)), (a66, ob 3 [.ref a65, .int 0, .int 0, .int (-1), .ref a0, .ref a70, .int 0])] (qV G (fun (w : Nat → Int32) => True) (fun w => [(a1, ob 2 [.int 0, .int 0, .int 0, .ref a2, .ref a3, .ref a4, .ref a5, .ref a6, .ref a7]), (a4, aI G 72 (fl_fill (-1) 0 72)), (a0, ob 2 [.int 0, .int 0, .int 0, .ref a8, .ref a9, .ref a10, .ref a11, .ref a12, .ref a13]), (a10, aI G 72 (w)), (a14, ob 1 [.ref a15, .ref a16, .int 0, .int 0]), (a17, ob 1 [.ref a18, .ref a19, .int 0, .int 0]), (a20, ob 1 [.ref a21, .ref a22, .int 0, .int 0]), (a23, ob 1 [.ref a24, .ref a25, .int 0, .int 0]), (a26, ob 9 [.int 6, .int 3, .int 120, .ref a27, .ref a28, .ref a1, .int 0, .int 0, .int 0, .int 0, .ref a29, .ref a30, .int 0, .int 0, .ref a31, .ref a32, .ref a33, .ref a34]), (a28, ob 4 [.int 0, .int 0, .int 0, .int 0, .int 0, .int 0, .int 0, .ref a35, .ref a36, .ref a37, .ref a38, .ref a39, .ref a40, .ref a41]), (a42, ob 6 [.ref a27, .ref a43, .ref a44, .ref a1, .ref a45, .int (-1)]), (a44, aJ G 5 (fun _ => 0)), (a43, aJ G 8 (fun _ => 0)), (a45, ob 0 [.int (-1), .int 0, .int 0, .int 0, .int 0, .int 0, .int 0, .ref a46, .ref a47, .ref a48]), (a47, aI G 8 (fun _ => 0)), (a48, ob 1 [.ref a49, .ref a50, .int 0, .int 0]), (a27, ob 7 [.ref a51, .ref a52, .ref a53, .ref a54, .ref a55, .int 0, .ref a56, .int 0, .ref a57, .ref a58, .int 0]), (a59, ob 1 [.ref a60, .ref a61, .int 0, .int 0]), (a62, ob 8 [.ref a63, .int 0]), (a64, ob 10 [.ref a65, .int 0, .int (-1), .ref a66, .ref a1, .ref a0, .ref a14, .ref a17, .ref a20, .ref a23, .int 0, .ref a26, .ref a28, .ref a42, .ref a67, .ref a45, .ref a68, .ref a69, .ref a59, .ref a62]), (a65, aI G 800 (fun _ => 0)), (a66, ob 3 [.ref a65, .int 0, .int 0, .int (-1), .ref a0, .ref a70, .int 0])])) := by
  refine Mt.of (own := RX3) (cc := cX3_clear) (by decide) rfl (Nat.le_of_ble_eq_true rfl) ?_
  intro p e s m below meth c A ls cx hr hlk hmn hA hl hw
  have hx := cx.1
  have hb := cx.2.1
  have hl : lv_has ls 2 [(0, .ref a0)] := hl
  refine lv_aload_n hx hb dX3_clear_0 rfl (lv_at hl 0 rfl) ?_
  refine lv_iconst (v := 0) hx hb dX3_clear_1 (by decide) ?_
  refine r_put cx hw inX3 (ci := 2) rfl tyX3_ok nmX3 2 rfl 0 (by decide) fl_X3_30 rfl rfl rfl (Nat.le_of_ble_eq_true rfl) (ws' := [(a1, ob 2 [.int 0, .int 0, .int 0, .ref a2, .ref a3, .ref a4, .ref a5, .ref a6, .ref a7]), (a4, aI G 72 (fl_fill (-1) 0 72)), (a0, ob 2 [.int 0, .int 0, .int 0, .ref a8, .ref a9, .ref a10, .ref a11, .ref a12, .ref a13]), (a10, aI G 72 (fl_fill (-1) 0 72)), (a14, ob 1 [.ref a15, .ref a16, .int 0, .int 0]), (a17, ob 1 [.ref a18, .ref a19, .int 0, .int 0]), (a20, ob 1 [.ref a21, .ref a22, .int 0, .int 0]), (a23, ob 1 [.ref a24, .ref a25, .int 0, .int 0]), (a26, ob 9 [.int 6, .int 3, .int 120, .ref a27, .ref a28, .ref a1, .int 0, .int 0, .int 0, .int 0, .ref a29, .ref a30, .int 0, .int 0, .ref a31, .ref a32, .ref a33, .ref a34]), (a28, ob 4 [.int 0, .int 0, .int 0, .int 0, .int 0, .int 0, .int 0, .ref a35, .ref a36, .ref a37, .ref a38, .ref a39, .ref a40, .ref a41]), (a42, ob 6 [.ref a27, .ref a43, .ref a44, .ref a1, .ref a45, .int (-1)]), (a44, aJ G 5 (fun _ => 0)), (a43, aJ G 8 (fun _ => 0)), (a45, ob 0 [.int (-1), .int 0, .int 0, .int 0, .int 0, .int 0, .int 0, .ref a46, .ref a47, .ref a48]), (a47, aI G 8 (fun _ => 0)), (a48, ob 1 [.ref a49, .ref a50, .int 0, .int 0]), (a27, ob 7 [.ref a51, .ref a52, .ref a53, .ref a54, .ref a55, .int 0, .ref a56, .int 0, .ref a57, .ref a58, .int 0]), (a59, ob 1 [.ref a60, .ref a61, .int 0, .int 0]), (a62, ob 8 [.ref a63, .int 0]), (a64, ob 10 [.ref a65, .int 0, .int (-1), .ref a66, .ref a1, .ref a0, .ref a14, .ref a17, .ref a20, .ref a23, .int 0, .ref a26, .ref a28, .ref a42, .ref a67, .ref a45, .ref a68, .ref a69, .ref a59, .ref a62]), (a65, aI G 800 (fun _ => 0)), (a66, ob 3 [.ref a65, .int 0, .int 0, .int (-1), .ref a0, .ref a70, .int 0])]) rfl dX3_clear_2 (fun H locs hw => ?_)
  refine lv_aload_n hx hb dX3_clear_5 rfl (lv_at hl 0 rfl) ?_
  refine lv_iconst (v := 0) hx hb dX3_clear_6 (by decide) ?_
  refine r_put cx hw inX3 (ci := 2) rfl tyX3_ok nmX3 2 rfl 1 (by decide) fl_X3_34 rfl rfl rfl (Nat.le_of_ble_eq_true rfl) (ws' := [(a1, ob 2 [.int 0, .int 0, .int 0, .ref a2, .ref a3, .ref a4, .ref a5, .ref a6, .ref a7]), (a4, aI G 72 (fl_fill (-1) 0 72)), (a0, ob 2 [.int 0, .int 0, .int 0, .ref a8, .ref a9, .ref a10, .ref a11, .ref a12, .ref a13]), (a10, aI G 72 (fl_fill (-1) 0 72)), (a14, ob 1 [.ref a15, .ref a16, .int 0, .int 0]), (a17, ob 1 [.ref a18, .ref a19, .int 0, .int 0]), (a20, ob 1 [.ref a21, .ref a22, .int 0, .int 0]), (a23, ob 1 [.ref a24, .ref a25, .int 0, .int 0]), (a26, ob 9 [.int 6, .int 3, .int 120, .ref a27, .ref a28, .ref a1, .int 0, .int 0, .int 0, .int 0, .ref a29, .ref a30, .int 0, .int 0, .ref a31, .ref a32, .ref a33, .ref a34]), (a28, ob 4 [.int 0, .int 0, .int 0, .int 0, .int 0, .int 0, .int 0, .ref a35, .ref a36, .ref a37, .ref a38, .ref a39, .ref a40, .ref a41]), (a42, ob 6 [.ref a27, .ref a43, .ref a44, .ref a1, .ref a45, .int (-1)]), (a44, aJ G 5 (fun _ => 0)), (a43, aJ G 8 (fun _ => 0)), (a45, ob 0 [.int (-1), .int 0, .int 0, .int 0, .int 0, .int 0, .int 0, .ref a46, .ref a47, .ref a48]), (a47, aI G 8 (fun _ => 0)), (a48, ob 1 [.ref a49, .ref a50, .int 0, .int 0]), (a27, ob 7 [.ref a51, .ref a52, .ref a53, .ref a54, .ref a55, .int 0, .ref a56, .int 0, .ref a57, .ref a58, .int 0]), (a59, ob 1 [.ref a60, .ref a61, .int 0, .int 0]), (a62, ob 8 [.ref a63, .int 0]), (a64, ob 10 [.ref a65, .int 0, .int (-1), .ref a66, .ref a1, .ref a0, .ref a14, .ref a17, .ref a20, .ref a23, .int 0, .ref a26, .ref a28, .ref a42, .ref a67, .ref a45, .ref a68, .ref a69, .ref a59, .ref a62]), (a65, aI G 800 (fun _ => 0)), (a66, ob 3 [.ref a65, .int 0, .int 0, .int (-1), .ref a0, .ref a70, .int 0])]) rfl dX3_clear_7 (fun H locs hw => ?_)
  refine lv_aload_n hx hb dX3_clear_10 rfl (lv_at hl 0 rfl) ?_
  refine lv_iconst (v := 0) hx hb dX3_clear_11 (by decide) ?_
  refine r_put cx hw inX3 (ci := 2) rfl tyX3_ok nmX3 2 rfl 2 (by decide) fl_X3_37 rfl rfl rfl (Nat.le_of_ble_eq_true rfl) (ws' := [(a1, ob 2 [.int 0, .int 0, .int 0, .ref a2, .ref a3, .ref a4, .ref a5, .ref a6, .ref a7]), (a4, aI G 72 (fl_fill (-1) 0 72)), (a0, ob 2 [.int 0, .int 0, .int 0, .ref a8, .ref a9, .ref a10, .ref a11, .ref a12, .ref a13]), (a10, aI G 72 (fl_fill (-1) 0 72)), (a14, ob 1 [.ref a15, .ref a16, .int 0, .int 0]), (a17, ob 1 [.ref a18, .ref a19, .int 0, .int 0]), (a20, ob 1 [.ref a21, .ref a22, .int 0, .int 0]), (a23, ob 1 [.ref a24, .ref a25, .int 0, .int 0]), (a26, ob 9 [.int 6, .int 3, .int 120, .ref a27, .ref a28, .ref a1, .int 0, .int 0, .int 0, .int 0, .ref a29, .ref a30, .int 0, .int 0, .ref a31, .ref a32, .ref a33, .ref a34]), (a28, ob 4 [.int 0, .int 0, .int 0, .int 0, .int 0, .int 0, .int 0, .ref a35, .ref a36, .ref a37, .ref a38, .ref a39, .ref a40, .ref a41]), (a42, ob 6 [.ref a27, .ref a43, .ref a44, .ref a1, .ref a45, .int (-1)]), (a44, aJ G 5 (fun _ => 0)), (a43, aJ G 8 (fun _ => 0)), (a45, ob 0 [.int (-1), .int 0, .int 0, .int 0, .int 0, .int 0, .int 0, .ref a46, .ref a47, .ref a48]), (a47, aI G 8 (fun _ => 0)), (a48, ob 1 [.ref a49, .ref a50, .int 0, .int 0]), (a27, ob 7 [.ref a51, .ref a52, .ref a53, .ref a54, .ref a55, .int 0, .ref a56, .int 0, .ref a57, .ref a58, .int 0]), (a59, ob 1 [.ref a60, .ref a61, .int 0, .int 0]), (a62, ob 8 [.ref a63, .int 0]), (a64, ob 10 [.ref a65, .int 0, .int (-1), .ref a66, .ref a1, .ref a0, .ref a14, .ref a17, .ref a20, .ref a23, .int 0, .ref a26, .ref a28, .ref a42, .ref a67, .ref a45, .ref a68, .ref a69, .ref a59, .ref a62]), (a65, aI G 800 (fun _ => 0)), (a66, ob 3 [.ref a65, .int 0, .int 0, .int (-1), .ref a0, .ref a70, .int 0])]) rfl dX3_clear_12 (fun H locs hw => ?_)
  refine lv_iconst (v := 0) hx hb dX3_clear_15 (by decide) ?_
  refine lv_istore_n (lv' := [(1, .int 0), (0, .ref a0)]) hx hb dX3_clear_16 rfl hl (by decide) rfl (fun ls hl => ?_)
  refine r_loop (N := 72) (fun k H locs ls => lv_has ls 2 [(1, .int (nI k)), (0, .ref a0)] ∧ ∃ v900 : Nat → Int32, Wd G A [(a1, ob 2 [.int 0, .int 0, .int 0, .ref a2, .ref a3, .ref a4, .ref a5, .ref a6, .ref a7]), (a4, aI G 72 (fl_fill (-1) 0 72)), (a0, ob 2 [.int 0, .int 0, .int 0, .ref a8, .ref a9, .ref a10, .ref a11, .ref a12, .ref a13]), (a10, aI G 72 (v900)), (a14, ob 1 [.ref a15, .ref a16, .int 0, .int 0]), (a17, ob 1 [.ref a18, .ref a19, .int 0, .int 0]), (a20, ob 1 [.ref a21, .ref a22, .int 0, .int 0]), (a23, ob 1 [.ref a24, .ref a25, .int 0, .int 0]), (a26, ob 9 [.int 6, .int 3, .int 120, .ref a27, .ref a28, .ref a1, .int 0, .int 0, .int 0, .int 0, .ref a29, .ref a30, .int 0, .int 0, .ref a31, .ref a32, .ref a33, .ref a34]), (a28, ob 4 [.int 0, .int 0, .int 0, .int 0, .int 0, .int 0, .int 0, .ref a35, .ref a36, .ref a37, .ref a38, .ref a39, .ref a40, .ref a41]), (a42, ob 6 [.ref a27, .ref a43, .ref a44, .ref a1, .ref a45, .int (-1)]), (a44, aJ G 5 (fun _ => 0)), (a43, aJ G 8 (fun _ => 0)), (a45, ob 0 [.int (-1), .int 0, .int 0, .int 0, .int 0, .int 0, .int 0, .ref a46, .ref a47, .ref a48]), (a47, aI G 8 (fun _ => 0)), (a48, ob 1 [.ref a49, .ref a50, .int 0, .int 0]), (a27, ob 7 [.ref a51, .ref a52, .ref a53, .ref a54, .ref a55, .int 0, .ref a56, .int 0, .ref a57, .ref a58, .int 0]), (a59, ob 1 [.ref a60, .ref a61, .int 0, .int 0]), (a62, ob 8 [.ref a63, .int 0]), (a64, ob 10 [.ref a65, .int 0, .int (-1), .ref a66, .ref a1, .ref a0, .ref a14, .ref a17, .ref a20, .ref a23, .int 0, .ref a26, .ref a28, .ref a42, .ref a67, .ref a45, .ref a68, .ref a69, .ref a59, .ref a62]), (a65, aI G 800 (fun _ => 0)), (a66, ob 3 [.ref a65, .int 0, .int 0, .int (-1), .ref a0, .ref a70, .int 0])] s.heap H locs) ?_ ?_ 0 (Nat.zero_le _) _ _ _ ⟨lv_sub hl [0, 1] rfl, _, hw⟩
  · intro H locs ls h9
    obtain ⟨hl, v900, hw⟩ := h9
    have hl : lv_has ls 2 [(1, .int 72), (0, .ref a0)] := hl
    have hw : Wd G A [(a1, ob 2 [.int 0, .int 0, .int 0, .ref a2, .ref a3, .ref a4, .ref a5, .ref a6, .ref a7]), (a4, aI G 72 (fl_fill (-1) 0 72)), (a0, ob 2 [.int 0, .int 0, .int 0, .ref a8, .ref a9, .ref a10, .ref a11, .ref a12, .ref a13]), (a10, aI G 72 (v900)), (a14, ob 1 [.ref a15, .ref a16, .int 0, .int 0]), (a17, ob 1 [.ref a18, .ref a19, .int 0, .int 0]), (a20, ob 1 [.ref a21, .ref a22, .int 0, .int 0]), (a23, ob 1 [.ref a24, .ref a25, .int 0, .int 0]), (a26, ob 9 [.int 6, .int 3, .int 120, .ref a27, .ref a28, .ref a1, .int 0, .int 0, .int 0, .int 0, .ref a29, .ref a30, .int 0, .int 0, .ref a31, .ref a32, .ref a33, .ref a34]), (a28, ob 4 [.int 0, .int 0, .int 0, .int 0, .int 0, .int 0, .int 0, .ref a35, .ref a36, .ref a37, .ref a38, .ref a39, .ref a40, .ref a41]), (a42, ob 6 [.ref a27, .ref a43, .ref a44, .ref a1, .ref a45, .int (-1)]), (a44, aJ G 5 (fun _ => 0)), (a43, aJ G 8 (fun _ => 0)), (a45, ob 0 [.int (-1), .int 0, .int 0, .int 0, .int 0, .int 0, .int 0, .ref a46, .ref a47, .ref a48]), (a47, aI G 8 (fun _ => 0)), (a48, ob 1 [.ref a49, .ref a50, .int 0, .int 0]), (a27, ob 7 [.ref a51, .ref a52, .ref a53, .ref a54, .ref a55, .int 0, .ref a56, .int 0, .ref a57, .ref a58, .int 0]), (a59, ob 1 [.ref a60, .ref a61, .int 0, .int 0]), (a62, ob 8 [.ref a63, .int 0]), (a64, ob 10 [.ref a65, .int 0, .int (-1), .ref a66, .ref a1, .ref a0, .ref a14, .ref a17, .ref a20, .ref a23, .int 0, .ref a26, .ref a28, .ref a42, .ref a67, .ref a45, .ref a68, .ref a69, .ref a59, .ref a62]), (a65, aI G 800 (fun _ => 0)), (a66, ob 3 [.ref a65, .int 0, .int 0, .int (-1), .ref a0, .ref a70, .int 0])] s.heap _ _ := hw
    refine lv_iload_n hx hb dX3_clear_17 rfl (lv_at hl 0 rfl) ?_
    refine lv_bipush (v := 72) hx hb dX3_clear_18 (by decide) ?_
    refine lv_icmp_ge (tgt := 36) hx hb dX3_clear_20 (by decide) (fun _ => ?_) (fun c9 => absurd (by decide) c9)
    have hw : Wd G A [(a1, ob 2 [.int 0, .int 0, .int 0, .ref a2, .ref a3, .ref a4, .ref a5, .ref a6, .ref a7]), (a4, aI G 72 (fl_fill (-1) 0 72)), (a0, ob 2 [.int 0, .int 0, .int 0, .ref a8, .ref a9, .ref a10, .ref a11, .ref a12, .ref a13]), (a10, aI G 72 (v900)), (a14, ob 1 [.ref a15, .ref a16, .int 0, .int 0]), (a17, ob 1 [.ref a18, .ref a19, .int 0, .int 0]), (a20, ob 1 [.ref a21, .ref a22, .int 0, .int 0]), (a23, ob 1 [.ref a24, .ref a25, .int 0, .int 0]), (a26, ob 9 [.int 6, .int 3, .int 120, .ref a27, .ref a28, .ref a1, .int 0, .int 0, .int 0, .int 0, .ref a29, .ref a30, .int 0, .int 0, .ref a31, .ref a32, .ref a33, .ref a34]), (a28, ob 4 [.int 0, .int 0, .int 0, .int 0, .int 0, .int 0, .int 0, .ref a35, .ref a36, .ref a37, .ref a38, .ref a39, .ref a40, .ref a41]), (a42, ob 6 [.ref a27, .ref a43, .ref a44, .ref a1, .ref a45, .int (-1)]), (a44, aJ G 5 (fun _ => 0)), (a43, aJ G 8 (fun _ => 0)), (a45, ob 0 [.int (-1), .int 0, .int 0, .int 0, .int 0, .int 0, .int 0, .ref a46, .ref a47, .ref a48]), (a47, aI G 8 (fun _ => 0)), (a48, ob 1 [.ref a49, .ref a50, .int 0, .int 0]), (a27, ob 7 [.ref a51, .ref a52, .ref a53, .ref a54, .ref a55, .int 0, .ref a56, .int 0, .ref a57, .ref a58, .int 0]), (a59, ob 1 [.ref a60, .ref a61, .int 0, .int 0]), (a62, ob 8 [.ref a63, .int 0]), (a64, ob 10 [.ref a65, .int 0, .int (-1), .ref a66, .ref a1, .ref a0, .ref a14, .ref a17, .ref a20, .ref a23, .int 0, .ref a26, .ref a28, .ref a42, .ref a67, .ref a45, .ref a68, .ref a69, .ref a59, .ref a62]), (a65, aI G 800 (fun _ => 0)), (a66, ob 3 [.ref a65, .int 0, .int 0, .int (-1), .ref a0, .ref a70, .int 0])] s.heap _ _ := hw.sub [0, 1, 2, 3, 4, 5, 6, 7, 8, 9, 10, 11, 12, 13, 14, 15, 16, 17, 18, 19, 20, 21] rfl rfl
    exact r_vret cx hr hlk (v900) trivial hw (Nat.le_of_ble_eq_true rfl) (Nat.le_of_ble_eq_true rfl) dX3_clear_36
  · intro k H locs ls hk h9 ih
    obtain ⟨hl, v900, hw⟩ := h9
    refine lv_iload_n hx hb dX3_clear_17 rfl (lv_at hl 0 rfl) ?_
    refine lv_bipush (v := 72) hx hb dX3_clear_18 (by decide) ?_
    refine lv_icmp_ge (tgt := 36) hx hb dX3_clear_20 (by decide) (fun c9 => absurd c9 (nI_ge hk (by decide))) (fun _ => ?_)
    refine lv_aload_n hx hb dX3_clear_23 rfl (lv_at hl 1 rfl) ?_
    refine r_get cx hw inX3 (ci := 2) rfl 2 rfl 5 (by decide) fl_X3_18 rfl dX3_clear_24 ?_
    refine lv_iload_n hx hb dX3_clear_27 rfl (lv_at hl 0 rfl) ?_
    refine lv_iconst (v := (-1)) hx hb dX3_clear_28 (by decide) ?_
    refine r_iast cx hw 3 rfl (vp_in_nI hk (by decide)) (ws' := [(a1, ob 2 [.int 0, .int 0, .int 0, .ref a2, .ref a3, .ref a4, .ref a5, .ref a6, .ref a7]), (a4, aI G 72 (fl_fill (-1) 0 72)), (a0, ob 2 [.int 0, .int 0, .int 0, .ref a8, .ref a9, .ref a10, .ref a11, .ref a12, .ref a13]), (a10, aI G 72 (upd (v900) ((nI k)).toNatClampNeg (-1))), (a14, ob 1 [.ref a15, .ref a16, .int 0, .int 0]), (a17, ob 1 [.ref a18, .ref a19, .int 0, .int 0]), (a20, ob 1 [.ref a21, .ref a22, .int 0, .int 0]), (a23, ob 1 [.ref a24, .ref a25, .int 0, .int 0]), (a26, ob 9 [.int 6, .int 3, .int 120, .ref a27, .ref a28, .ref a1, .int 0, .int 0, .int 0, .int 0, .ref a29, .ref a30, .int 0, .int 0, .ref a31, .ref a32, .ref a33, .ref a34]), (a28, ob 4 [.int 0, .int 0, .int 0, .int 0, .int 0, .int 0, .int 0, .ref a35, .ref a36, .ref a37, .ref a38, .ref a39, .ref a40, .ref a41]), (a42, ob 6 [.ref a27, .ref a43, .ref a44, .ref a1, .ref a45, .int (-1)]), (a44, aJ G 5 (fun _ => 0)), (a43, aJ G 8 (fun _ => 0)), (a45, ob 0 [.int (-1), .int 0, .int 0, .int 0, .int 0, .int 0, .int 0, .ref a46, .ref a47, .ref a48]), (a47, aI G 8 (fun _ => 0)), (a48, ob 1 [.ref a49, .ref a50, .int 0, .int 0]), (a27, ob 7 [.ref a51, .ref a52, .ref a53, .ref a54, .ref a55, .int 0, .ref a56, .int 0, .ref a57, .ref a58, .int 0]), (a59, ob 1 [.ref a60, .ref a61, .int 0, .int 0]), (a62, ob 8 [.ref a63, .int 0]), (a64, ob 10 [.ref a65, .int 0, .int (-1), .ref a66, .ref a1, .ref a0, .ref a14, .ref a17, .ref a20, .ref a23, .int 0, .ref a26, .ref a28, .ref a42, .ref a67, .ref a45, .ref a68, .ref a69, .ref a59, .ref a62]), (a65, aI G 800 (fun _ => 0)), (a66, ob 3 [.ref a65, .int 0, .int 0, .int (-1), .ref a0, .ref a70, .int 0])]) rfl dX3_clear_29 (fun H locs hw => ?_)
    refine lv_iinc (v := nI (k + 1)) (lv' := [(1, .int (nI (k + 1))), (0, .ref a0)]) hx hb dX3_clear_30 hl (k := 0) rfl (nI_1 k) (by decide) rfl (fun ls hl => ?_)
    refine lv_goto (tgt := 17) hx hb dX3_clear_33 (by decide) ?_
    exact ih H locs ls ⟨lv_sub hl [0, 1] rfl, _, hw.sub [0, 1, 2, 3, 4, 5, 6, 7, 8, 9, 10, 11, 12, 13, 14, 15, 16, 17, 18, 19, 20, 21] rfl rfl⟩

set_option maxHeartbeats 4000000 in
set_option maxRecDepth 100000 in
theorem a_X4_readProgram_17 (l : Launch) (G : Gt) (a0 : Nat) (a1 : Nat) (a2 : Nat) (a3 : Nat) (a4 : Nat) (a5 : Nat) (a6 : Nat) (a7 : Nat) (a8 : Nat) (a9 : Nat) (a10 : Nat) (a11 : Nat) (a12 : Nat) (a13 : Nat) (a14 : Nat) (a15 : Nat) (a16 : Nat) (a17 : Nat) (a18 : Nat) (a19 : Nat) (a20 : Nat) (a21 : Nat) (a22 : Nat) (a23 : Nat) (a24 : Nat) (a25 : Nat) (a26 : Nat) (a27 : Nat) (a28 : Nat) (a29 : Nat) (a30 : Nat) (a31 : Nat) (a32 : Nat) (a33 : Nat) (a34 : Nat) (a35 : Nat) (a36 : Nat) (a37 : Nat) (a38 : Nat) (a39 : Nat) (a40 : Nat) (a41 : Nat) (a42 : Nat) (a43 : Nat) (a44 : Nat) (a45 : Nat) (a46 : Nat) (a47 : Nat) (a48 : Nat) (a49 : Nat) (a50 : Nat) (a51 : Nat) (a52 : Nat) (a53 : Nat) (a54 : Nat) (a55 : Nat) (a56 : Nat) (a57 : Nat) (a58 : Nat) (a59 : Nat) (a60 : Nat) (a61 : Nat) (a62 : Nat) (a63 : Nat) (a64 : Nat) (a65 : Nat) (a66 : Nat) (a67 : Nat) (a68 : Nat) (a69 : Nat) (a70 : Nat) : Mt l yX4_readProgram cX4_readProgram 3 none ({ frames := 1, cells := 0, slots := 0, locals := 21 } : Room) G [.ref a0, .ref a1] [(a2, ob 2 [.int 0, .int 0, .int 0, .ref a3, .ref a4, .ref a5, .ref a6, .ref a7, .ref a8]), (a5, aI G 72 (fl_fill (-1) 0 72)), (a1, ob 2 [.int 0, .int 0, .int 0, .ref a9, .ref a10, .ref a11, .ref a12, .ref a13, .ref a14]), (a11, aI G 72 (fl_fill (-1) 0 72)), (a15, ob 1 [.ref a16, .ref a17, .int 0, .int 0]), (a18, ob 1 [.ref a19, .ref a20, .int 0, .int 0]), (a21, ob 1 [.ref a22, .ref a23, .int 0, .int 0]), (a24, ob 1 [.ref a25, .ref a26, .int 0, .int 0]), (a27, ob 9 [.int 6, .int 3, .int 120, .ref a28, .ref a29, .ref a2, .int 0, .int 0, .int 0, .int 0, .ref a30, .ref a31, .int 0, .int 0, .ref a32, .ref a33, .ref a34, .ref a35]), (a29, ob 4 [.int 0, .int 0, .int 0, .int 0, .int 0, .int 0, .int 0, .ref a36, .ref a37, .ref a38, .ref a39, .ref a40, .ref a41, .ref a42]), (a43, ob 6 [.ref a28, .ref a44, .ref a45, .ref a2, .ref a46, .int (-1)]), (a45, aJ G 5 (fun _ => 0)), (a44, aJ G 8 (fun _ => 0)), (a46, ob 0 [.int (-1), .int 0, .int 0, .int 0, .int 0, .int 0, .int 0, .ref a47, .ref a48, .ref a49]), (a48, aI G 8 (fun _ => 0)), (a49, ob 1 [.ref a50, .ref a51, .int 0, .int 0]), (a28, ob 7 [.ref a52, .ref a53, .ref a54, .ref a55, .ref a56, .int 0, .ref a57, .int 0, .ref a58, .ref a59, .int 0]), (a60, ob 1 [.ref a61, .ref a62, .int 0, .int 0]), (a63, ob 8 [.ref a64, .int 0]), (a65, ob 10 [.ref a66, .int 0, .int (-1), .ref a0, .ref a2, .ref a1, .ref a15, .ref a18, .ref a21, .ref a24, .int 0, .ref a27, .ref a29, .ref a43, .ref a67, .ref a46, .ref a68, .ref a69, .ref a60, .ref a63]), (a66, aI G 800 (fun _ => 0)), (a0, ob 3 [.ref a66, .int 0, .int 0, .int (-1), .ref a1, .ref a70, .int 0])] (qV G (fun (w : Nat → Int32) => True) (fun w => [(a2, ob 2 [.int 0, .int 0, .int 0, .ref a3, .ref a4, .ref a5, .ref a6, .ref a7, .ref a8]), (a5, aI G 72 (fl_fill (-1) 0 72)), (a1, ob 2 [.int 0, .int 0, .int 0, .ref a9, .ref a10, .ref a11, .ref a12, .ref a13, .ref a14]), (a11, aI G 72 (w)), (a15, ob 1 [.ref a16, .ref a17, .int 0, .int 0]), (a18, ob 1 [.ref a19, .ref a20, .int 0, .int 0]), (a21, ob 1 [.ref a22, .ref a23, .int 0, .int 0]), (a24, ob 1 [.ref a25, .ref a26, .int 0, .int 0]), (a27, ob 9 [.int 6, .int 3, .int 120, .ref a28, .ref a29, .ref a2, .int 0, .int 0, .int 0, .int 0, .ref a30, .ref a31, .int 0, .int 0, .ref a32, .ref a33, .ref a34, .ref a35]), (a29, ob 4 [.int 0, .int 0, .int 0, .int 0, .int 0, .int 0, .int 0, .ref a36, .ref a37, .ref a38, .ref a39, .ref a40, .ref a41, .ref a42]), (a43, ob 6 [.ref a28, .ref a44, .ref a45, .ref a2, .ref a46, .int (-1)]), (a45, aJ G 5 (fun _ => 0)), (a44, aJ G 8 (fun _ => 0)), (a46, ob 0 [.int (-1), .int 0, .int 0, .int 0, .int 0, .int 0, .int 0, .ref a47, .ref a48, .ref a49]), (a48, aI G 8 (fun _ => 0)), (a49, ob 1 [.ref a50, .ref a51, .int 0, .int 0]), (a28, ob 7 [.ref a52, .ref a53, .ref a54, .ref a55, .ref a56, .int 0, .ref a57, .int 0, .ref a58, .ref a59, .int 0]), (a60, ob 1 [.ref a61, .ref a62, .int 0, .int 0]), (a63, ob 8 [.ref a64, .int 0]), (a65, ob 10 [.ref a66, .int 0, .int (-1), .ref a0, .ref a2, .ref a1, .ref a15, .ref a18, .ref a21, .ref a24, .int 0, .ref a27, .ref a29, .ref a43, .ref a67, .ref a46, .ref a68, .ref a69, .ref a60, .ref a63]), (a66, aI G 800 (fun _ => 0)), (a0, ob 3 [.ref a66, .int 0, .int 0, .int (-1), .ref a1, .ref a70, .int 0])])) := by
  refine Mt.of (own := RX4) (cc := cX4_readProgram) (by decide) rfl (Nat.le_of_ble_eq_true rfl) ?_
  intro p e s m below meth c A ls cx hr hlk hmn hA hl hw
  have hx := cx.1
  have hb := cx.2.1
  have hl : lv_has ls 3 [(0, .ref a0), (1, .ref a1)] := hl
  refine lv_aload_n hx hb dX4_readProgram_0 rfl (lv_at hl 0 rfl) ?_
  refine lv_aload_n hx hb dX4_readProgram_1 rfl (lv_at hl 1 rfl) ?_
  refine r_put cx hw inX4 (ci := 3) rfl tyX4_ok nmX4 21 rfl 4 (by decide) fl_X4_25 rfl rfl rfl (Nat.le_of_ble_eq_true rfl) (ws' := [(a2, ob 2 [.int 0, .int 0, .int 0, .ref a3, .ref a4, .ref a5, .ref a6, .ref a7, .ref a8]), (a5, aI G 72 (fl_fill (-1) 0 72)), (a1, ob 2 [.int 0, .int 0, .int 0, .ref a9, .ref a10, .ref a11, .ref a12, .ref a13, .ref a14]), (a11, aI G 72 (fl_fill (-1) 0 72)), (a15, ob 1 [.ref a16, .ref a17, .int 0, .int 0]), (a18, ob 1 [.ref a19, .ref a20, .int 0, .int 0]), (a21, ob 1 [.ref a22, .ref a23, .int 0, .int 0]), (a24, ob 1 [.ref a25, .ref a26, .int 0, .int 0]), (a27, ob 9 [.int 6, .int 3, .int 120, .ref a28, .ref a29, .ref a2, .int 0, .int 0, .int 0, .int 0, .ref a30, .ref a31, .int 0, .int 0, .ref a32, .ref a33, .ref a34, .ref a35]), (a29, ob 4 [.int 0, .int 0, .int 0, .int 0, .int 0, .int 0, .int 0, .ref a36, .ref a37, .ref a38, .ref a39, .ref a40, .ref a41, .ref a42]), (a43, ob 6 [.ref a28, .ref a44, .ref a45, .ref a2, .ref a46, .int (-1)]), (a45, aJ G 5 (fun _ => 0)), (a44, aJ G 8 (fun _ => 0)), (a46, ob 0 [.int (-1), .int 0, .int 0, .int 0, .int 0, .int 0, .int 0, .ref a47, .ref a48, .ref a49]), (a48, aI G 8 (fun _ => 0)), (a49, ob 1 [.ref a50, .ref a51, .int 0, .int 0]), (a28, ob 7 [.ref a52, .ref a53, .ref a54, .ref a55, .ref a56, .int 0, .ref a57, .int 0, .ref a58, .ref a59, .int 0]), (a60, ob 1 [.ref a61, .ref a62, .int 0, .int 0]), (a63, ob 8 [.ref a64, .int 0]), (a65, ob 10 [.ref a66, .int 0, .int (-1), .ref a0, .ref a2, .ref a1, .ref a15, .ref a18, .ref a21, .ref a24, .int 0, .ref a27, .ref a29, .ref a43, .ref a67, .ref a46, .ref a68, .ref a69, .ref a60, .ref a63]), (a66, aI G 800 (fun _ => 0)), (a0, ob 3 [.ref a66, .int 0, .int 0, .int (-1), .ref a1, .ref a70, .int 0])]) rfl dX4_readProgram_2 (fun H locs hw => ?_)
  refine lv_aload_n hx hb dX4_readProgram_5 rfl (lv_at hl 0 rfl) ?_
  refine r_get cx hw inX4 (ci := 3) rfl 21 rfl 4 (by decide) fl_X4_25 rfl dX4_readProgram_6 ?_
  refine r_callVV (As := []) (rest := []) (wr := []) cx hw hA (a_X3_clear_19 l G a1 a2 a3 a4 a5 a6 a7 a8 a9 a10 a11 a12 a13 a14 a15 a16 a17 a18 a19 a20 a21 a22 a23 a24 a25 a26 a27 a28 a29 a30 a31 a32 a33 a34 a35 a36 a37 a38 a39 a40 a41 a42 a43 a44 a45 a46 a47 a48 a49 a50 a51 a52 a53 a54 a55 a56 a57 a58 a59 a60 a61 a62 a63 a64 a65 a66 a0 a67 a68 a69 a70) [0, 1, 2, 3, 4, 5, 6, 7, 8, 9, 10, 11, 12, 13, 14, 15, 16, 17, 18, 19, 20, 21] [] rfl rfl rfl rfl rfl 2 rfl (ci := 2) rfl ml_X4_59 im_X3_clear se_X3_clear in_X3 co_X3_clear rfl hd_X3_clear rfl ⟨Nat.le_of_ble_eq_true rfl, Nat.le_of_ble_eq_true rfl⟩ hl.1 rfl (Nat.le_of_ble_eq_true rfl) dX4_readProgram_9 ⟨Nat.le_of_ble_eq_true rfl, Nat.le_of_ble_eq_true rfl⟩ (fun u1 H locs hr2 hw => ?_)
  have hw : Wd G A [(a2, ob 2 [.int 0, .int 0, .int 0, .ref a3, .ref a4, .ref a5, .ref a6, .ref a7, .ref a8]), (a5, aI G 72 (fl_fill (-1) 0 72)), (a1, ob 2 [.int 0, .int 0, .int 0, .ref a9, .ref a10, .ref a11, .ref a12, .ref a13, .ref a14]), (a11, aI G 72 (u1)), (a15, ob 1 [.ref a16, .ref a17, .int 0, .int 0]), (a18, ob 1 [.ref a19, .ref a20, .int 0, .int 0]), (a21, ob 1 [.ref a22, .ref a23, .int 0, .int 0]), (a24, ob 1 [.ref a25, .ref a26, .int 0, .int 0]), (a27, ob 9 [.int 6, .int 3, .int 120, .ref a28, .ref a29, .ref a2, .int 0, .int 0, .int 0, .int 0, .ref a30, .ref a31, .int 0, .int 0, .ref a32, .ref a33, .ref a34, .ref a35]), (a29, ob 4 [.int 0, .int 0, .int 0, .int 0, .int 0, .int 0, .int 0, .ref a36, .ref a37, .ref a38, .ref a39, .ref a40, .ref a41, .ref a42]), (a43, ob 6 [.ref a28, .ref a44, .ref a45, .ref a2, .ref a46, .int (-1)]), (a45, aJ G 5 (fun _ => 0)), (a44, aJ G 8 (fun _ => 0)), (a46, ob 0 [.int (-1), .int 0, .int 0, .int 0, .int 0, .int 0, .int 0, .ref a47, .ref a48, .ref a49]), (a48, aI G 8 (fun _ => 0)), (a49, ob 1 [.ref a50, .ref a51, .int 0, .int 0]), (a28, ob 7 [.ref a52, .ref a53, .ref a54, .ref a55, .ref a56, .int 0, .ref a57, .int 0, .ref a58, .ref a59, .int 0]), (a60, ob 1 [.ref a61, .ref a62, .int 0, .int 0]), (a63, ob 8 [.ref a64, .int 0]), (a65, ob 10 [.ref a66, .int 0, .int (-1), .ref a0, .ref a2, .ref a1, .ref a15, .ref a18, .ref a21, .ref a24, .int 0, .ref a27, .ref a29, .ref a43, .ref a67, .ref a46, .ref a68, .ref a69, .ref a60, .ref a63]), (a66, aI G 800 (fun _ => 0)), (a0, ob 3 [.ref a66, .int 0, .int 0, .int (-1), .ref a1, .ref a70, .int 0])] s.heap _ _ := hw
  refine lv_iconst (v := 0) hx hb dX4_readProgram_12 (by decide) ?_
  refine lv_istore_n (lv' := [(2, .int 0), (0, .ref a0), (1, .ref a1)]) hx hb dX4_readProgram_13 rfl hl (by decide) rfl (fun ls hl => ?_)
  refine lv_iload_n hx hb dX4_readProgram_14 rfl (lv_at hl 0 rfl) ?_
  refine lv_sipush (v := 800) hx hb dX4_readProgram_15 (by decide) ?_
  refine lv_icmp_gt (tgt := 49) hx hb dX4_readProgram_18 (by decide) (fun c9 => absurd c9 (by decide)) (fun _ => ?_)
  refine lv_aload_n hx hb dX4_readProgram_21 rfl (lv_at hl 1 rfl) ?_
  refine r_callVI (As := []) (rest := []) (wr := [(a2, ob 2 [.int 0, .int 0, .int 0, .ref a3, .ref a4, .ref a5, .ref a6, .ref a7, .ref a8]), (a5, aI G 72 (fl_fill (-1) 0 72)), (a1, ob 2 [.int 0, .int 0, .int 0, .ref a9, .ref a10, .ref a11, .ref a12, .ref a13, .ref a14]), (a11, aI G 72 (u1)), (a15, ob 1 [.ref a16, .ref a17, .int 0, .int 0]), (a18, ob 1 [.ref a19, .ref a20, .int 0, .int 0]), (a21, ob 1 [.ref a22, .ref a23, .int 0, .int 0]), (a24, ob 1 [.ref a25, .ref a26, .int 0, .int 0]), (a27, ob 9 [.int 6, .int 3, .int 120, .ref a28, .ref a29, .ref a2, .int 0, .int 0, .int 0, .int 0, .ref a30, .ref a31, .int 0, .int 0, .ref a32, .ref a33, .ref a34, .ref a35]), (a29, ob 4 [.int 0, .int 0, .int 0, .int 0, .int 0, .int 0, .int 0, .ref a36, .ref a37, .ref a38, .ref a39, .ref a40, .ref a41, .ref a42]), (a43, ob 6 [.ref a28, .ref a44, .ref a45, .ref a2, .ref a46, .int (-1)]), (a45, aJ G 5 (fun _ => 0)), (a44, aJ G 8 (fun _ => 0)), (a46, ob 0 [.int (-1), .int 0, .int 0, .int 0, .int 0, .int 0, .int 0, .ref a47, .ref a48, .ref a49]), (a48, aI G 8 (fun _ => 0)), (a49, ob 1 [.ref a50, .ref a51, .int 0, .int 0]), (a28, ob 7 [.ref a52, .ref a53, .ref a54, .ref a55, .ref a56, .int 0, .ref a57, .int 0, .ref a58, .ref a59, .int 0]), (a60, ob 1 [.ref a61, .ref a62, .int 0, .int 0]), (a63, ob 8 [.ref a64, .int 0]), (a65, ob 10 [.ref a66, .int 0, .int (-1), .ref a0, .ref a2, .ref a1, .ref a15, .ref a18, .ref a21, .ref a24, .int 0, .ref a27, .ref a29, .ref a43, .ref a67, .ref a46, .ref a68, .ref a69, .ref a60, .ref a63]), (a66, aI G 800 (fun _ => 0))]) cx hw hA (a_X4_isWell_10 l G a0 a66 a1 a70) [21] [0, 1, 2, 3, 4, 5, 6, 7, 8, 9, 10, 11, 12, 13, 14, 15, 16, 17, 18, 19, 20] rfl rfl rfl rfl rfl 21 rfl (ci := 3) rfl ml_X4_43 im_X4_isWell se_X4_isWell in_X4 co_X4_isWell rfl hd_X4_isWell rfl ⟨Nat.le_of_ble_eq_true rfl, Nat.le_of_ble_eq_true rfl⟩ hl.1 rfl (Nat.le_of_ble_eq_true rfl) dX4_readProgram_22 ⟨Nat.le_of_ble_eq_true rfl, Nat.le_of_ble_eq_true rfl⟩ (fun r4 u3 H locs hr4 hw => ?_)
  have hw : Wd G A [(a2, ob 2 [.int 0, .int 0, .int 0, .ref a3, .ref a4, .ref a5, .ref a6, .ref a7, .ref a8]), (a5, aI G 72 (fl_fill (-1) 0 72)), (a1, ob 2 [.int 0, .int 0, .int 0, .ref a9, .ref a10, .ref a11, .ref a12, .ref a13, .ref a14]), (a11, aI G 72 (u1)), (a15, ob 1 [.ref a16, .ref a17, .int 0, .int 0]), (a18, ob 1 [.ref a19, .ref a20, .int 0, .int 0]), (a21, ob 1 [.ref a22, .ref a23, .int 0, .int 0]), (a24, ob 1 [.ref a25, .ref a26, .int 0, .int 0]), (a27, ob 9 [.int 6, .int 3, .int 120, .ref a28, .ref a29, .ref a2, .int 0, .int 0, .int 0, .int 0, .ref a30, .ref a31, .int 0, .int 0, .ref a32, .ref a33, .ref a34, .ref a35]), (a29, ob 4 [.int 0, .int 0, .int 0, .int 0, .int 0, .int 0, .int 0, .ref a36, .ref a37, .ref a38, .ref a39, .ref a40, .ref a41, .ref a42]), (a43, ob 6 [.ref a28, .ref a44, .ref a45, .ref a2, .ref a46, .int (-1)]), (a45, aJ G 5 (fun _ => 0)), (a44, aJ G 8 (fun _ => 0)), (a46, ob 0 [.int (-1), .int 0, .int 0, .int 0, .int 0, .int 0, .int 0, .ref a47, .ref a48, .ref a49]), (a48, aI G 8 (fun _ => 0)), (a49, ob 1 [.ref a50, .ref a51, .int 0, .int 0]), (a28, ob 7 [.ref a52, .ref a53, .ref a54, .ref a55, .ref a56, .int 0, .ref a57, .int 0, .ref a58, .ref a59, .int 0]), (a60, ob 1 [.ref a61, .ref a62, .int 0, .int 0]), (a63, ob 8 [.ref a64, .int 0]), (a65, ob 10 [.ref a66, .int 0, .int (-1), .ref a0, .ref a2, .ref a1, .ref a15, .ref a18, .ref a21, .ref a24, .int 0, .ref a27, .ref a29, .ref a43, .ref a67, .ref a46, .ref a68, .ref a69, .ref a60, .ref a63]), (a66, aI G 800 (fun _ => 0)), (a0, ob 3 [.ref a66, .int 0, .int 0, .int (-1), .ref a1, .ref a70, .int 0])] s.heap _ _ := hw
  subst hr4
  refine lv_if_eq (tgt := 49) hx hb dX4_readProgram_25 (by decide) (fun c9 => absurd c9 (by decide)) (fun _ => ?_)
  refine lv_aload_n hx hb dX4_readProgram_28 rfl (lv_at hl 1 rfl) ?_
  refine r_get cx hw inX4 (ci := 3) rfl 21 rfl 2 (by decide) fl_X4_19 rfl dX4_readProgram_29 ?_
  refine lv_aload_n hx hb dX4_readProgram_32 rfl (lv_at hl 1 rfl) ?_
  refine r_get cx hw inX4 (ci := 3) rfl 21 rfl 1 (by decide) fl_X4_15 rfl dX4_readProgram_33 ?_
  refine lv_icmp_ge (tgt := 49) hx hb dX4_readProgram_36 (by decide) (fun _ => ?_) (fun c9 => absurd (by decide) c9)
  have hw : Wd G A [(a2, ob 2 [.int 0, .int 0, .int 0, .ref a3, .ref a4, .ref a5, .ref a6, .ref a7, .ref a8]), (a5, aI G 72 (fl_fill (-1) 0 72)), (a1, ob 2 [.int 0, .int 0, .int 0, .ref a9, .ref a10, .ref a11, .ref a12, .ref a13, .ref a14]), (a11, aI G 72 (u1)), (a15, ob 1 [.ref a16, .ref a17, .int 0, .int 0]), (a18, ob 1 [.ref a19, .ref a20, .int 0, .int 0]), (a21, ob 1 [.ref a22, .ref a23, .int 0, .int 0]), (a24, ob 1 [.ref a25, .ref a26, .int 0, .int 0]), (a27, ob 9 [.int 6, .int 3, .int 120, .ref a28, .ref a29, .ref a2, .int 0, .int 0, .int 0, .int 0, .ref a30, .ref a31, .int 0, .int 0, .ref a32, .ref a33, .ref a34, .ref a35]), (a29, ob 4 [.int 0, .int 0, .int 0, .int 0, .int 0, .int 0, .int 0, .ref a36, .ref a37, .ref a38, .ref a39, .ref a40, .ref a41, .ref a42]), (a43, ob 6 [.ref a28, .ref a44, .ref a45, .ref a2, .ref a46, .int (-1)]), (a45, aJ G 5 (fun _ => 0)), (a44, aJ G 8 (fun _ => 0)), (a46, ob 0 [.int (-1), .int 0, .int 0, .int 0, .int 0, .int 0, .int 0, .ref a47, .ref a48, .ref a49]), (a48, aI G 8 (fun _ => 0)), (a49, ob 1 [.ref a50, .ref a51, .int 0, .int 0]), (a28, ob 7 [.ref a52, .ref a53, .ref a54, .ref a55, .ref a56, .int 0, .ref a57, .int 0, .ref a58, .ref a59, .int 0]), (a60, ob 1 [.ref a61, .ref a62, .int 0, .int 0]), (a63, ob 8 [.ref a64, .int 0]), (a65, ob 10 [.ref a66, .int 0, .int (-1), .ref a0, .ref a2, .ref a1, .ref a15, .ref a18, .ref a21, .ref a24, .int 0, .ref a27, .ref a29, .ref a43, .ref a67, .ref a46, .ref a68, .ref a69, .ref a60, .ref a63]), (a66, aI G 800 (fun _ => 0)), (a0, ob 3 [.ref a66, .int 0, .int 0, .int (-1), .ref a1, .ref a70, .int 0])] s.heap _ _ := hw.sub [0, 1, 2, 3, 4, 5, 6, 7, 8, 9, 10, 11, 12, 13, 14, 15, 16, 17, 18, 19, 20, 21] rfl rfl
  exact r_vret cx hr hlk (u1) trivial hw (Nat.le_of_ble_eq_true rfl) (Nat.le_of_ble_eq_true rfl) dX4_readProgram_49

set_option maxHeartbeats 4000000 in
set_option maxRecDepth 100000 in
theorem a_X3_clear_20 (l : Launch) (G : Gt) (a0 : Nat) (a1 : Nat) (a2 : Nat) (a3 : Nat) (a4 : Nat) (a5 : Nat) (a6 : Nat) (a7 : Nat) (a8 : Nat) (a9 : Nat) (a10 : Nat) (a11 : Nat) (a12 : Nat) (a13 : Nat) (a14 : Nat) (a15 : Nat) (a16 : Nat) (a17 : Nat) (a18 : Nat) (a19 : Nat) (a20 : Nat) (a21 : Nat) (a22 : Nat) (a23 : Nat) (a24 : Nat) (a25 : Nat) (a26 : Nat) (a27 : Nat) (a28 : Nat) (a29 : Nat) (a30 : Nat) (a31 : Nat) (a32 : Nat) (a33 : Nat) (a34 : Nat) (a35 : Nat) (a36 : Nat) (a37 : Nat) (a38 : Nat) (a39 : Nat) (a40 : Nat) (a41 : Nat) (a42 : Nat) (a43 : Nat) (a44 : Nat) (a45 : Nat) (a46 : Nat) (a47 : Nat) (a48 : Nat) (a49 : Nat) (a50 : Nat) (a51 : Nat) (a52 : Nat) (a53 : Nat) (a54 : Nat) (a55 : Nat) (a56 : Nat) (a57 : Nat) (a58 : Nat) (a59 : Nat) (a60 : Nat) (a61 : Nat) (a62 : Nat) (a63 : Nat) (a64 : Nat) (a65 : Nat) (a66 : Nat) (a67 : Nat) (a68 : Nat) (a69 : Nat) (a70 : Nat) : Mt l yX3_clear cX3_clear 2 none ({ frames := 0, cells := 0, slots := 0, locals := 0 } : Room) G [.ref a0] [(a1, ob 2 [.int 0, .int 0, .int 0, .ref a2, .ref a3, .ref a4, .ref a5, .ref a6, .ref a7]), (a4, aI G 72 (fl_fill (-1) 0 72)), (a0, ob 2 [.int 0, .int 0, .int 0, .ref a8, .ref a9, .ref a10, .ref a11, .ref a12, .ref a13]), (a10, aI G 72 (fl_fill (-1) 0 72)), (a14, ob 1 [.ref a15, .ref a16, .int 0, .int 0]), (a17, ob 1 [.ref a18, .ref a19, .int 0, .int 0]), (a20, ob 1 [.ref a21, .ref a22, .int 0, .int 0]), (a23, ob 1 [.ref a24, .ref a25, .int 0, .int 0]), (a26, ob 9 [.int 6, .int 3, .int 120, .ref a27, .ref a28, .ref a1, .int 0, .int 0, .int 0, .int 0, .ref a29, .ref a30, .int 0, .int 0, .ref a31, .ref a32, .ref a33, .ref a34]), (a28, ob 4 [.int 0, .int 0, .int 0, .int 0, .int 0, .int 0, .int 0, .ref a35, .ref a36, .ref a37, .ref a38, .ref a39, .ref a40, .ref a41]), (a42, ob 6 [.ref a27, .ref a43, .ref a44, .ref a1, .ref a45, .int (-1)]), (a44, aJ G 5 (fun _ => 0)), (a43, aJ G 8 (fun _ => 0)), (a45, ob 0 [.int (-1), .int 0, .int 0, .int 0, .int 0, .int 0, .int 0, .ref a46, .ref a47, .ref a48]), (a47, aI G 8 (fun _ => 0)), (a48, ob 1 [.ref a49, .ref a50, .int 0, .int 0]), (a27, ob 7 [.ref a51, .ref a52, .ref a53, .ref a54, .ref a55, .int 0, .ref a56, .int 0, .ref a57, .ref a58, .int 0]), (a59, ob 1 [.ref a60, .ref a61, .int 0, .int 0]), (a62, ob 8 [.ref a63, .int 0]), (a64, ob 10 [.ref a65, .int 0, .int (-1), .ref a66, .ref a1, .ref a0, .ref a14, .ref a17, .ref a20, .ref a23, .int 0, .ref a26, .ref a28, .ref a42, .ref a67, .ref a45, .ref a68, .ref a69, .ref a59, .ref a62]), (a65, aI G 800 (fun _ => 0)), (a66, ob 3 [.ref a65, .int 0, .int 0, .int (-1), .ref a0, .ref a70, .int 0])] (qV G (fun (w : Nat → Int32) => True) (fun w => [(a1, ob 2 [.int 0, .int 0, .int 0, .ref a2, .ref a3, .ref a4, .ref a5, .ref a6, .ref a7]), (a4, aI G 72 (fl_fill (-1) 0 72)), (a0, ob 2 [.int 0, .int 0, .int 0, .ref a8, .ref a9, .ref a10, .ref a11, .ref a12, .ref a13]), (a10, aI G 72 (w)), (a14, ob 1 [.ref a15, .ref a16, .int 0, .int 0]), (a17, ob 1 [.ref a18, .ref a19, .int 0, .int 0]), (a20, ob 1 [.ref a21, .ref a22, .int 0, .int 0]), (a23, ob 1 [.ref a24, .ref a25, .int 0, .int 0]), (a26, ob 9 [.int 6, .int 3, .int 120, .ref a27, .ref a28, .ref a1, .int 0, .int 0, .int 0, .int 0, .ref a29, .ref a30, .int 0, .int 0, .ref a31, .ref a32, .ref a33, .ref a34]), (a28, ob 4 [.int 0, .int 0, .int 0, .int 0, .int 0, .int 0, .int 0, .ref a35, .ref a36, .ref a37, .ref a38, .ref a39, .ref a40, .ref a41]), (a42, ob 6 [.ref a27, .ref a43, .ref a44, .ref a1, .ref a45, .int (-1)]), (a44, aJ G 5 (fun _ => 0)), (a43, aJ G 8 (fun _ => 0)), (a45, ob 0 [.int (-1), .int 0, .int 0, .int 0, .int 0, .int 0, .int 0, .ref a46, .ref a47, .ref a48]), (a47, aI G 8 (fun _ => 0)), (a48, ob 1 [.ref a49, .ref a50, .int 0, .int 0]), (a27, ob 7 [.ref a51, .ref a52, .ref a53, .ref a54, .ref a55, .int 0, .ref a56, .int 0, .ref a57, .ref a58, .int 0]), (a59, ob 1 [.ref a60, .ref a61, .int 0, .int 0]), (a62, ob 8 [.ref a63, .int 0]), (a64, ob 10 [.ref a65, .int 0, .int (-1), .ref a66, .ref a1, .ref a0, .ref a14, .ref a17, .ref a20, .ref a23, .int 0, .ref a26, .ref a28, .ref a42, .ref a67, .ref a45, .ref a68, .ref a69, .ref a59, .ref a62]), (a65, aI G 800 (fun _ => 0)), (a66, ob 3 [.ref a65, .int 0, .int 0, .int (-1), .ref a0, .ref a70, .int 0])])) := by
  refine Mt.of (own := RX3) (cc := cX3_clear) (by decide) rfl (Nat.le_of_ble_eq_true rfl) ?_
  intro p e s m below meth c A ls cx hr hlk hmn hA hl hw
  have hx := cx.1
  have hb := cx.2.1
  have hl : lv_has ls 2 [(0, .ref a0)] := hl
  refine lv_aload_n hx hb dX3_clear_0 rfl (lv_at hl 0 rfl) ?_
  refine lv_iconst (v := 0) hx hb dX3_clear_1 (by decide) ?_
  refine r_put cx hw inX3 (ci := 2) rfl tyX3_ok nmX3 2 rfl 0 (by decide) fl_X3_30 rfl rfl rfl (Nat.le_of_ble_eq_true rfl) (ws' := [(a1, ob 2 [.int 0, .int 0, .int 0, .ref a2, .ref a3, .ref a4, .ref a5, .ref a6, .ref a7]), (a4, aI G 72 (fl_fill (-1) 0 72)), (a0, ob 2 [.int 0, .int 0, .int 0, .ref a8, .ref a9, .ref a10, .ref a11, .ref a12, .ref a13]), (a10, aI G 72 (fl_fill (-1) 0 72)), (a14, ob 1 [.ref a15, .ref a16, .int 0, .int 0]), (a17, ob 1 [.ref a18, .ref a19, .int 0, .int 0]), (a20, ob 1 [.ref a21, .ref a22, .int 0, .int 0]), (a23, ob 1 [.ref a24, .ref a25, .int 0, .int 0]), (a26, ob 9 [.int 6, .int 3, .int 120, .ref a27, .ref a28, .ref a1, .int 0, .int 0, .int 0, .int 0, .ref a29, .ref a30, .int 0, .int 0, .ref a31, .ref a32, .ref a33, .ref a34]), (a28, ob 4 [.int 0, .int 0, .int 0, .int 0, .int 0, .int 0, .int 0, .ref a35, .ref a36, .ref a37, .ref a38, .ref a39, .ref a40, .ref a41]), (a42, ob 6 [.ref a27, .ref a43, .ref a44, .ref a1, .ref a45, .int (-1)]), (a44, aJ G 5 (fun _ => 0)), (a43, aJ G 8 (fun _ => 0)), (a45, ob 0 [.int (-1), .int 0, .int 0, .int 0, .int 0, .int 0, .int 0, .ref a46, .ref a47, .ref a48]), (a47, aI G 8 (fun _ => 0)), (a48, ob 1 [.ref a49, .ref a50, .int 0, .int 0]), (a27, ob 7 [.ref a51, .ref a52, .ref a53, .ref a54, .ref a55, .int 0, .ref a56, .int 0, .ref a57, .ref a58, .int 0]), (a59, ob 1 [.ref a60, .ref a61, .int 0, .int 0]), (a62, ob 8 [.ref a63, .int 0]), (a64, ob 10 [.ref a65, .int 0, .int (-1), .ref a66, .ref a1, .ref a0, .ref a14, .ref a17, .ref a20, .ref a23, .int 0, .ref a26, .ref a28, .ref a42, .ref a67, .ref a45, .ref a68, .ref a69, .ref a59, .ref a62]), (a65, aI G 800 (fun _ => 0)), (a66, ob 3 [.ref a65, .int 0, .int 0, .int (-1), .ref a0, .ref a70, .int 0])]) rfl dX3_clear_2 (fun H locs hw => ?_)
  refine lv_aload_n hx hb dX3_clear_5 rfl (lv_at hl 0 rfl) ?_
  refine lv_iconst (v := 0) hx hb dX3_clear_6 (by decide) ?_
  refine r_put cx hw inX3 (ci := 2) rfl tyX3_ok nmX3 2 rfl 1 (by decide) fl_X3_34 rfl rfl rfl (Nat.le_of_ble_eq_true rfl) (ws' := [(a1, ob 2 [.int 0, .int 0, .int 0, .ref a2, .ref a3, .ref a4, .ref a5, .ref a6, .ref a7]), (a4, aI G 72 (fl_fill (-1) 0 72)), (a0, ob 2 [.int 0, .int 0, .int 0, .ref a8, .ref a9, .ref a10, .ref a11, .ref a12, .ref a13]), (a10, aI G 72 (fl_fill (-1) 0 72)), (a14, ob 1 [.ref a15, .ref a16, .int 0, .int 0]), (a17, ob 1 [.ref a18, .ref a19, .int 0, .int 0]), (a20, ob 1 [.ref a21, .ref a22, .int 0, .int 0]), (a23, ob 1 [.ref a24, .ref a25, .int 0, .int 0]), (a26, ob 9 [.int 6, .int 3, .int 120, .ref a27, .ref a28, .ref a1, .int 0, .int 0, .int 0, .int 0, .ref a29, .ref a30, .int 0, .int 0, .ref a31, .ref a32, .ref a33, .ref a34]), (a28, ob 4 [.int 0, .int 0, .int 0, .int 0, .int 0, .int 0, .int 0, .ref a35, .ref a36, .ref a37, .ref a38, .ref a39, .ref a40, .ref a41]), (a42, ob 6 [.ref a27, .ref a43, .ref a44, .ref a1, .ref a45, .int (-1)]), (a44, aJ G 5 (fun _ => 0)), (a43, aJ G 8 (fun _ => 0)), (a45, ob 0 [.int (-1), .int 0, .int 0, .int 0, .int 0, .int 0, .int 0, .ref a46, .ref a47, .ref a48]), (a47, aI G 8 (fun _ => 0)), (a48, ob 1 [.ref a49, .ref a50, .int 0, .int 0]), (a27, ob 7 [.ref a51, .ref a52, .ref a53, .ref a54, .ref a55, .int 0, .ref a56, .int 0, .ref a57, .ref a58, .int 0]), (a59, ob 1 [.ref a60, .ref a61, .int 0, .int 0]), (a62, ob 8 [.ref a63, .int 0]), (a64, ob 10 [.ref a65, .int 0, .int (-1), .ref a66, .ref a1, .ref a0, .ref a14, .ref a17, .ref a20, .ref a23, .int 0, .ref a26, .ref a28, .ref a42, .ref a67, .ref a45, .ref a68, .ref a69, .ref a59, .ref a62]), (a65, aI G 800 (fun _ => 0)), (a66, ob 3 [.ref a65, .int 0, .int 0, .int (-1), .ref a0, .ref a70, .int 0])]) rfl dX3_clear_7 (fun H locs hw => ?_)
  refine lv_aload_n hx hb dX3_clear_10 rfl (lv_at hl 0 rfl) ?_
  refine lv_iconst (v := 0) hx hb dX3_clear_11 (by decide) ?_
  refine r_put cx hw inX3 (ci := 2) rfl tyX3_ok nmX3 2 rfl 2 (by decide) fl_X3_37 rfl rfl rfl (Nat.le_of_ble_eq_true rfl) (ws' := [(a1, ob 2 [.int 0, .int 0, .int 0, .ref a2, .ref a3, .ref a4, .ref a5, .ref a6, .ref a7]), (a4, aI G 72 (fl_fill (-1) 0 72)), (a0, ob 2 [.int 0, .int 0, .int 0, .ref a8, .ref a9, .ref a10, .ref a11, .ref a12, .ref a13]), (a10, aI G 72 (fl_fill (-1) 0 72)), (a14, ob 1 [.ref a15, .ref a16, .int 0, .int 0]), (a17, ob 1 [.ref a18, .ref a19, .int 0, .int 0]), (a20, ob 1 [.ref a21, .ref a22, .int 0, .int 0]), (a23, ob 1 [.ref a24, .ref a25, .int 0, .int 0]), (a26, ob 9 [.int 6, .int 3, .int 120, .ref a27, .ref a28, .ref a1, .int 0, .int 0, .int 0, .int 0, .ref a29, .ref a30, .int 0, .int 0, .ref a31, .ref a32, .ref a33, .ref a34]), (a28, ob 4 [.int 0, .int 0, .int 0, .int 0, .int 0, .int 0, .int 0, .ref a35, .ref a36, .ref a37, .ref a38, .ref a39, .ref a40, .ref a41]), (a42, ob 6 [.ref a27, .ref a43, .ref a44, .ref a1, .ref a45, .int (-1)]), (a44, aJ G 5 (fun _ => 0)), (a43, aJ G 8 (fun _ => 0)), (a45, ob 0 [.int (-1), .int 0, .int 0, .int 0, .int 0, .int 0, .int 0, .ref a46, .ref a47, .ref a48]), (a47, aI G 8 (fun _ => 0)), (a48, ob 1 [.ref a49, .ref a50, .int 0, .int 0]), (a27, ob 7 [.ref a51, .ref a52, .ref a53, .ref a54, .ref a55, .int 0, .ref a56, .int 0, .ref a57, .ref a58, .int 0]), (a59, ob 1 [.ref a60, .ref a61, .int 0, .int 0]), (a62, ob 8 [.ref a63, .int 0]), (a64, ob 10 [.ref a65, .int 0, .int (-1), .ref a66, .ref a1, .ref a0, .ref a14, .ref a17, .ref a20, .ref a23, .int 0, .ref a26, .ref a28, .ref a42, .ref a67, .ref a45, .ref a68, .ref a69, .ref a59, .ref a62]), (a65, aI G 800 (fun _ => 0)), (a66, ob 3 [.ref a65, .int 0, .int 0, .int (-1), .ref a0, .ref a70, .int 0])]) rfl dX3_clear_12 (fun H locs hw => ?_)
  refine lv_iconst (v := 0) hx hb dX3_clear_15 (by decide) ?_
  refine lv_istore_n (lv' := [(1, .int 0), (0, .ref a0)]) hx hb dX3_clear_16 rfl hl (by decide) rfl (fun ls hl => ?_)
  refine r_loop (N := 72) (fun k H locs ls => lv_has ls 2 [(1, .int (nI k)), (0, .ref a0)] ∧ ∃ v900 : Nat → Int32, Wd G A [(a1, ob 2 [.int 0, .int 0, .int 0, .ref a2, .ref a3, .ref a4, .ref a5, .ref a6, .ref a7]), (a4, aI G 72 (fl_fill (-1) 0 72)), (a0, ob 2 [.int 0, .int 0, .int 0, .ref a8, .ref a9, .ref a10, .ref a11, .ref a12, .ref a13]), (a10, aI G 72 (v900)), (a14, ob 1 [.ref a15, .ref a16, .int 0, .int 0]), (a17, ob 1 [.ref a18, .ref a19, .int 0, .int 0]), (a20, ob 1 [.ref a21, .ref a22, .int 0, .int 0]), (a23, ob 1 [.ref a24, .ref a25, .int 0, .int 0]), (a26, ob 9 [.int 6, .int 3, .int 120, .ref a27, .ref a28, .ref a1, .int 0, .int 0, .int 0, .int 0, .ref a29, .ref a30, .int 0, .int 0, .ref a31, .ref a32, .ref a33, .ref a34]), (a28, ob 4 [.int 0, .int 0, .int 0, .int 0, .int 0, .int 0, .int 0, .ref a35, .ref a36, .ref a37, .ref a38, .ref a39, .ref a40, .ref a41]), (a42, ob 6 [.ref a27, .ref a43, .ref a44, .ref a1, .ref a45, .int (-1)]), (a44, aJ G 5 (fun _ => 0)), (a43, aJ G 8 (fun _ => 0)), (a45, ob 0 [.int (-1), .int 0, .int 0, .int 0, .int 0, .int 0, .int 0, .ref a46, .ref a47, .ref a48]), (a47, aI G 8 (fun _ => 0)), (a48, ob 1 [.ref a49, .ref a50, .int 0, .int 0]), (a27, ob 7 [.ref a51, .ref a52, .ref a53, .ref a54, .ref a55, .int 0, .ref a56, .int 0, .ref a57, .ref a58, .int 0]), (a59, ob 1 [.ref a60, .ref a61, .int 0, .int 0]), (a62, ob 8 [.ref a63, .int 0]), (a64, ob 10 [.ref a65, .int 0, .int (-1), .ref a66, .ref a1, .ref a0, .ref a14, .ref a17, .ref a20, .ref a23, .int 0, .ref a26, .ref a28, .ref a42, .ref a67, .ref a45, .ref a68, .ref a69, .ref a59, .ref a62]), (a65, aI G 800 (fun _ => 0)), (a66, ob 3 [.ref a65, .int 0, .int 0, .int (-1), .ref a0, .ref a70, .int 0])] s.heap H locs) ?_ ?_ 0 (Nat.zero_le _) _ _ _ ⟨lv_sub hl [0, 1] rfl, _, hw⟩
  · intro H locs ls h9
    obtain ⟨hl, v900, hw⟩ := h9
    have hl : lv_has ls 2 [(1, .int 72), (0, .ref a0)] := hl
    have hw : Wd G A [(a1, ob 2 [.int 0, .int 0, .int 0, .ref a2, .ref a3, .ref a4, .ref a5, .ref a6, .ref a7]), (a4, aI G 72 (fl_fill (-1) 0 72)), (a0, ob 2 [.int 0, .int 0, .int 0, .ref a8, .ref a9, .ref a10, .ref a11, .ref a12, .ref a13]), (a10, aI G 72 (v900)), (a14, ob 1 [.ref a15, .ref a16, .int 0, .int 0]), (a17, ob 1 [.ref a18, .ref a19, .int 0, .int 0]), (a20, ob 1 [.ref a21, .ref a22, .int 0, .int 0]), (a23, ob 1 [.ref a24, .ref a25, .int 0, .int 0]), (a26, ob 9 [.int 6, .int 3, .int 120, .ref a27, .ref a28, .ref a1, .int 0, .int 0, .int 0, .int 0, .ref a29, .ref a30, .int 0, .int 0, .ref a31, .ref a32, .ref a33, .ref a34]), (a28, ob 4 [.int 0, .int 0, .int 0, .int 0, .int 0, .int 0, .int 0, .ref a35, .ref a36, .ref a37, .ref a38, .ref a39, .ref a40, .ref a41]), (a42, ob 6 [.ref a27, .ref a43, .ref a44, .ref a1, .ref a45, .int (-1)]), (a44, aJ G 5 (fun _ => 0)), (a43, aJ G 8 (fun _ => 0)), (a45, ob 0 [.int (-1), .int 0, .int 0, .int 0, .int 0, .int 0, .int 0, .ref a46, .ref a47, .ref a48]), (a47, aI G 8 (fun _ => 0)), (a48, ob 1 [.ref a49, .ref a50, .int 0, .int 0]), (a27, ob 7 [.ref a51, .ref a52, .ref a53, .ref a54, .ref a55, .int 0, .ref a56, .int 0, .ref a57, .ref a58, .int 0]), (a59, ob 1 [.ref a60, .ref a61, .int 0, .int 0]), (a62, ob 8 [.ref a63, .int 0]), (a64, ob 10 [.ref a65, .int 0, .int (-1), .ref a66, .ref a1, .ref a0, .ref a14, .ref a17, .ref a20, .ref a23, .int 0, .ref a26, .ref a28, .ref a42, .ref a67, .ref a45, .ref a68, .ref a69, .ref a59, .ref a62]), (a65, aI G 800 (fun _ => 0)), (a66, ob 3 [.ref a65, .int 0, .int 0, .int (-1), .ref a0, .ref a70, .int 0])] s.heap _ _ := hw
    refine lv_iload_n hx hb dX3_clear_17 rfl (lv_at hl 0 rfl) ?_
    refine lv_bipush (v := 72) hx hb dX3_clear_18 (by decide) ?_
    refine lv_icmp_ge (tgt := 36) hx hb dX3_clear_20 (by decide) (fun _ => ?_) (fun c9 => absurd (by decide) c9)
    have hw : Wd G A [(a1, ob 2 [.int 0, .int 0, .int 0, .ref a2, .ref a3, .ref a4, .ref a5, .ref a6, .ref a7]), (a4, aI G 72 (fl_fill (-1) 0 72)), (a0, ob 2 [.int 0, .int 0, .int 0, .ref a8, .ref a9, .ref a10, .ref a11, .ref a12, .ref a13]), (a10, aI G 72 (v900)), (a14, ob 1 [.ref a15, .ref a16, .int 0, .int 0]), (a17, ob 1 [.ref a18, .ref a19, .int 0, .int 0]), (a20, ob 1 [.ref a21, .ref a22, .int 0, .int 0]), (a23, ob 1 [.ref a24, .ref a25, .int 0, .int 0]), (a26, ob 9 [.int 6, .int 3, .int 120, .ref a27, .ref a28, .ref a1, .int 0, .int 0, .int 0, .int 0, .ref a29, .ref a30, .int 0, .int 0, .ref a31, .ref a32, .ref a33, .ref a34]), (a28, ob 4 [.int 0, .int 0, .int 0, .int 0, .int 0, .int 0, .int 0, .ref a35, .ref a36, .ref a37, .ref a38, .ref a39, .ref a40, .ref a41]), (a42, ob 6 [.ref a27, .ref a43, .ref a44, .ref a1, .ref a45, .int (-1)]), (a44, aJ G 5 (fun _ => 0)), (a43, aJ G 8 (fun _ => 0)), (a45, ob 0 [.int (-1), .int 0, .int 0, .int 0, .int 0, .int 0, .int 0, .ref a46, .ref a47, .ref a48]), (a47, aI G 8 (fun _ => 0)), (a48, ob 1 [.ref a49, .ref a50, .int 0, .int 0]), (a27, ob 7 [.ref a51, .ref a52, .ref a53, .ref a54, .ref a55, .int 0, .ref a56, .int 0, .ref a57, .ref a58, .int 0]), (a59, ob 1 [.ref a60, .ref a61, .int 0, .int 0]), (a62, ob 8 [.ref a63, .int 0]), (a64, ob 10 [.ref a65, .int 0, .int (-1), .ref a66, .ref a1, .ref a0, .ref a14, .ref a17, .ref a20, .ref a23, .int 0, .ref a26, .ref a28, .ref a42, .ref a67, .ref a45, .ref a68, .ref a69, .ref a59, .ref a62]), (a65, aI G 800 (fun _ => 0)), (a66, ob 3 [.ref a65, .int 0, .int 0, .int (-1), .ref a0, .ref a70, .int 0])] s.heap _ _ := hw.sub [0, 1, 2, 3, 4, 5, 6, 7, 8, 9, 10, 11, 12, 13, 14, 15, 16, 17, 18, 19, 20, 21] rfl rfl
    exact r_vret cx hr hlk (v900) trivial hw (Nat.le_of_ble_eq_true rfl) (Nat.le_of_ble_eq_true rfl) dX3_clear_36
  · intro k H locs ls hk h9 ih
    obtain ⟨hl, v900, hw⟩ := h9
    refine lv_iload_n hx hb dX3_clear_17 rfl (lv_at hl 0 rfl) ?_
    refine lv_bipush (v := 72) hx hb dX3_clear_18 (by decide) ?_
    refine lv_icmp_ge (tgt := 36) hx hb dX3_clear_20 (by decide) (fun c9 => absurd c9 (nI_ge hk (by decide))) (fun _ => ?_)
    refine lv_aload_n hx hb dX3_clear_23 rfl (lv_at hl 1 rfl) ?_
    refine r_get cx hw inX3 (ci := 2) rfl 2 rfl 5 (by decide) fl_X3_18 rfl dX3_clear_24 ?_
    refine lv_iload_n hx hb dX3_clear_27 rfl (lv_at hl 0 rfl) ?_
    refine lv_iconst (v := (-1)) hx hb dX3_clear_28 (by decide) ?_
    refine r_iast cx hw 3 rfl (vp_in_nI hk (by decide)) (ws' := [(a1, ob 2 [.int 0, .int 0, .int 0, .ref a2, .ref a3, .ref a4, .ref a5, .ref a6, .ref a7]), (a4, aI G 72 (fl_fill (-1) 0 72)), (a0, ob 2 [.int 0, .int 0, .int 0, .ref a8, .ref a9, .ref a10, .ref a11, .ref a12, .ref a13]), (a10, aI G 72 (upd (v900) ((nI k)).toNatClampNeg (-1))), (a14, ob 1 [.ref a15, .ref a16, .int 0, .int 0]), (a17, ob 1 [.ref a18, .ref a19, .int 0, .int 0]), (a20, ob 1 [.ref a21, .ref a22, .int 0, .int 0]), (a23, ob 1 [.ref a24, .ref a25, .int 0, .int 0]), (a26, ob 9 [.int 6, .int 3, .int 120, .ref a27, .ref a28, .ref a1, .int 0, .int 0, .int 0, .int 0, .ref a29, .ref a30, .int 0, .int 0, .ref a31, .ref a32, .ref a33, .ref a34]), (a28, ob 4 [.int 0, .int 0, .int 0, .int 0, .int 0, .int 0, .int 0, .ref a35, .ref a36, .ref a37, .ref a38, .ref a39, .ref a40, .ref a41]), (a42, ob 6 [.ref a27, .ref a43, .ref a44, .ref a1, .ref a45, .int (-1)]), (a44, aJ G 5 (fun _ => 0)), (a43, aJ G 8 (fun _ => 0)), (a45, ob 0 [.int (-1), .int 0, .int 0, .int 0, .int 0, .int 0, .int 0, .ref a46, .ref a47, .ref a48]), (a47, aI G 8 (fun _ => 0)), (a48, ob 1 [.ref a49, .ref a50, .int 0, .int 0]), (a27, ob 7 [.ref a51, .ref a52, .ref a53, .ref a54, .ref a55, .int 0, .ref a56, .int 0, .ref a57, .ref a58, .int 0]), (a59, ob 1 [.ref a60, .ref a61, .int 0, .int 0]), (a62, ob 8 [.ref a63, .int 0]), (a64, ob 10 [.ref a65, .int 0, .int (-1), .ref a66, .ref a1, .ref a0, .ref a14, .ref a17, .ref a20, .ref a23, .int 0, .ref a26, .ref a28, .ref a42, .ref a67, .ref a45, .ref a68, .ref a69, .ref a59, .ref a62]), (a65, aI G 800 (fun _ => 0)), (a66, ob 3 [.ref a65, .int 0, .int 0, .int (-1), .ref a0, .ref a70, .int 0])]) rfl dX3_clear_29 (fun H locs hw => ?_)
    refine lv_iinc (v := nI (k + 1)) (lv' := [(1, .int (nI (k + 1))), (0, .ref a0)]) hx hb dX3_clear_30 hl (k := 0) rfl (nI_1 k) (by decide) rfl (fun ls hl => ?_)
    refine lv_goto (tgt := 17) hx hb dX3_clear_33 (by decide) ?_
    exact ih H locs ls ⟨lv_sub hl [0, 1] rfl, _, hw.sub [0, 1, 2, 3, 4, 5, 6, 7, 8, 9, 10, 11, 12, 13, 14, 15, 16, 17, 18, 19, 20, 21] rfl rfl⟩

set_option maxHeartbeats 4000000 in
set_option maxRecDepth 100000 in
theorem a_X3_clear_22 (l : Launch) (G : Gt) (a0 : Nat) (a1 : Nat) (a2 : Nat) (a3 : Nat) (a4 : Nat) (a5 : Nat) (a6 : Nat) (a7 : Nat) (a8 : Nat) (a9 : Nat) (a10 : Nat) (a11 : Nat) (a12 : Nat) (a13 : Nat) (a14 : Nat) (a15 : Nat) (a16 : Nat) (a17 : Nat) (a18 : Nat) (a19 : Nat) (a20 : Nat) (a21 : Nat) (a22 : Nat) (a23 : Nat) (a24 : Nat) (a25 : Nat) (a26 : Nat) (a27 : Nat) (a28 : Nat) (a29 : Nat) (a30 : Nat) (a31 : Nat) (a32 : Nat) (a33 : Nat) (a34 : Nat) (a35 : Nat) (a36 : Nat) (a37 : Nat) (a38 : Nat) (a39 : Nat) (a40 : Nat) (a41 : Nat) (a42 : Nat) (a43 : Nat) (a44 : Nat) (a45 : Nat) (a46 : Nat) (a47 : Nat) (a48 : Nat) (a49 : Nat) (a50 : Nat) (a51 : Nat) (a52 : Nat) (a53 : Nat) (a54 : Nat) (a55 : Nat) (a56 : Nat) (a57 : Nat) (a58 : Nat) (a59 : Nat) (a60 : Nat) (a61 : Nat) (a62 : Nat) (a63 : Nat) (a64 : Nat) (a65 : Nat) (a66 : Nat) (a67 : Nat) (a68 : Nat) (a69 : Nat) (a70 : Nat) : Mt l yX3_clear cX3_clear 2 none ({ frames := 0, cells := 0, slots := 0, locals := 0 } : Room) G [.ref a0] [(a1, ob 2 [.int 0, .int 0, .int 0, .ref a2, .ref a3, .ref a4, .ref a5, .ref a6, .ref a7]), (a4, aI G 72 (fl_fill (-1) 0 72)), (a0, ob 2 [.int 0, .int 0, .int 0, .ref a8, .ref a9, .ref a10, .ref a11, .ref a12, .ref a13]), (a10, aI G 72 (fl_fill (-1) 0 72)), (a14, ob 1 [.ref a15, .ref a16, .int 0, .int 0]), (a17, ob 1 [.ref a18, .ref a19, .int 0, .int 0]), (a20, ob 1 [.ref a21, .ref a22, .int 0, .int 0]), (a23, ob 1 [.ref a24, .ref a25, .int 0, .int 0]), (a26, ob 9 [.int 6, .int 3, .int 120, .ref a27, .ref a28, .ref a1, .int 0, .int 0, .int 0, .int 0, .ref a29, .ref a30, .int 0, .int 0, .ref a31, .ref a32, .ref a33, .ref a34]), (a28, ob 4 [.int 0, .int 0, .int 0, .int 0, .int 0, .int 0, .int 0, .ref a35, .ref a36, .ref a37, .ref a38, .ref a39, .ref a40, .ref a41]), (a42, ob 6 [.ref a27, .ref a43, .ref a44, .ref a1, .ref a45, .int (-1)]), (a44, aJ G 5 (fun _ => 0)), (a43, aJ G 8 (fun _ => 0)), (a45, ob 0 [.int (-1), .int 0, .int 0, .int 0, .int 0, .int 0, .int 0, .ref a46, .ref a47, .ref a48]), (a47, aI G 8 (fun _ => 0)), (a48, ob 1 [.ref a49, .ref a50, .int 0, .int 0]), (a27, ob 7 [.ref a51, .ref a52, .ref a53, .ref a54, .ref a55, .int 0, .ref a56, .int 0, .ref a57, .ref a58, .int 0]), (a59, ob 1 [.ref a60, .ref a61, .int 0, .int 0]), (a62, ob 8 [.ref a63, .int 0]), (a64, ob 10 [.ref a65, .int 0, .int (-1), .ref a66, .ref a1, .ref a0, .ref a14, .ref a17, .ref a20, .ref a23, .int 0, .ref a26, .ref a28, .ref a42, .ref a67, .ref a45, .ref a68, .ref a69, .ref a59, .ref a62]), (a65, aI G 800 (fun _ => 0)), (a66, ob 3 [.ref a65, .int 0, .int 0, .int (-1), .ref a0, .ref a70, .int 0])] (qV G (fun (w : Nat → Int32) => True) (fun w => [(a1, ob 2 [.int 0, .int 0, .int 0, .ref a2, .ref a3, .ref a4, .ref a5, .ref a6, .ref a7]), (a4, aI G 72 (fl_fill (-1) 0 72)), (a0, ob 2 [.int 0, .int 0, .int 0, .ref a8, .ref a9, .ref a10, .ref a11, .ref a12, .ref a13]), (a10, aI G 72 (w)), (a14, ob 1 [.ref a15, .ref a16, .int 0, .int 0]), (a17, ob 1 [.ref a18, .ref a19, .int 0, .int 0]), (a20, ob 1 [.ref a21, .ref a22, .int 0, .int 0]), (a23, ob 1 [.ref a24, .ref a25, .int 0, .int 0]), (a26, ob 9 [.int 6, .int 3, .int 120, .ref a27, .ref a28, .ref a1, .int 0, .int 0, .int 0, .int 0, .ref a29, .ref a30, .int 0, .int 0, .ref a31, .ref a32, .ref a33, .ref a34]), (a28, ob 4 [.int 0, .int 0, .int 0, .int 0, .int 0, .int 0, .int 0, .ref a35, .ref a36, .ref a37, .ref a38, .ref a39, .ref a40, .ref a41]), (a42, ob 6 [.ref a27, .ref a43, .ref a44, .ref a1, .ref a45, .int (-1)]), (a44, aJ G 5 (fun _ => 0)), (a43, aJ G 8 (fun _ => 0)), (a45, ob 0 [.int (-1), .int 0, .int 0, .int 0, .int 0, .int 0, .int 0, .ref a46, .ref a47, .ref a48]), (a47, aI G 8 (fun _ => 0)), (a48, ob 1 [.ref a49, .ref a50, .int 0, .int 0]), (a27, ob 7 [.ref a51, .ref a52, .ref a53, .ref a54, .ref a55, .int 0, .ref a56, .int 0, .ref a57, .ref a58, .int 0]), (a59, ob 1 [.ref a60, .ref a61, .int 0, .int 0]), (a62, ob 8 [.ref a63, .int 0]), (a64, ob 10 [.ref a65, .int 0, .int (-1), .ref a66, .ref a1, .ref a0, .ref a14, .ref a17, .ref a20, .ref a23, .int 0, .ref a26, .ref a28, .ref a42, .ref a67, .ref a45, .ref a68, .ref a69, .ref a59, .ref a62]), (a65, aI G 800 (fun _ => 0)), (a66, ob 3 [.ref a65, .int 0, .int 0, .int (-1), .ref a0, .ref a70, .int 0])])) := by
  refine Mt.of (own := RX3) (cc := cX3_clear) (by decide) rfl (Nat.le_of_ble_eq_true rfl) ?_
  intro p e s m below meth c A ls cx hr hlk hmn hA hl hw
  have hx := cx.1
  have hb := cx.2.1
  have hl : lv_has ls 2 [(0, .ref a0)] := hl
  refine lv_aload_n hx hb dX3_clear_0 rfl (lv_at hl 0 rfl) ?_
  refine lv_iconst (v := 0) hx hb dX3_clear_1 (by decide) ?_
  refine r_put cx hw inX3 (ci := 2) rfl tyX3_ok nmX3 2 rfl 0 (by decide) fl_X3_30 rfl rfl rfl (Nat.le_of_ble_eq_true rfl) (ws' := [(a1, ob 2 [.int 0, .int 0, .int 0, .ref a2, .ref a3, .ref a4, .ref a5, .ref a6, .ref a7]), (a4, aI G 72 (fl_fill (-1) 0 72)), (a0, ob 2 [.int 0, .int 0, .int 0, .ref a8, .ref a9, .ref a10, .ref a11, .ref a12, .ref a13]), (a10, aI G 72 (fl_fill (-1) 0 72)), (a14, ob 1 [.ref a15, .ref a16, .int 0, .int 0]), (a17, ob 1 [.ref a18, .ref a19, .int 0, .int 0]), (a20, ob 1 [.ref a21, .ref a22, .int 0, .int 0]), (a23, ob 1 [.ref a24, .ref a25, .int 0, .int 0]), (a26, ob 9 [.int 6, .int 3, .int 120, .ref a27, .ref a28, .ref a1, .int 0, .int 0, .int 0, .int 0, .ref a29, .ref a30, .int 0, .int 0, .ref a31, .ref a32, .ref a33, .ref a34]), (a28, ob 4 [.int 0, .int 0, .int 0, .int 0, .int 0, .int 0, .int 0, .ref a35, .ref a36, .ref a37, .ref a38, .ref a39, .ref a40, .ref a41]), (a42, ob 6 [.ref a27, .ref a43, .ref a44, .ref a1, .ref a45, .int (-1)]), (a44, aJ G 5 (fun _ => 0)), (a43, aJ G 8 (fun _ => 0)), (a45, ob 0 [.int (-1), .int 0, .int 0, .int 0, .int 0, .int 0, .int 0, .ref a46, .ref a47, .ref a48]), (a47, aI G 8 (fun _ => 0)), (a48, ob 1 [.ref a49, .ref a50, .int 0, .int 0]), (a27, ob 7 [.ref a51, .ref a52, .ref a53, .ref a54, .ref a55, .int 0, .ref a56, .int 0, .ref a57, .ref a58, .int 0]), (a59, ob 1 [.ref a60, .ref a61, .int 0, .int 0]), (a62, ob 8 [.ref a63, .int 0]), (a64, ob 10 [.ref a65, .int 0, .int (-1), .ref a66, .ref a1, .ref a0, .ref a14, .ref a17, .ref a20, .ref a23, .int 0, .ref a26, .ref a28, .ref a42, .ref a67, .ref a45, .ref a68, .ref a69, .ref a59, .ref a62]), (a65, aI G 800 (fun _ => 0)), (a66, ob 3 [.ref a65, .int 0, .int 0, .int (-1), .ref a0, .ref a70, .int 0])]) rfl dX3_clear_2 (fun H locs hw => ?_)
  refine lv_aload_n hx hb dX3_clear_5 rfl (lv_at hl 0 rfl) ?_
  refine lv_iconst (v := 0) hx hb dX3_clear_6 (by decide) ?_
  refine r_put cx hw inX3 (ci := 2) rfl tyX3_ok nmX3 2 rfl 1 (by decide) fl_X3_34 rfl rfl rfl (Nat.le_of_ble_eq_true rfl) (ws' := [(a1, ob 2 [.int 0, .int 0, .int 0, .ref a2, .ref a3, .ref a4, .ref a5, .ref a6, .ref a7]), (a4, aI G 72 (fl_fill (-1) 0 72)), (a0, ob 2 [.int 0, .int 0, .int 0, .ref a8, .ref a9, .ref a10, .ref a11, .ref a12, .ref a13]), (a10, aI G 72 (fl_fill (-1) 0 72)), (a14, ob 1 [.ref a15, .ref a16, .int 0, .int 0]), (a17, ob 1 [.ref a18, .ref a19, .int 0, .int 0]), (a20, ob 1 [.ref a21, .ref a22, .int 0, .int 0]), (a23, ob 1 [.ref a24, .ref a25, .int 0, .int 0]), (a26, ob 9 [.int 6, .int 3, .int 120, .ref a27, .ref a28, .ref a1, .int 0, .int 0, .int 0, .int 0, .ref a29, .ref a30, .int 0, .int 0, .ref a31, .ref a32, .ref a33, .ref a34]), (a28, ob 4 [.int 0, .int 0, .int 0, .int 0, .int 0, .int 0, .int 0, .ref a35, .ref a36, .ref a37, .ref a38, .ref a39, .ref a40, .ref a41]), (a42, ob 6 [.ref a27, .ref a43, .ref a44, .ref a1, .ref a45, .int (-1)]), (a44, aJ G 5 (fun _ => 0)), (a43, aJ G 8 (fun _ => 0)), (a45, ob 0 [.int (-1), .int 0, .int 0, .int 0, .int 0, .int 0, .int 0, .ref a46, .ref a47, .ref a48]), (a47, aI G 8 (fun _ => 0)), (a48, ob 1 [.ref a49, .ref a50, .int 0, .int 0]), (a27, ob 7 [.ref a51, .ref a52, .ref a53, .ref a54, .ref a55, .int 0, .ref a56, .int 0, .ref a57, .ref a58, .int 0]), (a59, ob 1 [.ref a60, .ref a61, .int 0, .int 0]), (a62, ob 8 [.ref a63, .int 0]), (a64, ob 10 [.ref a65, .int 0, .int (-1), .ref a66, .ref a1, .ref a0, .ref a14, .ref a17, .ref a20, .ref a23, .int 0, .ref a26, .ref a28, .ref a42, .ref a67, .ref a45, .ref a68, .ref a69, .ref a59, .ref a62]), (a65, aI G 800 (fun _ => 0)), (a66, ob 3 [.ref a65, .int 0, .int 0, .int (-1), .ref a0, .ref a70, .int 0])]) rfl dX3_clear_7 (fun H locs hw => ?_)
  refine lv_aload_n hx hb dX3_clear_10 rfl (lv_at hl 0 rfl) ?_
  refine lv_iconst (v := 0) hx hb dX3_clear_11 (by decide) ?_
  refine r_put cx hw inX3 (ci := 2) rfl tyX3_ok nmX3 2 rfl 2 (by decide) fl_X3_37 rfl rfl rfl (Nat.le_of_ble_eq_true rfl) (ws' := [(a1, ob 2 [.int 0, .int 0, .int 0, .ref a2, .ref a3, .ref a4, .ref a5, .ref a6, .ref a7]), (a4, aI G 72 (fl_fill (-1) 0 72)), (a0, ob 2 [.int 0, .int 0, .int 0, .ref a8, .ref a9, .ref a10, .ref a11, .ref a12, .ref a13]), (a10, aI G 72 (fl_fill (-1) 0 72)), (a14, ob 1 [.ref a15, .ref a16, .int 0, .int 0]), (a17, ob 1 [.ref a18, .ref a19, .int 0, .int 0]), (a20, ob 1 [.ref a21, .ref a22, .int 0, .int 0]), (a23, ob 1 [.ref a24, .ref a25, .int 0, .int 0]), (a26, ob 9 [.int 6, .int 3, .int 120, .ref a27, .ref a28, .ref a1, .int 0, .int 0, .int 0, .int 0, .ref a29, .ref a30, .int 0, .int 0, .ref a31, .ref a32, .ref a33, .ref a34]), (a28, ob 4 [.int 0, .int 0, .int 0, .int 0, .int 0, .int 0, .int 0, .ref a35, .ref a36, .ref a37, .ref a38, .ref a39, .ref a40, .ref a41]), (a42, ob 6 [.ref a27, .ref a43, .ref a44, .ref a1, .ref a45, .int (-1)]), (a44, aJ G 5 (fun _ => 0)), (a43, aJ G 8 (fun _ => 0)), (a45, ob 0 [.int (-1), .int 0, .int 0, .int 0, .int 0, .int 0, .int 0, .ref a46, .ref a47, .ref a48]), (a47, aI G 8 (fun _ => 0)), (a48, ob 1 [.ref a49, .ref a50, .int 0, .int 0]), (a27, ob 7 [.ref a51, .ref a52, .ref a53, .ref a54, .ref a55, .int 0, .ref a56, .int 0, .ref a57, .ref a58, .int 0]), (a59, ob 1 [.ref a60, .ref a61, .int 0, .int 0]), (a62, ob 8 [.ref a63, .int 0]), (a64, ob 10 [.ref a65, .int 0, .int (-1), .ref a66, .ref a1, .ref a0, .ref a14, .ref a17, .ref a20, .ref a23, .int 0, .ref a26, .ref a28, .ref a42, .ref a67, .ref a45, .ref a68, .ref a69, .ref a59, .ref a62]), (a65, aI G 800 (fun _ => 0)), (a66, ob 3 [.ref a65, .int 0, .int 0, .int (-1), .ref a0, .ref a70, .int 0])]) rfl dX3_clear_12 (fun H locs hw => ?_)
  refine lv_iconst (v := 0) hx hb dX3_clear_15 (by decide) ?_
  refine lv_istore_n (lv' := [(1, .int 0), (0, .ref a0)]) hx hb dX3_clear_16 rfl hl (by decide) rfl (fun ls hl => ?_)
  refine r_loop (N := 72) (fun k H locs ls => lv_has ls 2 [(1, .int (nI k)), (0, .ref a0)] ∧ ∃ v900 : Nat → Int32, Wd G A [(a1, ob 2 [.int 0, .int 0, .int 0, .ref a2, .ref a3, .ref a4, .ref a5, .ref a6, .ref a7]), (a4, aI G 72 (fl_fill (-1) 0 72)), (a0, ob 2 [.int 0, .int 0, .int 0, .ref a8, .ref a9, .ref a10, .ref a11, .ref a12, .ref a13]), (a10, aI G 72 (v900)), (a14, ob 1 [.ref a15, .ref a16, .int 0, .int 0]), (a17, ob 1 [.ref a18, .ref a19, .int 0, .int 0]), (a20, ob 1 [.ref a21, .ref a22, .int 0, .int 0]), (a23, ob 1 [.ref a24, .ref a25, .int 0, .int 0]), (a26, ob 9 [.int 6, .int 3, .int 120, .ref a27, .ref a28, .ref a1, .int 0, .int 0, .int 0, .int 0, .ref a29, .ref a30, .int 0, .int 0, .ref a31, .ref a32, .ref a33, .ref a34]), (a28, ob 4 [.int 0, .int 0, .int 0, .int 0, .int 0, .int 0, .int 0, .ref a35, .ref a36, .ref a37, .ref a38, .ref a39, .ref a40, .ref a41]), (a42, ob 6 [.ref a27, .ref a43, .ref a44, .ref a1, .ref a45, .int (-1)]), (a44, aJ G 5 (fun _ => 0)), (a43, aJ G 8 (fun _ => 0)), (a45, ob 0 [.int (-1), .int 0, .int 0, .int 0, .int 0, .int 0, .int 0, .ref a46, .ref a47, .ref a48]), (a47, aI G 8 (fun _ => 0)), (a48, ob 1 [.ref a49, .ref a50, .int 0, .int 0]), (a27, ob 7 [.ref a51, .ref a52, .ref a53, .ref a54, .ref a55, .int 0, .ref a56, .int 0, .ref a57, .ref a58, .int 0]), (a59, ob 1 [.ref a60, .ref a61, .int 0, .int 0]), (a62, ob 8 [.ref a63, .int 0]), (a64, ob 10 [.ref a65, .int 0, .int (-1), .ref a66, .ref a1, .ref a0, .ref a14, .ref a17, .ref a20, .ref a23, .int 0, .ref a26, .ref a28, .ref a42, .ref a67, .ref a45, .ref a68, .ref a69, .ref a59, .ref a62]), (a65, aI G 800 (fun _ => 0)), (a66, ob 3 [.ref a65, .int 0, .int 0, .int (-1), .ref a0, .ref a70, .int 0])] s.heap H locs) ?_ ?_ 0 (Nat.zero_le _) _ _ _ ⟨lv_sub hl [0, 1] rfl, _, hw⟩
  · intro H locs ls h9
    obtain ⟨hl, v900, hw⟩ := h9
    have hl : lv_has ls 2 [(1, .int 72), (0, .ref a0)] := hl
    have hw : Wd G A [(a1, ob 2 [.int 0, .int 0, .int 0, .ref a2, .ref a3, .ref a4, .ref a5, .ref a6, .ref a7]), (a4, aI G 72 (fl_fill (-1) 0 72)), (a0, ob 2 [.int 0, .int 0, .int 0, .ref a8, .ref a9, .ref a10, .ref a11, .ref a12, .ref a13]), (a10, aI G 72 (v900)), (a14, ob 1 [.ref a15, .ref a16, .int 0, .int 0]), (a17, ob 1 [.ref a18, .ref a19, .int 0, .int 0]), (a20, ob 1 [.ref a21, .ref a22, .int 0, .int 0]), (a23, ob 1 [.ref a24, .ref a25, .int 0, .int 0]), (a26, ob 9 [.int 6, .int 3, .int 120, .ref a27, .ref a28, .ref a1, .int 0, .int 0, .int 0, .int 0, .ref a29, .ref a30, .int 0, .int 0, .ref a31, .ref a32, .ref a33, .ref a34]), (a28, ob 4 [.int 0, .int 0, .int 0, .int 0, .int 0, .int 0, .int 0, .ref a35, .ref a36, .ref a37, .ref a38, .ref a39, .ref a40, .ref a41]), (a42, ob 6 [.ref a27, .ref a43, .ref a44, .ref a1, .ref a45, .int (-1)]), (a44, aJ G 5 (fun _ => 0)), (a43, aJ G 8 (fun _ => 0)), (a45, ob 0 [.int (-1), .int 0, .int 0, .int 0, .int 0, .int 0, .int 0, .ref a46, .ref a47, .ref a48]), (a47, aI G 8 (fun _ => 0)), (a48, ob 1 [.ref a49, .ref a50, .int 0, .int 0]), (a27, ob 7 [.ref a51, .ref a52, .ref a53, .ref a54, .ref a55, .int 0, .ref a56, .int 0, .ref a57, .ref a58, .int 0]), (a59, ob 1 [.ref a60, .ref a61, .int 0, .int 0]), (a62, ob 8 [.ref a63, .int 0]), (a64, ob 10 [.ref a65, .int 0, .int (-1), .ref a66, .ref a1, .ref a0, .ref a14, .ref a17, .ref a20, .ref a23, .int 0, .ref a26, .ref a28, .ref a42, .ref a67, .ref a45, .ref a68, .ref a69, .ref a59, .ref a62]), (a65, aI G 800 (fun _ => 0)), (a66, ob 3 [.ref a65, .int 0, .int 0, .int (-1), .ref a0, .ref a70, .int 0])] s.heap _ _ := hw
    refine lv_iload_n hx hb dX3_clear_17 rfl (lv_at hl 0 rfl) ?_
    refine lv_bipush (v := 72) hx hb dX3_clear_18 (by decide) ?_
    refine lv_icmp_ge (tgt := 36) hx hb dX3_clear_20 (by decide) (fun _ => ?_) (fun c9 => absurd (by decide) c9)
    have hw : Wd G A [(a1, ob 2 [.int 0, .int 0, .int 0, .ref a2, .ref a3, .ref a4, .ref a5, .ref a6, .ref a7]), (a4, aI G 72 (fl_fill (-1) 0 72)), (a0, ob 2 [.int 0, .int 0, .int 0, .ref a8, .ref a9, .ref a10, .ref a11, .ref a12, .ref a13]), (a10, aI G 72 (v900)), (a14, ob 1 [.ref a15, .ref a16, .int 0, .int 0]), (a17, ob 1 [.ref a18, .ref a19, .int 0, .int 0]), (a20, ob 1 [.ref a21, .ref a22, .int 0, .int 0]), (a23, ob 1 [.ref a24, .ref a25, .int 0, .int 0]), (a26, ob 9 [.int 6, .int 3, .int 120, .ref a27, .ref a28, .ref a1, .int 0, .int 0, .int 0, .int 0, .ref a29, .ref a30, .int 0, .int 0, .ref a31, .ref a32, .ref a33, .ref a34]), (a28, ob 4 [.int 0, .int 0, .int 0, .int 0, .int 0, .int 0, .int 0, .ref a35, .ref a36, .ref a37, .ref a38, .ref a39, .ref a40, .ref a41]), (a42, ob 6 [.ref a27, .ref a43, .ref a44, .ref a1, .ref a45, .int (-1)]), (a44, aJ G 5 (fun _ => 0)), (a43, aJ G 8 (fun _ => 0)), (a45, ob 0 [.int (-1), .int 0, .int 0, .int 0, .int 0, .int 0, .int 0, .ref a46, .ref a47, .ref a48]), (a47, aI G 8 (fun _ => 0)), (a48, ob 1 [.ref a49, .ref a50, .int 0, .int 0]), (a27, ob 7 [.ref a51, .ref a52, .ref a53, .ref a54, .ref a55, .int 0, .ref a56, .int 0, .ref a57, .ref a58, .int 0]), (a59, ob 1 [.ref a60, .ref a61, .int 0, .int 0]), (a62, ob 8 [.ref a63, .int 0]), (a64, ob 10 [.ref a65, .int 0, .int (-1), .ref a66, .ref a1, .ref a0, .ref a14, .ref a17, .ref a20, .ref a23, .int 0, .ref a26, .ref a28, .ref a42, .ref a67, .ref a45, .ref a68, .ref a69, .ref a59, .ref a62]), (a65, aI G 800 (fun _ => 0)), (a66, ob 3 [.ref a65, .int 0, .int 0, .int (-1), .ref a0, .ref a70, .int 0])] s.heap _ _ := hw.sub [0, 1, 2, 3, 4, 5, 6, 7, 8, 9, 10, 11, 12, 13, 14, 15, 16, 17, 18, 19, 20, 21] rfl rfl
    exact r_vret cx hr hlk (v900) trivial hw (Nat.le_of_ble_eq_true rfl) (Nat.le_of_ble_eq_true rfl) dX3_clear_36
  · intro k H locs ls hk h9 ih
    obtain ⟨hl, v900, hw⟩ := h9
    refine lv_iload_n hx hb dX3_clear_17 rfl (lv_at hl 0 rfl) ?_
    refine lv_bipush (v := 72) hx hb dX3_clear_18 (by decide) ?_
    refine lv_icmp_ge (tgt := 36) hx hb dX3_clear_20 (by decide) (fun c9 => absurd c9 (nI_ge hk (by decide))) (fun _ => ?_)
    refine lv_aload_n hx hb dX3_clear_23 rfl (lv_at hl 1 rfl) ?_
    refine r_get cx hw inX3 (ci := 2) rfl 2 rfl 5 (by decide) fl_X3_18 rfl dX3_clear_24 ?_
    refine lv_iload_n hx hb dX3_clear_27 rfl (lv_at hl 0 rfl) ?_
    refine lv_iconst (v := (-1)) hx hb dX3_clear_28 (by decide) ?_
    refine r_iast cx hw 3 rfl (vp_in_nI hk (by decide)) (ws' := [(a1, ob 2 [.int 0, .int 0, .int 0, .ref a2, .ref a3, .ref a4, .ref a5, .ref a6, .ref a7]), (a4, aI G 72 (fl_fill (-1) 0 72)), (a0, ob 2 [.int 0, .int 0, .int 0, .ref a8, .ref a9, .ref a10, .ref a11, .ref a12, .ref a13]), (a10, aI G 72 (upd (v900) ((nI k)).toNatClampNeg (-1))), (a14, ob 1 [.ref a15, .ref a16, .int 0, .int 0]), (a17, ob 1 [.ref a18, .ref a19, .int 0, .int 0]), (a20, ob 1 [.ref a21, .ref a22, .int 0, .int 0]), (a23, ob 1 [.ref a24, .ref a25, .int 0, .int 0]), (a26, ob 9 [.int 6, .int 3, .int 120, .ref a27, .ref a28, .ref a1, .int 0, .int 0, .int 0, .int 0, .ref a29, .ref a30, .int 0, .int 0, .ref a31, .ref a32, .ref a33, .ref a34]), (a28, ob 4 [.int 0, .int 0, .int 0, .int 0, .int 0, .int 0, .int 0, .ref a35, .ref a36, .ref a37, .ref a38, .ref a39, .ref a40, .ref a41]), (a42, ob 6 [.ref a27, .ref a43, .ref a44, .ref a1, .ref a45, .int (-1)]), (a44, aJ G 5 (fun _ => 0)), (a43, aJ G 8 (fun _ => 0)), (a45, ob 0 [.int (-1), .int 0, .int 0, .int 0, .int 0, .int 0, .int 0, .ref a46, .ref a47, .ref a48]), (a47, aI G 8 (fun _ => 0)), (a48, ob 1 [.ref a49, .ref a50, .int 0, .int 0]), (a27, ob 7 [.ref a51, .ref a52, .ref a53, .ref a54, .ref a55, .int 0, .ref a56, .int 0, .ref a57, .ref a58, .int 0]), (a59, ob 1 [.ref a60, .ref a61, .int 0, .int 0]), (a62, ob 8 [.ref a63, .int 0]), (a64, ob 10 [.ref a65, .int 0, .int (-1), .ref a66, .ref a1, .ref a0, .ref a14, .ref a17, .ref a20, .ref a23, .int 0, .ref a26, .ref a28, .ref a42, .ref a67, .ref a45, .ref a68, .ref a69, .ref a59, .ref a62]), (a65, aI G 800 (fun _ => 0)), (a66, ob 3 [.ref a65, .int 0, .int 0, .int (-1), .ref a0, .ref a70, .int 0])]) rfl dX3_clear_29 (fun H locs hw => ?_)
    refine lv_iinc (v := nI (k + 1)) (lv' := [(1, .int (nI (k + 1))), (0, .ref a0)]) hx hb dX3_clear_30 hl (k := 0) rfl (nI_1 k) (by decide) rfl (fun ls hl => ?_)
    refine lv_goto (tgt := 17) hx hb dX3_clear_33 (by decide) ?_
    exact ih H locs ls ⟨lv_sub hl [0, 1] rfl, _, hw.sub [0, 1, 2, 3, 4, 5, 6, 7, 8, 9, 10, 11, 12, 13, 14, 15, 16, 17, 18, 19, 20, 21] rfl rfl⟩

set_option maxHeartbeats 4000000 in
set_option maxRecDepth 100000 in
theorem a_X3_clear_23 (l : Launch) (G : Gt) (a0 : Nat) (a1 : Nat) (a2 : Nat) (a3 : Nat) (a4 : Nat) (a5 : Nat) (a6 : Nat) (a7 : Nat) (a8 : Nat) (a9 : Nat) (a10 : Nat) (a11 : Nat) (a12 : Nat) (a13 : Nat) (a14 : Nat) (a15 : Nat) (a16 : Nat) (a17 : Nat) (a18 : Nat) (a19 : Nat) (a20 : Nat) (a21 : Nat) (a22 : Nat) (a23 : Nat) (a24 : Nat) (a25 : Nat) (a26 : Nat) (a27 : Nat) (a28 : Nat) (a29 : Nat) (a30 : Nat) (a31 : Nat) (a32 : Nat) (a33 : Nat) (a34 : Nat) (a35 : Nat) (a36 : Nat) (a37 : Nat) (a38 : Nat) (a39 : Nat) (a40 : Nat) (a41 : Nat) (a42 : Nat) (a43 : Nat) (a44 : Nat) (a45 : Nat) (a46 : Nat) (a47 : Nat) (a48 : Nat) (a49 : Nat) (a50 : Nat) (a51 : Nat) (a52 : Nat) (a53 : Nat) (a54 : Nat) (a55 : Nat) (a56 : Nat) (a57 : Nat) (a58 : Nat) (a59 : Nat) (a60 : Nat) (a61 : Nat) (a62 : Nat) (a63 : Nat) (a64 : Nat) (a65 : Nat) (a66 : Nat) (a67 : Nat) (a68 : Nat) (a69 : Nat) (a70 : Nat) : Mt l yX3_clear cX3_clear 2 none ({ frames := 0, cells := 0, slots := 0, locals := 0 } : Room) G [.ref a0] [(a1, ob 2 [.int 0, .int 0, .int 0, .ref a2, .ref a3, .ref a4, .ref a5, .ref a6, .ref a7]), (a4, aI G 72 (fl_fill (-1) 0 72)), (a0, ob 2 [.int 0, .int 0, .int 0, .ref a8, .ref a9, .ref a10, .ref a11, .ref a12, .ref a13]), (a10, aI G 72 (fl_fill (-1) 0 72)), (a14, ob 1 [.ref a15, .ref a16, .int 0, .int 0]), (a17, ob 1 [.ref a18, .ref a19, .int 0, .int 0]), (a20, ob 1 [.ref a21, .ref a22, .int 0, .int 0]), (a23, ob 1 [.ref a24, .ref a25, .int 0, .int 0]), (a26, ob 9 [.int 6, .int 3, .int 120, .ref a27, .ref a28, .ref a1, .int 0, .int 0, .int 0, .int 0, .ref a29, .ref a30, .int 0, .int 0, .ref a31, .ref a32, .ref a33, .ref a34]), (a28, ob 4 [.int 0, .int 0, .int 0, .int 0, .int 0, .int 0, .int 0, .ref a35, .ref a36, .ref a37, .ref a38, .ref a39, .ref a40, .ref a41]), (a42, ob 6 [.ref a27, .ref a43, .ref a44, .ref a1, .ref a45, .int (-1)]), (a44, aJ G 5 (fun _ => 0)), (a43, aJ G 8 (fun _ => 0)), (a45, ob 0 [.int (-1), .int 0, .int 0, .int 0, .int 0, .int 0, .int 0, .ref a46, .ref a47, .ref a48]), (a47, aI G 8 (fun _ => 0)), (a48, ob 1 [.ref a49, .ref a50, .int 0, .int 0]), (a27, ob 7 [.ref a51, .ref a52, .ref a53, .ref a54, .ref a55, .int 0, .ref a56, .int 0, .ref a57, .ref a58, .int 0]), (a59, ob 1 [.ref a60, .ref a61, .int 0, .int 0]), (a62, ob 8 [.ref a63, .int 0]), (a64, ob 10 [.ref a65, .int 0, .int (-1), .ref a66, .ref a1, .ref a0, .ref a14, .ref a17, .ref a20, .ref a23, .int 0, .ref a26, .ref a28, .ref a42, .ref a67, .ref a45, .ref a68, .ref a69, .ref a59, .ref a62]), (a65, aI G 800 (fun _ => 0)), (a66, ob 3 [.ref a65, .int 0, .int 0, .int (-1), .ref a0, .ref a70, .int 0])] (qV G (fun (w : Nat → Int32) => True) (fun w => [(a1, ob 2 [.int 0, .int 0, .int 0, .ref a2, .ref a3, .ref a4, .ref a5, .ref a6, .ref a7]), (a4, aI G 72 (fl_fill (-1) 0 72)), (a0, ob 2 [.int 0, .int 0, .int 0, .ref a8, .ref a9, .ref a10, .ref a11, .ref a12, .ref a13]), (a10, aI G 72 (w)), (a14, ob 1 [.ref a15, .ref a16, .int 0, .int 0]), (a17, ob 1 [.ref a18, .ref a19, .int 0, .int 0]), (a20, ob 1 [.ref a21, .ref a22, .int 0, .int 0]), (a23, ob 1 [.ref a24, .ref a25, .int 0, .int 0]), (a26, ob 9 [.int 6, .int 3, .int 120, .ref a27, .ref a28, .ref a1, .int 0, .int 0, .int 0, .int 0, .ref a29, .ref a30, .int 0, .int 0, .ref a31, .ref a32, .ref a33, .ref a34]), (a28, ob 4 [.int 0, .int 0, .int 0, .int 0, .int 0, .int 0, .int 0, .ref a35, .ref a36, .ref a37, .ref a38, .ref a39, .ref a40, .ref a41]), (a42, ob 6 [.ref a27, .ref a43, .ref a44, .ref a1, .ref a45, .int (-1)]), (a44, aJ G 5 (fun _ => 0)), (a43, aJ G 8 (fun _ => 0)), (a45, ob 0 [.int (-1), .int 0, .int 0, .int 0, .int 0, .int 0, .int 0, .ref a46, .ref a47, .ref a48]), (a47, aI G 8 (fun _ => 0)), (a48, ob 1 [.ref a49, .ref a50, .int 0, .int 0]), (a27, ob 7 [.ref a51, .ref a52, .ref a53, .ref a54, .ref a55, .int 0, .ref a56, .int 0, .ref a57, .ref a58, .int 0]), (a59, ob 1 [.ref a60, .ref a61, .int 0, .int 0]), (a62, ob 8 [.ref a63, .int 0]), (a64, ob 10 [.ref a65, .int 0, .int (-1), .ref a66, .ref a1, .ref a0, .ref a14, .ref a17, .ref a20, .ref a23, .int 0, .ref a26, .ref a28, .ref a42, .ref a67, .ref a45, .ref a68, .ref a69, .ref a59, .ref a62]), (a65, aI G 800 (fun _ => 0)), (a66, ob 3 [.ref a65, .int 0, .int 0, .int (-1), .ref a0, .ref a70, .int 0])])) := by
  refine Mt.of (own := RX3) (cc := cX3_clear) (by decide) rfl (Nat.le_of_ble_eq_true rfl) ?_
  intro p e s m below meth c A ls cx hr hlk hmn hA hl hw
  have hx := cx.1
  have hb := cx.2.1
  have hl : lv_has ls 2 [(0, .ref a0)] := hl
  refine lv_aload_n hx hb dX3_clear_0 rfl (lv_at hl 0 rfl) ?_
  refine lv_iconst (v := 0) hx hb dX3_clear_1 (by decide) ?_
  refine r_put cx hw inX3 (ci := 2) rfl tyX3_ok nmX3 2 rfl 0 (by decide) fl_X3_30 rfl rfl rfl (Nat.le_of_ble_eq_true rfl) (ws' := [(a1, ob 2 [.int 0, .int 0, .int 0, .ref a2, .ref a3, .ref a4, .ref a5, .ref a6, .ref a7]), (a4, aI G 72 (fl_fill (-1) 0 72)), (a0, ob 2 [.int 0, .int 0, .int 0, .ref a8, .ref a9, .ref a10, .ref a11, .ref a12, .ref a13]), (a10, aI G 72 (fl_fill (-1) 0 72)), (a14, ob 1 [.ref a15, .ref a16, .int 0, .int 0]), (a17, ob 1 [.ref a18, .ref a19, .int 0, .int 0]), (a20, ob 1 [.ref a21, .ref a22, .int 0, .int 0]), (a23, ob 1 [.ref a24, .ref a25, .int 0, .int 0]), (a26, ob 9 [.int 6, .int 3, .int 120, .ref a27, .ref a28, .ref a1, .int 0, .int 0, .int 0, .int 0, .ref a29, .ref a30, .int 0, .int 0, .ref a31, .ref a32, .ref a33, .ref a34]), (a28, ob 4 [.int 0, .int 0, .int 0, .int 0, .int 0, .int 0, .int 0, .ref a35, .ref a36, .ref a37, .ref a38, .ref a39, .ref a40, .ref a41]), (a42, ob 6 [.ref a27, .ref a43, .ref a44, .ref a1, .ref a45, .int (-1)]), (a44, aJ G 5 (fun _ => 0)), (a43, aJ G 8 (fun _ => 0)), (a45, ob 0 [.int (-1), .int 0, .int 0, .int 0, .int 0, .int 0, .int 0, .ref a46, .ref a47, .ref a48]), (a47, aI G 8 (fun _ => 0)), (a48, ob 1 [.ref a49, .ref a50, .int 0, .int 0]), (a27, ob 7 [.ref a51, .ref a52, .ref a53, .ref a54, .ref a55, .int 0, .ref a56, .int 0, .ref a57, .ref a58, .int 0]), (a59, ob 1 [.ref a60, .ref a61, .int 0, .int 0]), (a62, ob 8 [.ref a63, .int 0]), (a64, ob 10 [.ref a65, .int 0, .int (-1), .ref a66, .ref a1, .ref a0, .ref a14, .ref a17, .ref a20, .ref a23, .int 0, .ref a26, .ref a28, .ref a42, .ref a67, .ref a45, .ref a68, .ref a69, .ref a59, .ref a62]), (a65, aI G 800 (fun _ => 0)), (a66, ob 3 [.ref a65, .int 0, .int 0, .int (-1), .ref a0, .ref a70, .int 0])]) rfl dX3_clear_2 (fun H locs hw => ?_)
  refine lv_aload_n hx hb dX3_clear_5 rfl (lv_at hl 0 rfl) ?_
  refine lv_iconst (v := 0) hx hb dX3_clear_6 (by decide) ?_
  refine r_put cx hw inX3 (ci := 2) rfl tyX3_ok nmX3 2 rfl 1 (by decide) fl_X3_34 rfl rfl rfl (Nat.le_of_ble_eq_true rfl) (ws' := [(a1, ob 2 [.int 0, .int 0, .int 0, .ref a2, .ref a3, .ref a4, .ref a5, .ref a6, .ref a7]), (a4, aI G 72 (fl_fill (-1) 0 72)), (a0, ob 2 [.int 0, .int 0, .int 0, .ref a8, .ref a9, .ref a10, .ref a11, .ref a12, .ref a13]), (a10, aI G 72 (fl_fill (-1) 0 72)), (a14, ob 1 [.ref a15, .ref a16, .int 0, .int 0]), (a17, ob 1 [.ref a18, .ref a19, .int 0, .int 0]), (a20, ob 1 [.ref a21, .ref a22, .int 0, .int 0]), (a23, ob 1 [.ref a24, .ref a25, .int 0, .int 0]), (a26, ob 9 [.int 6, .int 3, .int 120, .ref a27, .ref a28, .ref a1, .int 0, .int 0, .int 0, .int 0, .ref a29, .ref a30, .int 0, .int 0, .ref a31, .ref a32, .ref a33, .ref a34]), (a28, ob 4 [.int 0, .int 0, .int 0, .int 0, .int 0, .int 0, .int 0, .ref a35, .ref a36, .ref a37, .ref a38, .ref a39, .ref a40, .ref a41]), (a42, ob 6 [.ref a27, .ref a43, .ref a44, .ref a1, .ref a45, .int (-1)]), (a44, aJ G 5 (fun _ => 0)), (a43, aJ G 8 (fun _ => 0)), (a45, ob 0 [.int (-1), .int 0, .int 0, .int 0, .int 0, .int 0, .int 0, .ref a46, .ref a47, .ref a48]), (a47, aI G 8 (fun _ => 0)), (a48, ob 1 [.ref a49, .ref a50, .int 0, .int 0]), (a27, ob 7 [.ref a51, .ref a52, .ref a53, .ref a54, .ref a55, .int 0, .ref a56, .int 0, .ref a57, .ref a58, .int 0]), (a59, ob 1 [.ref a60, .ref a61, .int 0, .int 0]), (a62, ob 8 [.ref a63, .int 0]), (a64, ob 10 [.ref a65, .int 0, .int (-1), .ref a66, .ref a1, .ref a0, .ref a14, .ref a17, .ref a20, .ref a23, .int 0, .ref a26, .ref a28, .ref a42, .ref a67, .ref a45, .ref a68, .ref a69, .ref a59, .ref a62]), (a65, aI G 800 (fun _ => 0)), (a66, ob 3 [.ref a65, .int 0, .int 0, .int (-1), .ref a0, .ref a70, .int 0])]) rfl dX3_clear_7 (fun H locs hw => ?_)
  refine lv_aload_n hx hb dX3_clear_10 rfl (lv_at hl 0 rfl) ?_
  refine lv_iconst (v := 0) hx hb dX3_clear_11 (by decide) ?_
  refine r_put cx hw inX3 (ci := 2) rfl tyX3_ok nmX3 2 rfl 2 (by decide) fl_X3_37 rfl rfl rfl (Nat.le_of_ble_eq_true rfl) (ws' := [(a1, ob 2 [.int 0, .int 0, .int 0, .ref a2, .ref a3, .ref a4, .ref a5, .ref a6, .ref a7]), (a4, aI G 72 (fl_fill (-1) 0 72)), (a0, ob 2 [.int 0, .int 0, .int 0, .ref a8, .ref a9, .ref a10, .ref a11, .ref a12, .ref a13]), (a10, aI G 72 (fl_fill (-1) 0 72)), (a14, ob 1 [.ref a15, .ref a16, .int 0, .int 0]), (a17, ob 1 [.ref a18, .ref a19, .int 0, .int 0]), (a20, ob 1 [.ref a21, .ref a22, .int 0, .int 0]), (a23, ob 1 [.ref a24, .ref a25, .int 0, .int 0]), (a26, ob 9 [.int 6, .int 3, .int 120, .ref a27, .ref a28, .ref a1, .int 0, .int 0, .int 0, .int 0, .ref a29, .ref a30, .int 0, .int 0, .ref a31, .ref a32, .ref a33, .ref a34]), (a28, ob 4 [.int 0, .int 0, .int 0, .int 0, .int 0, .int 0, .int 0, .ref a35, .ref a36, .ref a37, .ref a38, .ref a39, .ref a40, .ref a41]), (a42, ob 6 [.ref a27, .ref a43, .ref a44, .ref a1, .ref a45, .int (-1)]), (a44, aJ G 5 (fun _ => 0)), (a43, aJ G 8 (fun _ => 0)), (a45, ob 0 [.int (-1), .int 0, .int 0, .int 0, .int 0, .int 0, .int 0, .ref a46, .ref a47, .ref a48]), (a47, aI G 8 (fun _ => 0)), (a48, ob 1 [.ref a49, .ref a50, .int 0, .int 0]), (a27, ob 7 [.ref a51, .ref a52, .ref a53, .ref a54, .ref a55, .int 0, .ref a56, .int 0, .ref a57, .ref a58, .int 0]), (a59, ob 1 [.ref a60, .ref a61, .int 0, .int 0]), (a62, ob 8 [.ref a63, .int 0]), (a64, ob 10 [.ref a65, .int 0, .int (-1), .ref a66, .ref a1, .ref a0, .ref a14, .ref a17, .ref a20, .ref a23, .int 0, .ref a26, .ref a28, .ref a42, .ref a67, .ref a45, .ref a68, .ref a69, .ref a59, .ref a62]), (a65, aI G 800 (fun _ => 0)), (a66, ob 3 [.ref a65, .int 0, .int 0, .int (-1), .ref a0, .ref a70, .int 0])]) rfl dX3_clear_12 (fun H locs hw => ?_)
  refine lv_iconst (v := 0) hx hb dX3_clear_15 (by decide) ?_
  refine lv_istore_n (lv' := [(1, .int 0), (0, .ref a0)]) hx hb dX3_clear_16 rfl hl (by decide) rfl (fun ls hl => ?_)
  refine r_loop (N := 72) (fun k H locs ls => lv_has ls 2 [(1, .int (nI k)), (0, .ref a0)] ∧ ∃ v900 : Nat → Int32, Wd G A [(a1, ob 2 [.int 0, .int 0, .int 0, .ref a2, .ref a3, .ref a4, .ref a5, .ref a6, .ref a7]), (a4, aI G 72 (fl_fill (-1) 0 72)), (a0, ob 2 [.int 0, .int 0, .int 0, .ref a8, .ref a9, .ref a10, .ref a11, .ref a12, .ref a13]), (a10, aI G 72 (v900)), (a14, ob 1 [.ref a15, .ref a16, .int 0, .int 0]), (a17, ob 1 [.ref a18, .ref a19, .int 0, .int 0]), (a20, ob 1 [.ref a21, .ref a22, .int 0, .int 0]), (a23, ob 1 [.ref a24, .ref a25, .int 0, .int 0]), (a26, ob 9 [.int 6, .int 3, .int 120, .ref a27, .ref a28, .ref a1, .int 0, .int 0, .int 0, .int 0, .ref a29, .ref a30, .int 0, .int 0, .ref a31, .ref a32, .ref a33, .ref a34]), (a28, ob 4 [.int 0, .int 0, .int 0, .int 0, .int 0, .int 0, .int 0, .ref a35, .ref a36, .ref a37, .ref a38, .ref a39, .ref a40, .ref a41]), (a42, ob 6 [.ref a27, .ref a43, .ref a44, .ref a1, .ref a45, .int (-1)]), (a44, aJ G 5 (fun _ => 0)), (a43, aJ G 8 (fun _ => 0)), (a45, ob 0 [.int (-1), .int 0, .int 0, .int 0, .int 0, .int 0, .int 0, .ref a46, .ref a47, .ref a48]), (a47, aI G 8 (fun _ => 0)), (a48, ob 1 [.ref a49, .ref a50, .int 0, .int 0]), (a27, ob 7 [.ref a51, .ref a52, .ref a53, .ref a54, .ref a55, .int 0, .ref a56, .int 0, .ref a57, .ref a58, .int 0]), (a59, ob 1 [.ref a60, .ref a61, .int 0, .int 0]), (a62, ob 8 [.ref a63, .int 0]), (a64, ob 10 [.ref a65, .int 0, .int (-1), .ref a66, .ref a1, .ref a0, .ref a14, .ref a17, .ref a20, .ref a23, .int 0, .ref a26, .ref a28, .ref a42, .ref a67, .ref a45, .ref a68, .ref a69, .ref a59, .ref a62]), (a65, aI G 800 (fun _ => 0)), (a66, ob 3 [.ref a65, .int 0, .int 0, .int (-1), .ref a0, .ref a70, .int 0])] s.heap H locs) ?_ ?_ 0 (Nat.zero_le _) _ _ _ ⟨lv_sub hl [0, 1] rfl, _, hw⟩
  · intro H locs ls h9
    obtain ⟨hl, v900, hw⟩ := h9
    have hl : lv_has ls 2 [(1, .int 72), (0, .ref a0)] := hl
    have hw : Wd G A [(a1, ob 2 [.int 0, .int 0, .int 0, .ref a2, .ref a3, .ref a4, .ref a5, .ref a6, .ref a7]), (a4, aI G 72 (fl_fill (-1) 0 72)), (a0, ob 2 [.int 0, .int 0, .int 0, .ref a8, .ref a9, .ref a10, .ref a11, .ref a12, .ref a13]), (a10, aI G 72 (v900)), (a14, ob 1 [.ref a15, .ref a16, .int 0, .int 0]), (a17, ob 1 [.ref a18, .ref a19, .int 0, .int 0]), (a20, ob 1 [.ref a21, .ref a22, .int 0, .int 0]), (a23, ob 1 [.ref a24, .ref a25, .int 0, .int 0]), (a26, ob 9 [.int 6, .int 3, .int 120, .ref a27, .ref a28, .ref a1, .int 0, .int 0, .int 0, .int 0, .ref a29, .ref a30, .int 0, .int 0, .ref a31, .ref a32, .ref a33, .ref a34]), (a28, ob 4 [.int 0, .int 0, .int 0, .int 0, .int 0, .int 0, .int 0, .ref a35, .ref a36, .ref a37, .ref a38, .ref a39, .ref a40, .ref a41]), (a42, ob 6 [.ref a27, .ref a43, .ref a44, .ref a1, .ref a45, .int (-1)]), (a44, aJ G 5 (fun _ => 0)), (a43, aJ G 8 (fun _ => 0)), (a45, ob 0 [.int (-1), .int 0, .int 0, .int 0, .int 0, .int 0, .int 0, .ref a46, .ref a47, .ref a48]), (a47, aI G 8 (fun _ => 0)), (a48, ob 1 [.ref a49, .ref a50, .int 0, .int 0]), (a27, ob 7 [.ref a51, .ref a52, .ref a53, .ref a54, .ref a55, .int 0, .ref a56, .int 0, .ref a57, .ref a58, .int 0]), (a59, ob 1 [.ref a60, .ref a61, .int 0, .int 0]), (a62, ob 8 [.ref a63, .int 0]), (a64, ob 10 [.ref a65, .int 0, .int (-1), .ref a66, .ref a1, .ref a0, .ref a14, .ref a17, .ref a20, .ref a23, .int 0, .ref a26, .ref a28, .ref a42, .ref a67, .ref a45, .ref a68, .ref a69, .ref a59, .ref a62]), (a65, aI G 800 (fun _ => 0)), (a66, ob 3 [.ref a65, .int 0, .int 0, .int (-1), .ref a0, .ref a70, .int 0])] s.heap _ _ := hw
    refine lv_iload_n hx hb dX3_clear_17 rfl (lv_at hl 0 rfl) ?_
    refine lv_bipush (v := 72) hx hb dX3_clear_18 (by decide) ?_
    refine lv_icmp_ge (tgt := 36) hx hb dX3_clear_20 (by decide) (fun _ => ?_) (fun c9 => absurd (by decide) c9)
    have hw : Wd G A [(a1, ob 2 [.int 0, .int 0, .int 0, .ref a2, .ref a3, .ref a4, .ref a5, .ref a6, .ref a7]), (a4, aI G 72 (fl_fill (-1) 0 72)), (a0, ob 2 [.int 0, .int 0, .int 0, .ref a8, .ref a9, .ref a10, .ref a11, .ref a12, .ref a13]), (a10, aI G 72 (v900)), (a14, ob 1 [.ref a15, .ref a16, .int 0, .int 0]), (a17, ob 1 [.ref a18, .ref a19, .int 0, .int 0]), (a20, ob 1 [.ref a21, .ref a22, .int 0, .int 0]), (a23, ob 1 [.ref a24, .ref a25, .int 0, .int 0]), (a26, ob 9 [.int 6, .int 3, .int 120, .ref a27, .ref a28, .ref a1, .int 0, .int 0, .int 0, .int 0, .ref a29, .ref a30, .int 0, .int 0, .ref a31, .ref a32, .ref a33, .ref a34]), (a28, ob 4 [.int 0, .int 0, .int 0, .int 0, .int 0, .int 0, .int 0, .ref a35, .ref a36, .ref a37, .ref a38, .ref a39, .ref a40, .ref a41]), (a42, ob 6 [.ref a27, .ref a43, .ref a44, .ref a1, .ref a45, .int (-1)]), (a44, aJ G 5 (fun _ => 0)), (a43, aJ G 8 (fun _ => 0)), (a45, ob 0 [.int (-1), .int 0, .int 0, .int 0, .int 0, .int 0, .int 0, .ref a46, .ref a47, .ref a48]), (a47, aI G 8 (fun _ => 0)), (a48, ob 1 [.ref a49, .ref a50, .int 0, .int 0]), (a27, ob 7 [.ref a51, .ref a52, .ref a53, .ref a54, .ref a55, .int 0, .ref a56, .int 0, .ref a57, .ref a58, .int 0]), (a59, ob 1 [.ref a60, .ref a61, .int 0, .int 0]), (a62, ob 8 [.ref a63, .int 0]), (a64, ob 10 [.ref a65, .int 0, .int (-1), .ref a66, .ref a1, .ref a0, .ref a14, .ref a17, .ref a20, .ref a23, .int 0, .ref a26, .ref a28, .ref a42, .ref a67, .ref a45, .ref a68, .ref a69, .ref a59, .ref a62]), (a65, aI G 800 (fun _ => 0)), (a66, ob 3 [.ref a65, .int 0, .int 0, .int (-1), .ref a0, .ref a70, .int 0])] s.heap _ _ := hw.sub [0, 1, 2, 3, 4, 5, 6, 7, 8, 9, 10, 11, 12, 13, 14, 15, 16, 17, 18, 19, 20, 21] rfl rfl
    exact r_vret cx hr hlk (v900) trivial hw (Nat.le_of_ble_eq_true rfl) (Nat.le_of_ble_eq_true rfl) dX3_clear_36
  · intro k H locs ls hk h9 ih
    obtain ⟨hl, v900, hw⟩ := h9
    refine lv_iload_n hx hb dX3_clear_17 rfl (lv_at hl 0 rfl) ?_
    refine lv_bipush (v := 72) hx hb dX3_clear_18 (by decide) ?_
    refine lv_icmp_ge (tgt := 36) hx hb dX3_clear_20 (by decide) (fun c9 => absurd c9 (nI_ge hk (by decide))) (fun _ => ?_)
    refine lv_aload_n hx hb dX3_clear_23 rfl (lv_at hl 1 rfl) ?_
    refine r_get cx hw inX3 (ci := 2) rfl 2 rfl 5 (by decide) fl_X3_18 rfl dX3_clear_24 ?_
    refine lv_iload_n hx hb dX3_clear_27 rfl (lv_at hl 0 rfl) ?_
    refine lv_iconst (v := (-1)) hx hb dX3_clear_28 (by decide) ?_
    refine r_iast cx hw 3 rfl (vp_in_nI hk (by decide)) (ws' := [(a1, ob 2 [.int 0, .int 0, .int 0, .ref a2, .ref a3, .ref a4, .ref a5, .ref a6, .ref a7]), (a4, aI G 72 (fl_fill (-1) 0 72)), (a0, ob 2 [.int 0, .int 0, .int 0, .ref a8, .ref a9, .ref a10, .ref a11, .ref a12, .ref a13]), (a10, aI G 72 (upd (v900) ((nI k)).toNatClampNeg (-1))), (a14, ob 1 [.ref a15, .ref a16, .int 0, .int 0]), (a17, ob 1 [.ref a18, .ref a19, .int 0, .int 0]), (a20, ob 1 [.ref a21, .ref a22, .int 0, .int 0]), (a23, ob 1 [.ref a24, .ref a25, .int 0, .int 0]), (a26, ob 9 [.int 6, .int 3, .int 120, .ref a27, .ref a28, .ref a1, .int 0, .int 0, .int 0, .int 0, .ref a29, .ref a30, .int 0, .int 0, .ref a31, .ref a32, .ref a33, .ref a34]), (a28, ob 4 [.int 0, .int 0, .int 0, .int 0, .int 0, .int 0, .int 0, .ref a35, .ref a36, .ref a37, .ref a38, .ref a39, .ref a40, .ref a41]), (a42, ob 6 [.ref a27, .ref a43, .ref a44, .ref a1, .ref a45, .int (-1)]), (a44, aJ G 5 (fun _ => 0)), (a43, aJ G 8 (fun _ => 0)), (a45, ob 0 [.int (-1), .int 0, .int 0, .int 0, .int 0, .int 0, .int 0, .ref a46, .ref a47, .ref a48]), (a47, aI G 8 (fun _ => 0)), (a48, ob 1 [.ref a49, .ref a50, .int 0, .int 0]), (a27, ob 7 [.ref a51, .ref a52, .ref a53, .ref a54, .ref a55, .int 0, .ref a56, .int 0, .ref a57, .ref a58, .int 0]), (a59, ob 1 [.ref a60, .ref a61, .int 0, .int 0]), (a62, ob 8 [.ref a63, .int 0]), (a64, ob 10 [.ref a65, .int 0, .int (-1), .ref a66, .ref a1, .ref a0, .ref a14, .ref a17, .ref a20, .ref a23, .int 0, .ref a26, .ref a28, .ref a42, .ref a67, .ref a45, .ref a68, .ref a69, .ref a59, .ref a62]), (a65, aI G 800 (fun _ => 0)), (a66, ob 3 [.ref a65, .int 0, .int 0, .int (-1), .ref a0, .ref a70, .int 0])]) rfl dX3_clear_29 (fun H locs hw => ?_)
    refine lv_iinc (v := nI (k + 1)) (lv' := [(1, .int (nI (k + 1))), (0, .ref a0)]) hx hb dX3_clear_30 hl (k := 0) rfl (nI_1 k) (by decide) rfl (fun ls hl => ?_)
    refine lv_goto (tgt := 17) hx hb dX3_clear_33 (by decide) ?_
    exact ih H locs ls ⟨lv_sub hl [0, 1] rfl, _, hw.sub [0, 1, 2, 3, 4, 5, 6, 7, 8, 9, 10, 11, 12, 13, 14, 15, 16, 17, 18, 19, 20, 21] rfl rfl⟩

set_option maxHeartbeats 4000000 in
set_option maxRecDepth 100000 in
theorem a_X4_readProgram_21 (l : Launch) (G : Gt) (a0 : Nat) (a1 : Nat) (a2 : Nat) (a3 : Nat) (a4 : Nat) (a5 : Nat) (a6 : Nat) (a7 : Nat) (a8 : Nat) (a9 : Nat) (a10 : Nat) (a11 : Nat) (a12 : Nat) (a13 : Nat) (a14 : Nat) (a15 : Nat) (a16 : Nat) (a17 : Nat) (a18 : Nat) (a19 : Nat) (a20 : Nat) (a21 : Nat) (a22 : Nat) (a23 : Nat) (a24 : Nat) (a25 : Nat) (a26 : Nat) (a27 : Nat) (a28 : Nat) (a29 : Nat) (a30 : Nat) (a31 : Nat) (a32 : Nat) (a33 : Nat) (a34 : Nat) (a35 : Nat) (a36 : Nat) (a37 : Nat) (a38 : Nat) (a39 : Nat) (a40 : Nat) (a41 : Nat) (a42 : Nat) (a43 : Nat) (a44 : Nat) (a45 : Nat) (a46 : Nat) (a47 : Nat) (a48 : Nat) (a49 : Nat) (a50 : Nat) (a51 : Nat) (a52 : Nat) (a53 : Nat) (a54 : Nat) (a55 : Nat) (a56 : Nat) (a57 : Nat) (a58 : Nat) (a59 : Nat) (a60 : Nat) (a61 : Nat) (a62 : Nat) (a63 : Nat) (a64 : Nat) (a65 : Nat) (a66 : Nat) (a67 : Nat) (a68 : Nat) (a69 : Nat) (a70 : Nat) : Mt l yX4_readProgram cX4_readProgram 3 none ({ frames := 1, cells := 0, slots := 0, locals := 21 } : Room) G [.ref a0, .ref a1] [(a2, ob 2 [.int 0, .int 0, .int 0, .ref a3, .ref a4, .ref a5, .ref a6, .ref a7, .ref a8]), (a5, aI G 72 (fl_fill (-1) 0 72)), (a1, ob 2 [.int 0, .int 0, .int 0, .ref a9, .ref a10, .ref a11, .ref a12, .ref a13, .ref a14]), (a11, aI G 72 (fl_fill (-1) 0 72)), (a15, ob 1 [.ref a16, .ref a17, .int 0, .int 0]), (a18, ob 1 [.ref a19, .ref a20, .int 0, .int 0]), (a21, ob 1 [.ref a22, .ref a23, .int 0, .int 0]), (a24, ob 1 [.ref a25, .ref a26, .int 0, .int 0]), (a27, ob 9 [.int 6, .int 3, .int 120, .ref a28, .ref a29, .ref a2, .int 0, .int 0, .int 0, .int 0, .ref a30, .ref a31, .int 0, .int 0, .ref a32, .ref a33, .ref a34, .ref a35]), (a29, ob 4 [.int 0, .int 0, .int 0, .int 0, .int 0, .int 0, .int 0, .ref a36, .ref a37, .ref a38, .ref a39, .ref a40, .ref a41, .ref a42]), (a43, ob 6 [.ref a28, .ref a44, .ref a45, .ref a2, .ref a46, .int (-1)]), (a45, aJ G 5 (fun _ => 0)), (a44, aJ G 8 (fun _ => 0)), (a46, ob 0 [.int (-1), .int 0, .int 0, .int 0, .int 0, .int 0, .int 0, .ref a47, .ref a48, .ref a49]), (a48, aI G 8 (fun _ => 0)), (a49, ob 1 [.ref a50, .ref a51, .int 0, .int 0]), (a28, ob 7 [.ref a52, .ref a53, .ref a54, .ref a55, .ref a56, .int 0, .ref a57, .int 0, .ref a58, .ref a59, .int 0]), (a60, ob 1 [.ref a61, .ref a62, .int 0, .int 0]), (a63, ob 8 [.ref a64, .int 0]), (a65, ob 10 [.ref a66, .int 0, .int (-1), .ref a0, .ref a2, .ref a1, .ref a15, .ref a18, .ref a21, .ref a24, .int 0, .ref a27, .ref a29, .ref a43, .ref a67, .ref a46, .ref a68, .ref a69, .ref a60, .ref a63]), (a66, aI G 800 (fun _ => 0)), (a0, ob 3 [.ref a66, .int 0, .int 0, .int (-1), .ref a1, .ref a70, .int 0])] (qV G (fun (w : Nat → Int32) => True) (fun w => [(a2, ob 2 [.int 0, .int 0, .int 0, .ref a3, .ref a4, .ref a5, .ref a6, .ref a7, .ref a8]), (a5, aI G 72 (fl_fill (-1) 0 72)), (a1, ob 2 [.int 0, .int 0, .int 0, .ref a9, .ref a10, .ref a11, .ref a12, .ref a13, .ref a14]), (a11, aI G 72 (w)), (a15, ob 1 [.ref a16, .ref a17, .int 0, .int 0]), (a18, ob 1 [.ref a19, .ref a20, .int 0, .int 0]), (a21, ob 1 [.ref a22, .ref a23, .int 0, .int 0]), (a24, ob 1 [.ref a25, .ref a26, .int 0, .int 0]), (a27, ob 9 [.int 6, .int 3, .int 120, .ref a28, .ref a29, .ref a2, .int 0, .int 0, .int 0, .int 0, .ref a30, .ref a31, .int 0, .int 0, .ref a32, .ref a33, .ref a34, .ref a35]), (a29, ob 4 [.int 0, .int 0, .int 0, .int 0, .int 0, .int 0, .int 0, .ref a36, .ref a37, .ref a38, .ref a39, .ref a40, .ref a41, .ref a42]), (a43, ob 6 [.ref a28, .ref a44, .ref a45, .ref a2, .ref a46, .int (-1)]), (a45, aJ G 5 (fun _ => 0)), (a44, aJ G 8 (fun _ => 0)), (a46, ob 0 [.int (-1), .int 0, .int 0, .int 0, .int 0, .int 0, .int 0, .ref a47, .ref a48, .ref a49]), (a48, aI G 8 (fun _ => 0)), (a49, ob 1 [.ref a50, .ref a51, .int 0, .int 0]), (a28, ob 7 [.ref a52, .ref a53, .ref a54, .ref a55, .ref a56, .int 0, .ref a57, .int 0, .ref a58, .ref a59, .int 0]), (a60, ob 1 [.ref a61, .ref a62, .int 0, .int 0]), (a63, ob 8 [.ref a64, .int 0]), (a65, ob 10 [.ref a66, .int 0, .int (-1), .ref a0, .ref a2, .ref a1, .ref a15, .ref a18, .ref a21, .ref a24, .int 0, .ref a27, .ref a29, .ref a43, .ref a67, .ref a46, .ref a68, .ref a69, .ref a60, .ref a63]), (a66, aI G 800 (fun _ => 0)), (a0, ob 3 [.ref a66, .int 0, .int 0, .int (-1), .ref a1, .ref a70, .int 0])])) := by
  refine Mt.of (own := RX4) (cc := cX4_readProgram) (by decide) rfl (Nat.le_of_ble_eq_true rfl) ?_
  intro p e s m below meth c A ls cx hr hlk hmn hA hl hw
  have hx := cx.1
  have hb := cx.2.1
  have hl : lv_has ls 3 [(0, .ref a0), (1, .ref a1)] := hl
  refine lv_aload_n hx hb dX4_readProgram_0 rfl (lv_at hl 0 rfl) ?_
  refine lv_aload_n hx hb dX4_readProgram_1 rfl (lv_at hl 1 rfl) ?_
  refine r_put cx hw inX4 (ci := 3) rfl tyX4_ok nmX4 21 rfl 4 (by decide) fl_X4_25 rfl rfl rfl (Nat.le_of_ble_eq_true rfl) (ws' := [(a2, ob 2 [.int 0, .int 0, .int 0, .ref a3, .ref a4, .ref a5, .ref a6, .ref a7, .ref a8]), (a5, aI G 72 (fl_fill (-1) 0 72)), (a1, ob 2 [.int 0, .int 0, .int 0, .ref a9, .ref a10, .ref a11, .ref a12, .ref a13, .ref a14]), (a11, aI G 72 (fl_fill (-1) 0 72)), (a15, ob 1 [.ref a16, .ref a17, .int 0, .int 0]), (a18, ob 1 [.ref a19, .ref a20, .int 0, .int 0]), (a21, ob 1 [.ref a22, .ref a23, .int 0, .int 0]), (a24, ob 1 [.ref a25, .ref a26, .int 0, .int 0]), (a27, ob 9 [.int 6, .int 3, .int 120, .ref a28, .ref a29, .ref a2, .int 0, .int 0, .int 0, .int 0, .ref a30, .ref a31, .int 0, .int 0, .ref a32, .ref a33, .ref a34, .ref a35]), (a29, ob 4 [.int 0, .int 0, .int 0, .int 0, .int 0, .int 0, .int 0, .ref a36, .ref a37, .ref a38, .ref a39, .ref a40, .ref a41, .ref a42]), (a43, ob 6 [.ref a28, .ref a44, .ref a45, .ref a2, .ref a46, .int (-1)]), (a45, aJ G 5 (fun _ => 0)), (a44, aJ G 8 (fun _ => 0)), (a46, ob 0 [.int (-1), .int 0, .int 0, .int 0, .int 0, .int 0, .int 0, .ref a47, .ref a48, .ref a49]), (a48, aI G 8 (fun _ => 0)), (a49, ob 1 [.ref a50, .ref a51, .int 0, .int 0]), (a28, ob 7 [.ref a52, .ref a53, .ref a54, .ref a55, .ref a56, .int 0, .ref a57, .int 0, .ref a58, .ref a59, .int 0]), (a60, ob 1 [.ref a61, .ref a62, .int 0, .int 0]), (a63, ob 8 [.ref a64, .int 0]), (a65, ob 10 [.ref a66, .int 0, .int (-1), .ref a0, .ref a2, .ref a1, .ref a15, .ref a18, .ref a21, .ref a24, .int 0, .ref a27, .ref a29, .ref a43, .ref a67, .ref a46, .ref a68, .ref a69, .ref a60, .ref a63]), (a66, aI G 800 (fun _ => 0)), (a0, ob 3 [.ref a66, .int 0, .int 0, .int (-1), .ref a1, .ref a70, .int 0])]) rfl dX4_readProgram_2 (fun H locs hw => ?_)
  refine lv_aload_n hx hb dX4_readProgram_5 rfl (lv_at hl 0 rfl) ?_
  refine r_get cx hw inX4 (ci := 3) rfl 21 rfl 4 (by decide) fl_X4_25 rfl dX4_readProgram_6 ?_
  refine r_callVV (As := []) (rest := []) (wr := []) cx hw hA (a_X3_clear_23 l G a1 a2 a3 a4 a5 a6 a7 a8 a9 a10 a11 a12 a13 a14 a15 a16 a17 a18 a19 a20 a21 a22 a23 a24 a25 a26 a27 a28 a29 a30 a31 a32 a33 a34 a35 a36 a37 a38 a39 a40 a41 a42 a43 a44 a45 a46 a47 a48 a49 a50 a51 a52 a53 a54 a55 a56 a57 a58 a59 a60 a61 a62 a63 a64 a65 a66 a0 a67 a68 a69 a70) [0, 1, 2, 3, 4, 5, 6, 7, 8, 9, 10, 11, 12, 13, 14, 15, 16, 17, 18, 19, 20, 21] [] rfl rfl rfl rfl rfl 2 rfl (ci := 2) rfl ml_X4_59 im_X3_clear se_X3_clear in_X3 co_X3_clear rfl hd_X3_clear rfl ⟨Nat.le_of_ble_eq_true rfl, Nat.le_of_ble_eq_true rfl⟩ hl.1 rfl (Nat.le_of_ble_eq_true rfl) dX4_readProgram_9 ⟨Nat.le_of_ble_eq_true rfl, Nat.le_of_ble_eq_true rfl⟩ (fun u1 H locs hr2 hw => ?_)
  have hw : Wd G A [(a2, ob 2 [.int 0, .int 0, .int 0, .ref a3, .ref a4, .ref a5, .ref a6, .ref a7, .ref a8]), (a5, aI G 72 (fl_fill (-1) 0 72)), (a1, ob 2 [.int 0, .int 0, .int 0, .ref a9, .ref a10, .ref a11, .ref a12, .ref a13, .ref a14]), (a11, aI G 72 (u1)), (a15, ob 1 [.ref a16, .ref a17, .int 0, .int 0]), (a18, ob 1 [.ref a19, .ref a20, .int 0, .int 0]), (a21, ob 1 [.ref a22, .ref a23, .int 0, .int 0]), (a24, ob 1 [.ref a25, .ref a26, .int 0, .int 0]), (a27, ob 9 [.int 6, .int 3, .int 120, .ref a28, .ref a29, .ref a2, .int 0, .int 0, .int 0, .int 0, .ref a30, .ref a31, .int 0, .int 0, .ref a32, .ref a33, .ref a34, .ref a35]), (a29, ob 4 [.int 0, .int 0, .int 0, .int 0, .int 0, .int 0, .int 0, .ref a36, .ref a37, .ref a38, .ref a39, .ref a40, .ref a41, .ref a42]), (a43, ob 6 [.ref a28, .ref a44, .ref a45, .ref a2, .ref a46, .int (-1)]), (a45, aJ G 5 (fun _ => 0)), (a44, aJ G 8 (fun _ => 0)), (a46, ob 0 [.int (-1), .int 0, .int 0, .int 0, .int 0, .int 0, .int 0, .ref a47, .ref a48, .ref a49]), (a48, aI G 8 (fun _ => 0)), (a49, ob 1 [.ref a50, .ref a51, .int 0, .int 0]), (a28, ob 7 [.ref a52, .ref a53, .ref a54, .ref a55, .ref a56, .int 0, .ref a57, .int 0, .ref a58, .ref a59, .int 0]), (a60, ob 1 [.ref a61, .ref a62, .int 0, .int 0]), (a63, ob 8 [.ref a64, .int 0]), (a65, ob 10 [.ref a66, .int 0, .int (-1), .ref a0, .ref a2, .ref a1, .ref a15, .ref a18, .ref a21, .ref a24, .int 0, .ref a27, .ref a29, .ref a43, .ref a67, .ref a46, .ref a68, .ref a69, .ref a60, .ref a63]), (a66, aI G 800 (fun _ => 0)), (a0, ob 3 [.ref a66, .int 0, .int 0, .int (-1), .ref a1, .ref a70, .int 0])] s.heap _ _ := hw
  refine lv_iconst (v := 0) hx hb dX4_readProgram_12 (by decide) ?_
  refine lv_istore_n (lv' := [(2, .int 0), (0, .ref a0), (1, .ref a1)]) hx hb dX4_readProgram_13 rfl hl (by decide) rfl (fun ls hl => ?_)
  refine lv_iload_n hx hb dX4_readProgram_14 rfl (lv_at hl 0 rfl) ?_
  refine lv_sipush (v := 800) hx hb dX4_readProgram_15 (by decide) ?_
  refine lv_icmp_gt (tgt := 49) hx hb dX4_readProgram_18 (by decide) (fun c9 => absurd c9 (by decide)) (fun _ => ?_)
  refine lv_aload_n hx hb dX4_readProgram_21 rfl (lv_at hl 1 rfl) ?_
  refine r_callVI (As := []) (rest := []) (wr := [(a2, ob 2 [.int 0, .int 0, .int 0, .ref a3, .ref a4, .ref a5, .ref a6, .ref a7, .ref a8]), (a5, aI G 72 (fl_fill (-1) 0 72)), (a1, ob 2 [.int 0, .int 0, .int 0, .ref a9, .ref a10, .ref a11, .ref a12, .ref a13, .ref a14]), (a11, aI G 72 (u1)), (a15, ob 1 [.ref a16, .ref a17, .int 0, .int 0]), (a18, ob 1 [.ref a19, .ref a20, .int 0, .int 0]), (a21, ob 1 [.ref a22, .ref a23, .int 0, .int 0]), (a24, ob 1 [.ref a25, .ref a26, .int 0, .int 0]), (a27, ob 9 [.int 6, .int 3, .int 120, .ref a28, .ref a29, .ref a2, .int 0, .int 0, .int 0, .int 0, .ref a30, .ref a31, .int 0, .int 0, .ref a32, .ref a33, .ref a34, .ref a35]), (a29, ob 4 [.int 0, .int 0, .int 0, .int 0, .int 0, .int 0, .int 0, .ref a36, .ref a37, .ref a38, .ref a39, .ref a40, .ref a41, .ref a42]), (a43, ob 6 [.ref a28, .ref a44, .ref a45, .ref a2, .ref a46, .int (-1)]), (a45, aJ G 5 (fun _ => 0)), (a44, aJ G 8 (fun _ => 0)), (a46, ob 0 [.int (-1), .int 0, .int 0, .int 0, .int 0, .int 0, .int 0, .ref a47, .ref a48, .ref a49]), (a48, aI G 8 (fun _ => 0)), (a49, ob 1 [.ref a50, .ref a51, .int 0, .int 0]), (a28, ob 7 [.ref a52, .ref a53, .ref a54, .ref a55, .ref a56, .int 0, .ref a57, .int 0, .ref a58, .ref a59, .int 0]), (a60, ob 1 [.ref a61, .ref a62, .int 0, .int 0]), (a63, ob 8 [.ref a64, .int 0]), (a65, ob 10 [.ref a66, .int 0, .int (-1), .ref a0, .ref a2, .ref a1, .ref a15, .ref a18, .ref a21, .ref a24, .int 0, .ref a27, .ref a29, .ref a43, .ref a67, .ref a46, .ref a68, .ref a69, .ref a60, .ref a63]), (a66, aI G 800 (fun _ => 0))]) cx hw hA (a_X4_isWell_10 l G a0 a66 a1 a70) [21] [0, 1, 2, 3, 4, 5, 6, 7, 8, 9, 10, 11, 12, 13, 14, 15, 16, 17, 18, 19, 20] rfl rfl rfl rfl rfl 21 rfl (ci := 3) rfl ml_X4_43 im_X4_isWell se_X4_isWell in_X4 co_X4_isWell rfl hd_X4_isWell rfl ⟨Nat.le_of_ble_eq_true rfl, Nat.le_of_ble_eq_true rfl⟩ hl.1 rfl (Nat.le_of_ble_eq_true rfl) dX4_readProgram_22 ⟨Nat.le_of_ble_eq_true rfl, Nat.le_of_ble_eq_true rfl⟩ (fun r4 u3 H locs hr4 hw => ?_)
  have hw : Wd G A [(a2, ob 2 [.int 0, .int 0, .int 0, .ref a3, .ref a4, .ref a5, .ref a6, .ref a7, .ref a8]), (a5, aI G 72 (fl_fill (-1) 0 72)), (a1, ob 2 [.int 0, .int 0, .int 0, .ref a9, .ref a10, .ref a11, .ref a12, .ref a13, .ref a14]), (a11, aI G 72 (u1)), (a15, ob 1 [.ref a16, .ref a17, .int 0, .int 0]), (a18, ob 1 [.ref a19, .ref a20, .int 0, .int 0]), (a21, ob 1 [.ref a22, .ref a23, .int 0, .int 0]), (a24, ob 1 [.ref a25, .ref a26, .int 0, .int 0]), (a27, ob 9 [.int 6, .int 3, .int 120, .ref a28, .ref a29, .ref a2, .int 0, .int 0, .int 0, .int 0, .ref a30, .ref a31, .int 0, .int 0, .ref a32, .ref a33, .ref a34, .ref a35]), (a29, ob 4 [.int 0, .int 0, .int 0, .int 0, .int 0, .int 0, .int 0, .ref a36, .ref a37, .ref a38, .ref a39, .ref a40, .ref a41, .ref a42]), (a43, ob 6 [.ref a28, .ref a44, .ref a45, .ref a2, .ref a46, .int (-1)]), (a45, aJ G 5 (fun _ => 0)), (a44, aJ G 8 (fun _ => 0)), (a46, ob 0 [.int (-1), .int 0, .int 0, .int 0, .int 0, .int 0, .int 0, .ref a47, .ref a48, .ref a49]), (a48, aI G 8 (fun _ => 0)), (a49, ob 1 [.ref a50, .ref a51, .int 0, .int 0]), (a28, ob 7 [.ref a52, .ref a53, .ref a54, .ref a55, .ref a56, .int 0, .ref a57, .int 0, .ref a58, .ref a59, .int 0]), (a60, ob 1 [.ref a61, .ref a62, .int 0, .int 0]), (a63, ob 8 [.ref a64, .int 0]), (a65, ob 10 [.ref a66, .int 0, .int (-1), .ref a0, .ref a2, .ref a1, .ref a15, .ref a18, .ref a21, .ref a24, .int 0, .ref a27, .ref a29, .ref a43, .ref a67, .ref a46, .ref a68, .ref a69, .ref a60, .ref a63]), (a66, aI G 800 (fun _ => 0)), (a0, ob 3 [.ref a66, .int 0, .int 0, .int (-1), .ref a1, .ref a70, .int 0])] s.heap _ _ := hw
  subst hr4
  refine lv_if_eq (tgt := 49) hx hb dX4_readProgram_25 (by decide) (fun c9 => absurd c9 (by decide)) (fun _ => ?_)
  refine lv_aload_n hx hb dX4_readProgram_28 rfl (lv_at hl 1 rfl) ?_
  refine r_get cx hw inX4 (ci := 3) rfl 21 rfl 2 (by decide) fl_X4_19 rfl dX4_readProgram_29 ?_
  refine lv_aload_n hx hb dX4_readProgram_32 rfl (lv_at hl 1 rfl) ?_
  refine r_get cx hw inX4 (ci := 3) rfl 21 rfl 1 (by decide) fl_X4_15 rfl dX4_readProgram_33 ?_
  refine lv_icmp_ge (tgt := 49) hx hb dX4_readProgram_36 (by decide) (fun _ => ?_) (fun c9 => absurd (by decide) c9)
  have hw : Wd G A [(a2, ob 2 [.int 0, .int 0, .int 0, .ref a3, .ref a4, .ref a5, .ref a6, .ref a7, .ref a8]), (a5, aI G 72 (fl_fill (-1) 0 72)), (a1, ob 2 [.int 0, .int 0, .int 0, .ref a9, .ref a10, .ref a11, .ref a12, .ref a13, .ref a14]), (a11, aI G 72 (u1)), (a15, ob 1 [.ref a16, .ref a17, .int 0, .int 0]), (a18, ob 1 [.ref a19, .ref a20, .int 0, .int 0]), (a21, ob 1 [.ref a22, .ref a23, .int 0, .int 0]), (a24, ob 1 [.ref a25, .ref a26, .int 0, .int 0]), (a27, ob 9 [.int 6, .int 3, .int 120, .ref a28, .ref a29, .ref a2, .int 0, .int 0, .int 0, .int 0, .ref a30, .ref a31, .int 0, .int 0, .ref a32, .ref a33, .ref a34, .ref a35]), (a29, ob 4 [.int 0, .int 0, .int 0, .int 0, .int 0, .int 0, .int 0, .ref a36, .ref a37, .ref a38, .ref a39, .ref a40, .ref a41, .ref a42]), (a43, ob 6 [.ref a28, .ref a44, .ref a45, .ref a2, .ref a46, .int (-1)]), (a45, aJ G 5 (fun _ => 0)), (a44, aJ G 8 (fun _ => 0)), (a46, ob 0 [.int (-1), .int 0, .int 0, .int 0, .int 0, .int 0, .int 0, .ref a47, .ref a48, .ref a49]), (a48, aI G 8 (fun _ => 0)), (a49, ob 1 [.ref a50, .ref a51, .int 0, .int 0]), (a28, ob 7 [.ref a52, .ref a53, .ref a54, .ref a55, .ref a56, .int 0, .ref a57, .int 0, .ref a58, .ref a59, .int 0]), (a60, ob 1 [.ref a61, .ref a62, .int 0, .int 0]), (a63, ob 8 [.ref a64, .int 0]), (a65, ob 10 [.ref a66, .int 0, .int (-1), .ref a0, .ref a2, .ref a1, .ref a15, .ref a18, .ref a21, .ref a24, .int 0, .ref a27, .ref a29, .ref a43, .ref a67, .ref a46, .ref a68, .ref a69, .ref a60, .ref a63]), (a66, aI G 800 (fun _ => 0)), (a0, ob 3 [.ref a66, .int 0, .int 0, .int (-1), .ref a1, .ref a70, .int 0])] s.heap _ _ := hw.sub [0, 1, 2, 3, 4, 5, 6, 7, 8, 9, 10, 11, 12, 13, 14, 15, 16, 17, 18, 19, 20, 21] rfl rfl
  exact r_vret cx hr hlk (u1) trivial hw (Nat.le_of_ble_eq_true rfl) (Nat.le_of_ble_eq_true rfl) dX4_readProgram_49

set_option maxHeartbeats 4000000 in
set_option maxRecDepth 100000 in
theorem xa_program (l : Launch) (G : Gt) (h0 : Nat) (u : Nat → Nat) : Mt l yX11_program cX11_program 2 (some .int) ({ frames := 3, cells := 0, slots := 0, locals := 56 } : Room) G [.ref h0] [(h0, ob 10 [.ref (u 0), .int 0, .int (-1), .ref (u 1), .ref (u 2), .ref (u 3), .ref (u 4), .ref (u 5), .ref (u 6), .ref (u 7), .int 0, .ref (u 8), .ref (u 9), .ref (u 10), .ref (u 11), .ref (u 12), .ref (u 13), .ref (u 14), .ref (u 15), .ref (u 16)]), ((u 0), aI G 800 (fun _ => 0)), ((u 2), ob 2 [.int 0, .int 0, .int 0, .ref (u 17), .ref (u 18), .ref (u 19), .ref (u 20), .ref (u 21), .ref (u 22)]), ((u 19), aI G 72 (fl_fill (-1) 0 72)), ((u 3), ob 2 [.int 0, .int 0, .int 0, .ref (u 23), .ref (u 24), .ref (u 25), .ref (u 26), .ref (u 27), .ref (u 28)]), ((u 25), aI G 72 (fl_fill (-1) 0 72)), ((u 1), ob 3 [.ref (u 0), .int 0, .int 0, .int (-1), .ref (u 3), .ref (u 29), .int 0]), ((u 4), ob 1 [.ref (u 30), .ref (u 31), .int 0, .int 0]), ((u 5), ob 1 [.ref (u 32), .ref (u 33), .int 0, .int 0]), ((u 6), ob 1 [.ref (u 34), .ref (u 35), .int 0, .int 0]), ((u 7), ob 1 [.ref (u 36), .ref (u 37), .int 0, .int 0]), ((u 8), ob 9 [.int 6, .int 3, .int 120, .ref (u 38), .ref (u 9), .ref (u 2), .int 0, .int 0, .int 0, .int 0, .ref (u 39), .ref (u 40), .int 0, .int 0, .ref (u 41), .ref (u 42), .ref (u 43), .ref (u 44)]), ((u 9), ob 4 [.int 0, .int 0, .int 0, .int 0, .int 0, .int 0, .int 0, .ref (u 45), .ref (u 46), .ref (u 47), .ref (u 48), .ref (u 49), .ref (u 50), .ref (u 51)]), ((u 10), ob 6 [.ref (u 38), .ref (u 52), .ref (u 53), .ref (u 2), .ref (u 12), .int (-1)]), ((u 53), aJ G 5 (fun _ => 0)), ((u 52), aJ G 8 (fun _ => 0)), ((u 12), ob 0 [.int (-1), .int 0, .int 0, .int 0, .int 0, .int 0, .int 0, .ref (u 54), .ref (u 55), .ref (u 56)]), ((u 55), aI G 8 (fun _ => 0)), ((u 56), ob 1 [.ref (u 57), .ref (u 58), .int 0, .int 0]), ((u 38), ob 7 [.ref (u 59), .ref (u 60), .ref (u 61), .ref (u 62), .ref (u 63), .int 0, .ref (u 64), .int 0, .ref (u 65), .ref (u 66), .int 0]), ((u 15), ob 1 [.ref (u 67), .ref (u 68), .int 0, .int 0]), ((u 16), ob 8 [.ref (u 69), .int 0])] (qI G (fun (r : Int32) (w : Unit) => r = 0) (fun w => [])) := by
  refine Mt.of (own := RX11) (cc := cX11_program) (by decide) rfl (Nat.le_of_ble_eq_true rfl) ?_
  intro p e s m below meth c A ls cx hr hlk hmn hA hl hw
  have hx := cx.1
  have hb := cx.2.1
  have hl : lv_has ls 2 [(0, .ref h0)] := hl
  refine lv_aload_n hx hb dX11_program_0 rfl (lv_at hl 0 rfl) ?_
  refine r_callVV (As := []) (rest := []) (wr := [((u 2), ob 2 [.int 0, .int 0, .int 0, .ref (u 17), .ref (u 18), .ref (u 19), .ref (u 20), .ref (u 21), .ref (u 22)]), ((u 19), aI G 72 (fl_fill (-1) 0 72)), ((u 3), ob 2 [.int 0, .int 0, .int 0, .ref (u 23), .ref (u 24), .ref (u 25), .ref (u 26), .ref (u 27), .ref (u 28)]), ((u 25), aI G 72 (fl_fill (-1) 0 72)), ((u 4), ob 1 [.ref (u 30), .ref (u 31), .int 0, .int 0]), ((u 5), ob 1 [.ref (u 32), .ref (u 33), .int 0, .int 0]), ((u 6), ob 1 [.ref (u 34), .ref (u 35), .int 0, .int 0]), ((u 7), ob 1 [.ref (u 36), .ref (u 37), .int 0, .int 0]), ((u 8), ob 9 [.int 6, .int 3, .int 120, .ref (u 38), .ref (u 9), .ref (u 2), .int 0, .int 0, .int 0, .int 0, .ref (u 39), .ref (u 40), .int 0, .int 0, .ref (u 41), .ref (u 42), .ref (u 43), .ref (u 44)]), ((u 9), ob 4 [.int 0, .int 0, .int 0, .int 0, .int 0, .int 0, .int 0, .ref (u 45), .ref (u 46), .ref (u 47), .ref (u 48), .ref (u 49), .ref (u 50), .ref (u 51)]), ((u 10), ob 6 [.ref (u 38), .ref (u 52), .ref (u 53), .ref (u 2), .ref (u 12), .int (-1)]), ((u 53), aJ G 5 (fun _ => 0)), ((u 52), aJ G 8 (fun _ => 0)), ((u 12), ob 0 [.int (-1), .int 0, .int 0, .int 0, .int 0, .int 0, .int 0, .ref (u 54), .ref (u 55), .ref (u 56)]), ((u 55), aI G 8 (fun _ => 0)), ((u 56), ob 1 [.ref (u 57), .ref (u 58), .int 0, .int 0]), ((u 38), ob 7 [.ref (u 59), .ref (u 60), .ref (u 61), .ref (u 62), .ref (u 63), .int 0, .ref (u 64), .int 0, .ref (u 65), .ref (u 66), .int 0]), ((u 15), ob 1 [.ref (u 67), .ref (u 68), .int 0, .int 0]), ((u 16), ob 8 [.ref (u 69), .int 0])]) cx hw hA (a_X11_takeTape_8 l G h0 (u 0) (u 1) (u 2) (u 3) (u 4) (u 5) (u 6) (u 7) (u 8) (u 9) (u 10) (u 11) (u 12) (u 13) (u 14) (u 15) (u 16) (u 29)) [0, 1, 6] [2, 3, 4, 5, 7, 8, 9, 10, 11, 12, 13, 14, 15, 16, 17, 18, 19, 20, 21] rfl rfl rfl rfl rfl 0 rfl (ci := 10) rfl ml_X11_124 im_X11_takeTape se_X11_takeTape in_X11 co_X11_takeTape rfl hd_X11_takeTape rfl ⟨Nat.le_of_ble_eq_true rfl, Nat.le_of_ble_eq_true rfl⟩ hl.1 rfl (Nat.le_of_ble_eq_true rfl) dX11_program_1 ⟨Nat.le_of_ble_eq_true rfl, Nat.le_of_ble_eq_true rfl⟩ (fun u1 H locs hr2 hw => ?_)
  have hw : Wd G A [((u 2), ob 2 [.int 0, .int 0, .int 0, .ref (u 17), .ref (u 18), .ref (u 19), .ref (u 20), .ref (u 21), .ref (u 22)]), ((u 19), aI G 72 (fl_fill (-1) 0 72)), ((u 3), ob 2 [.int 0, .int 0, .int 0, .ref (u 23), .ref (u 24), .ref (u 25), .ref (u 26), .ref (u 27), .ref (u 28)]), ((u 25), aI G 72 (fl_fill (-1) 0 72)), ((u 4), ob 1 [.ref (u 30), .ref (u 31), .int 0, .int 0]), ((u 5), ob 1 [.ref (u 32), .ref (u 33), .int 0, .int 0]), ((u 6), ob 1 [.ref (u 34), .ref (u 35), .int 0, .int 0]), ((u 7), ob 1 [.ref (u 36), .ref (u 37), .int 0, .int 0]), ((u 8), ob 9 [.int 6, .int 3, .int 120, .ref (u 38), .ref (u 9), .ref (u 2), .int 0, .int 0, .int 0, .int 0, .ref (u 39), .ref (u 40), .int 0, .int 0, .ref (u 41), .ref (u 42), .ref (u 43), .ref (u 44)]), ((u 9), ob 4 [.int 0, .int 0, .int 0, .int 0, .int 0, .int 0, .int 0, .ref (u 45), .ref (u 46), .ref (u 47), .ref (u 48), .ref (u 49), .ref (u 50), .ref (u 51)]), ((u 10), ob 6 [.ref (u 38), .ref (u 52), .ref (u 53), .ref (u 2), .ref (u 12), .int (-1)]), ((u 53), aJ G 5 (fun _ => 0)), ((u 52), aJ G 8 (fun _ => 0)), ((u 12), ob 0 [.int (-1), .int 0, .int 0, .int 0, .int 0, .int 0, .int 0, .ref (u 54), .ref (u 55), .ref (u 56)]), ((u 55), aI G 8 (fun _ => 0)), ((u 56), ob 1 [.ref (u 57), .ref (u 58), .int 0, .int 0]), ((u 38), ob 7 [.ref (u 59), .ref (u 60), .ref (u 61), .ref (u 62), .ref (u 63), .int 0, .ref (u 64), .int 0, .ref (u 65), .ref (u 66), .int 0]), ((u 15), ob 1 [.ref (u 67), .ref (u 68), .int 0, .int 0]), ((u 16), ob 8 [.ref (u 69), .int 0]), (h0, ob 10 [.ref (u 0), .int 0, .int (-1), .ref (u 1), .ref (u 2), .ref (u 3), .ref (u 4), .ref (u 5), .ref (u 6), .ref (u 7), .int 0, .ref (u 8), .ref (u 9), .ref (u 10), .ref (u 11), .ref (u 12), .ref (u 13), .ref (u 14), .ref (u 15), .ref (u 16)]), ((u 0), aI G 800 (fun _ => 0)), ((u 1), ob 3 [.ref (u 0), .int 0, .int 0, .int (-1), .ref (u 3), .ref (u 29), .int 0])] s.heap _ _ := hw
  refine lv_aload_n hx hb dX11_program_4 rfl (lv_at hl 0 rfl) ?_
  refine r_get cx hw inX11 (ci := 10) rfl 19 rfl 3 (by decide) fl_X11_35 rfl dX11_program_5 ?_
  refine lv_aload_n hx hb dX11_program_8 rfl (lv_at hl 0 rfl) ?_
  refine r_get cx hw inX11 (ci := 10) rfl 19 rfl 5 (by decide) fl_X11_27 rfl dX11_program_9 ?_
  refine r_callVV (As := [.ref (u 3)]) (rest := []) (wr := []) cx hw hA (a_X4_readProgram_21 l G (u 1) (u 3) (u 2) (u 17) (u 18) (u 19) (u 20) (u 21) (u 22) (u 23) (u 24) (u 25) (u 26) (u 27) (u 28) (u 4) (u 30) (u 31) (u 5) (u 32) (u 33) (u 6) (u 34) (u 35) (u 7) (u 36) (u 37) (u 8) (u 38) (u 9) (u 39) (u 40) (u 41) (u 42) (u 43) (u 44) (u 45) (u 46) (u 47) (u 48) (u 49) (u 50) (u 51) (u 10) (u 52) (u 53) (u 12) (u 54) (u 55) (u 56) (u 57) (u 58) (u 59) (u 60) (u 61) (u 62) (u 63) (u 64) (u 65) (u 66) (u 15) (u 67) (u 68) (u 16) (u 69) h0 (u 0) (u 11) (u 13) (u 14) (u 29)) [0, 1, 2, 3, 4, 5, 6, 7, 8, 9, 10, 11, 12, 13, 14, 15, 16, 17, 18, 19, 20, 21] [] rfl rfl rfl rfl rfl 21 rfl (ci := 3) rfl ml_X11_127 im_X4_readProgram se_X4_readProgram in_X4 co_X4_readProgram rfl hd_X4_readProgram rfl ⟨Nat.le_of_ble_eq_true rfl, Nat.le_of_ble_eq_true rfl⟩ hl.1 rfl (Nat.le_of_ble_eq_true rfl) dX11_program_12 ⟨Nat.le_of_ble_eq_true rfl, Nat.le_of_ble_eq_true rfl⟩ (fun u3 H locs hr4 hw => ?_)
  have hw : Wd G A [((u 2), ob 2 [.int 0, .int 0, .int 0, .ref (u 17), .ref (u 18), .ref (u 19), .ref (u 20), .ref (u 21), .ref (u 22)]), ((u 19), aI G 72 (fl_fill (-1) 0 72)), ((u 3), ob 2 [.int 0, .int 0, .int 0, .ref (u 23), .ref (u 24), .ref (u 25), .ref (u 26), .ref (u 27), .ref (u 28)]), ((u 25), aI G 72 (u3)), ((u 4), ob 1 [.ref (u 30), .ref (u 31), .int 0, .int 0]), ((u 5), ob 1 [.ref (u 32), .ref (u 33), .int 0, .int 0]), ((u 6), ob 1 [.ref (u 34), .ref (u 35), .int 0, .int 0]), ((u 7), ob 1 [.ref (u 36), .ref (u 37), .int 0, .int 0]), ((u 8), ob 9 [.int 6, .int 3, .int 120, .ref (u 38), .ref (u 9), .ref (u 2), .int 0, .int 0, .int 0, .int 0, .ref (u 39), .ref (u 40), .int 0, .int 0, .ref (u 41), .ref (u 42), .ref (u 43), .ref (u 44)]), ((u 9), ob 4 [.int 0, .int 0, .int 0, .int 0, .int 0, .int 0, .int 0, .ref (u 45), .ref (u 46), .ref (u 47), .ref (u 48), .ref (u 49), .ref (u 50), .ref (u 51)]), ((u 10), ob 6 [.ref (u 38), .ref (u 52), .ref (u 53), .ref (u 2), .ref (u 12), .int (-1)]), ((u 53), aJ G 5 (fun _ => 0)), ((u 52), aJ G 8 (fun _ => 0)), ((u 12), ob 0 [.int (-1), .int 0, .int 0, .int 0, .int 0, .int 0, .int 0, .ref (u 54), .ref (u 55), .ref (u 56)]), ((u 55), aI G 8 (fun _ => 0)), ((u 56), ob 1 [.ref (u 57), .ref (u 58), .int 0, .int 0]), ((u 38), ob 7 [.ref (u 59), .ref (u 60), .ref (u 61), .ref (u 62), .ref (u 63), .int 0, .ref (u 64), .int 0, .ref (u 65), .ref (u 66), .int 0]), ((u 15), ob 1 [.ref (u 67), .ref (u 68), .int 0, .int 0]), ((u 16), ob 8 [.ref (u 69), .int 0]), (h0, ob 10 [.ref (u 0), .int 0, .int (-1), .ref (u 1), .ref (u 2), .ref (u 3), .ref (u 4), .ref (u 5), .ref (u 6), .ref (u 7), .int 0, .ref (u 8), .ref (u 9), .ref (u 10), .ref (u 11), .ref (u 12), .ref (u 13), .ref (u 14), .ref (u 15), .ref (u 16)]), ((u 0), aI G 800 (fun _ => 0)), ((u 1), ob 3 [.ref (u 0), .int 0, .int 0, .int (-1), .ref (u 3), .ref (u 29), .int 0])] s.heap _ _ := hw
  refine lv_aload_n hx hb dX11_program_15 rfl (lv_at hl 0 rfl) ?_
  refine lv_aload_n hx hb dX11_program_16 rfl (lv_at hl 0 rfl) ?_
  refine r_get cx hw inX11 (ci := 10) rfl 19 rfl 3 (by decide) fl_X11_35 rfl dX11_program_17 ?_
  refine r_callVI (As := []) (rest := [.ref h0]) (wr := [((u 2), ob 2 [.int 0, .int 0, .int 0, .ref (u 17), .ref (u 18), .ref (u 19), .ref (u 20), .ref (u 21), .ref (u 22)]), ((u 19), aI G 72 (fl_fill (-1) 0 72)), ((u 3), ob 2 [.int 0, .int 0, .int 0, .ref (u 23), .ref (u 24), .ref (u 25), .ref (u 26), .ref (u 27), .ref (u 28)]), ((u 25), aI G 72 (u3)), ((u 4), ob 1 [.ref (u 30), .ref (u 31), .int 0, .int 0]), ((u 5), ob 1 [.ref (u 32), .ref (u 33), .int 0, .int 0]), ((u 6), ob 1 [.ref (u 34), .ref (u 35), .int 0, .int 0]), ((u 7), ob 1 [.ref (u 36), .ref (u 37), .int 0, .int 0]), ((u 8), ob 9 [.int 6, .int 3, .int 120, .ref (u 38), .ref (u 9), .ref (u 2), .int 0, .int 0, .int 0, .int 0, .ref (u 39), .ref (u 40), .int 0, .int 0, .ref (u 41), .ref (u 42), .ref (u 43), .ref (u 44)]), ((u 9), ob 4 [.int 0, .int 0, .int 0, .int 0, .int 0, .int 0, .int 0, .ref (u 45), .ref (u 46), .ref (u 47), .ref (u 48), .ref (u 49), .ref (u 50), .ref (u 51)]), ((u 10), ob 6 [.ref (u 38), .ref (u 52), .ref (u 53), .ref (u 2), .ref (u 12), .int (-1)]), ((u 53), aJ G 5 (fun _ => 0)), ((u 52), aJ G 8 (fun _ => 0)), ((u 12), ob 0 [.int (-1), .int 0, .int 0, .int 0, .int 0, .int 0, .int 0, .ref (u 54), .ref (u 55), .ref (u 56)]), ((u 55), aI G 8 (fun _ => 0)), ((u 56), ob 1 [.ref (u 57), .ref (u 58), .int 0, .int 0]), ((u 38), ob 7 [.ref (u 59), .ref (u 60), .ref (u 61), .ref (u 62), .ref (u 63), .int 0, .ref (u 64), .int 0, .ref (u 65), .ref (u 66), .int 0]), ((u 15), ob 1 [.ref (u 67), .ref (u 68), .int 0, .int 0]), ((u 16), ob 8 [.ref (u 69), .int 0]), (h0, ob 10 [.ref (u 0), .int 0, .int (-1), .ref (u 1), .ref (u 2), .ref (u 3), .ref (u 4), .ref (u 5), .ref (u 6), .ref (u 7), .int 0, .ref (u 8), .ref (u 9), .ref (u 10), .ref (u 11), .ref (u 12), .ref (u 13), .ref (u 14), .ref (u 15), .ref (u 16)]), ((u 0), aI G 800 (fun _ => 0))]) cx hw hA (a_X4_badPlace_14 l G (u 1) (u 0) (u 3) (u 29)) [21] [0, 1, 2, 3, 4, 5, 6, 7, 8, 9, 10, 11, 12, 13, 14, 15, 16, 17, 18, 19, 20] rfl rfl rfl rfl rfl 21 rfl (ci := 3) rfl ml_X11_131 im_X4_badPlace se_X4_badPlace in_X4 co_X4_badPlace rfl hd_X4_badPlace rfl ⟨Nat.le_of_ble_eq_true rfl, Nat.le_of_ble_eq_true rfl⟩ hl.1 rfl (Nat.le_of_ble_eq_true rfl) dX11_program_20 ⟨Nat.le_of_ble_eq_true rfl, Nat.le_of_ble_eq_true rfl⟩ (fun r6 u5 H locs hr6 hw => ?_)
  have hw : Wd G A [((u 2), ob 2 [.int 0, .int 0, .int 0, .ref (u 17), .ref (u 18), .ref (u 19), .ref (u 20), .ref (u 21), .ref (u 22)]), ((u 19), aI G 72 (fl_fill (-1) 0 72)), ((u 3), ob 2 [.int 0, .int 0, .int 0, .ref (u 23), .ref (u 24), .ref (u 25), .ref (u 26), .ref (u 27), .ref (u 28)]), ((u 25), aI G 72 (u3)), ((u 4), ob 1 [.ref (u 30), .ref (u 31), .int 0, .int 0]), ((u 5), ob 1 [.ref (u 32), .ref (u 33), .int 0, .int 0]), ((u 6), ob 1 [.ref (u 34), .ref (u 35), .int 0, .int 0]), ((u 7), ob 1 [.ref (u 36), .ref (u 37), .int 0, .int 0]), ((u 8), ob 9 [.int 6, .int 3, .int 120, .ref (u 38), .ref (u 9), .ref (u 2), .int 0, .int 0, .int 0, .int 0, .ref (u 39), .ref (u 40), .int 0, .int 0, .ref (u 41), .ref (u 42), .ref (u 43), .ref (u 44)]), ((u 9), ob 4 [.int 0, .int 0, .int 0, .int 0, .int 0, .int 0, .int 0, .ref (u 45), .ref (u 46), .ref (u 47), .ref (u 48), .ref (u 49), .ref (u 50), .ref (u 51)]), ((u 10), ob 6 [.ref (u 38), .ref (u 52), .ref (u 53), .ref (u 2), .ref (u 12), .int (-1)]), ((u 53), aJ G 5 (fun _ => 0)), ((u 52), aJ G 8 (fun _ => 0)), ((u 12), ob 0 [.int (-1), .int 0, .int 0, .int 0, .int 0, .int 0, .int 0, .ref (u 54), .ref (u 55), .ref (u 56)]), ((u 55), aI G 8 (fun _ => 0)), ((u 56), ob 1 [.ref (u 57), .ref (u 58), .int 0, .int 0]), ((u 38), ob 7 [.ref (u 59), .ref (u 60), .ref (u 61), .ref (u 62), .ref (u 63), .int 0, .ref (u 64), .int 0, .ref (u 65), .ref (u 66), .int 0]), ((u 15), ob 1 [.ref (u 67), .ref (u 68), .int 0, .int 0]), ((u 16), ob 8 [.ref (u 69), .int 0]), (h0, ob 10 [.ref (u 0), .int 0, .int (-1), .ref (u 1), .ref (u 2), .ref (u 3), .ref (u 4), .ref (u 5), .ref (u 6), .ref (u 7), .int 0, .ref (u 8), .ref (u 9), .ref (u 10), .ref (u 11), .ref (u 12), .ref (u 13), .ref (u 14), .ref (u 15), .ref (u 16)]), ((u 0), aI G 800 (fun _ => 0)), ((u 1), ob 3 [.ref (u 0), .int 0, .int 0, .int (-1), .ref (u 3), .ref (u 29), .int 0])] s.heap _ _ := hw
  subst hr6
  refine r_put cx hw inX11 (ci := 10) rfl tyX11_ok nmX11 19 rfl 2 (by decide) fl_X11_17 rfl rfl rfl (Nat.le_of_ble_eq_true rfl) (ws' := [((u 2), ob 2 [.int 0, .int 0, .int 0, .ref (u 17), .ref (u 18), .ref (u 19), .ref (u 20), .ref (u 21), .ref (u 22)]), ((u 19), aI G 72 (fl_fill (-1) 0 72)), ((u 3), ob 2 [.int 0, .int 0, .int 0, .ref (u 23), .ref (u 24), .ref (u 25), .ref (u 26), .ref (u 27), .ref (u 28)]), ((u 25), aI G 72 (u3)), ((u 4), ob 1 [.ref (u 30), .ref (u 31), .int 0, .int 0]), ((u 5), ob 1 [.ref (u 32), .ref (u 33), .int 0, .int 0]), ((u 6), ob 1 [.ref (u 34), .ref (u 35), .int 0, .int 0]), ((u 7), ob 1 [.ref (u 36), .ref (u 37), .int 0, .int 0]), ((u 8), ob 9 [.int 6, .int 3, .int 120, .ref (u 38), .ref (u 9), .ref (u 2), .int 0, .int 0, .int 0, .int 0, .ref (u 39), .ref (u 40), .int 0, .int 0, .ref (u 41), .ref (u 42), .ref (u 43), .ref (u 44)]), ((u 9), ob 4 [.int 0, .int 0, .int 0, .int 0, .int 0, .int 0, .int 0, .ref (u 45), .ref (u 46), .ref (u 47), .ref (u 48), .ref (u 49), .ref (u 50), .ref (u 51)]), ((u 10), ob 6 [.ref (u 38), .ref (u 52), .ref (u 53), .ref (u 2), .ref (u 12), .int (-1)]), ((u 53), aJ G 5 (fun _ => 0)), ((u 52), aJ G 8 (fun _ => 0)), ((u 12), ob 0 [.int (-1), .int 0, .int 0, .int 0, .int 0, .int 0, .int 0, .ref (u 54), .ref (u 55), .ref (u 56)]), ((u 55), aI G 8 (fun _ => 0)), ((u 56), ob 1 [.ref (u 57), .ref (u 58), .int 0, .int 0]), ((u 38), ob 7 [.ref (u 59), .ref (u 60), .ref (u 61), .ref (u 62), .ref (u 63), .int 0, .ref (u 64), .int 0, .ref (u 65), .ref (u 66), .int 0]), ((u 15), ob 1 [.ref (u 67), .ref (u 68), .int 0, .int 0]), ((u 16), ob 8 [.ref (u 69), .int 0]), (h0, ob 10 [.ref (u 0), .int 0, .int (-1), .ref (u 1), .ref (u 2), .ref (u 3), .ref (u 4), .ref (u 5), .ref (u 6), .ref (u 7), .int 0, .ref (u 8), .ref (u 9), .ref (u 10), .ref (u 11), .ref (u 12), .ref (u 13), .ref (u 14), .ref (u 15), .ref (u 16)]), ((u 0), aI G 800 (fun _ => 0)), ((u 1), ob 3 [.ref (u 0), .int 0, .int 0, .int (-1), .ref (u 3), .ref (u 29), .int 0])]) rfl dX11_program_23 (fun H locs hw => ?_)
  refine lv_aload_n hx hb dX11_program_26 rfl (lv_at hl 0 rfl) ?_
  refine r_get cx hw inX11 (ci := 10) rfl 19 rfl 2 (by decide) fl_X11_17 rfl dX11_program_27 ?_
  refine lv_iconst (v := (-1)) hx hb dX11_program_30 (by decide) ?_
  refine lv_icmp_eq (tgt := 36) hx hb dX11_program_31 (by decide) (fun _ => ?_) (fun c9 => absurd (by decide) c9)
  refine lv_aload_n hx hb dX11_program_36 rfl (lv_at hl 0 rfl) ?_
  refine r_get cx hw inX11 (ci := 10) rfl 19 rfl 4 (by decide) fl_X11_23 rfl dX11_program_37 ?_
  refine lv_astore_n (lv' := [(1, .ref (u 2)), (0, .ref h0)]) hx hb dX11_program_40 rfl hl (by decide) rfl (fun ls hl => ?_)
  refine lv_aload_n hx hb dX11_program_41 rfl (lv_at hl 1 rfl) ?_
  refine lv_aload_n hx hb dX11_program_42 rfl (lv_at hl 1 rfl) ?_
  refine r_get cx hw inX11 (ci := 10) rfl 19 rfl 5 (by decide) fl_X11_27 rfl dX11_program_43 ?_
  refine r_put cx hw inX11 (ci := 10) rfl tyX11_ok nmX11 19 rfl 4 (by decide) fl_X11_23 rfl rfl rfl (Nat.le_of_ble_eq_true rfl) (ws' := [((u 2), ob 2 [.int 0, .int 0, .int 0, .ref (u 17), .ref (u 18), .ref (u 19), .ref (u 20), .ref (u 21), .ref (u 22)]), ((u 19), aI G 72 (fl_fill (-1) 0 72)), ((u 3), ob 2 [.int 0, .int 0, .int 0, .ref (u 23), .ref (u 24), .ref (u 25), .ref (u 26), .ref (u 27), .ref (u 28)]), ((u 25), aI G 72 (u3)), ((u 4), ob 1 [.ref (u 30), .ref (u 31), .int 0, .int 0]), ((u 5), ob 1 [.ref (u 32), .ref (u 33), .int 0, .int 0]), ((u 6), ob 1 [.ref (u 34), .ref (u 35), .int 0, .int 0]), ((u 7), ob 1 [.ref (u 36), .ref (u 37), .int 0, .int 0]), ((u 8), ob 9 [.int 6, .int 3, .int 120, .ref (u 38), .ref (u 9), .ref (u 2), .int 0, .int 0, .int 0, .int 0, .ref (u 39), .ref (u 40), .int 0, .int 0, .ref (u 41), .ref (u 42), .ref (u 43), .ref (u 44)]), ((u 9), ob 4 [.int 0, .int 0, .int 0, .int 0, .int 0, .int 0, .int 0, .ref (u 45), .ref (u 46), .ref (u 47), .ref (u 48), .ref (u 49), .ref (u 50), .ref (u 51)]), ((u 10), ob 6 [.ref (u 38), .ref (u 52), .ref (u 53), .ref (u 2), .ref (u 12), .int (-1)]), ((u 53), aJ G 5 (fun _ => 0)), ((u 52), aJ G 8 (fun _ => 0)), ((u 12), ob 0 [.int (-1), .int 0, .int 0, .int 0, .int 0, .int 0, .int 0, .ref (u 54), .ref (u 55), .ref (u 56)]), ((u 55), aI G 8 (fun _ => 0)), ((u 56), ob 1 [.ref (u 57), .ref (u 58), .int 0, .int 0]), ((u 38), ob 7 [.ref (u 59), .ref (u 60), .ref (u 61), .ref (u 62), .ref (u 63), .int 0, .ref (u 64), .int 0, .ref (u 65), .ref (u 66), .int 0]), ((u 15), ob 1 [.ref (u 67), .ref (u 68), .int 0, .int 0]), ((u 16), ob 8 [.ref (u 69), .int 0]), (h0, ob 10 [.ref (u 0), .int 0, .int (-1), .ref (u 1), .ref (u 3), .ref (u 3), .ref (u 4), .ref (u 5), .ref (u 6), .ref (u 7), .int 0, .ref (u 8), .ref (u 9), .ref (u 10), .ref (u 11), .ref (u 12), .ref (u 13), .ref (u 14), .ref (u 15), .ref (u 16)]), ((u 0), aI G 800 (fun _ => 0)), ((u 1), ob 3 [.ref (u 0), .int 0, .int 0, .int (-1), .ref (u 3), .ref (u 29), .int 0])]) rfl dX11_program_46 (fun H locs hw => ?_)
  refine lv_aload_n hx hb dX11_program_49 rfl (lv_at hl 1 rfl) ?_
  refine lv_aload_n hx hb dX11_program_50 rfl (lv_at hl 0 rfl) ?_
  refine r_put cx hw inX11 (ci := 10) rfl tyX11_ok nmX11 19 rfl 5 (by decide) fl_X11_27 rfl rfl rfl (Nat.le_of_ble_eq_true rfl) (ws' := [((u 2), ob 2 [.int 0, .int 0, .int 0, .ref (u 17), .ref (u 18), .ref (u 19), .ref (u 20), .ref (u 21), .ref (u 22)]), ((u 19), aI G 72 (fl_fill (-1) 0 72)), ((u 3), ob 2 [.int 0, .int 0, .int 0, .ref (u 23), .ref (u 24), .ref (u 25), .ref (u 26), .ref (u 27), .ref (u 28)]), ((u 25), aI G 72 (u3)), ((u 4), ob 1 [.ref (u 30), .ref (u 31), .int 0, .int 0]), ((u 5), ob 1 [.ref (u 32), .ref (u 33), .int 0, .int 0]), ((u 6), ob 1 [.ref (u 34), .ref (u 35), .int 0, .int 0]), ((u 7), ob 1 [.ref (u 36), .ref (u 37), .int 0, .int 0]), ((u 8), ob 9 [.int 6, .int 3, .int 120, .ref (u 38), .ref (u 9), .ref (u 2), .int 0, .int 0, .int 0, .int 0, .ref (u 39), .ref (u 40), .int 0, .int 0, .ref (u 41), .ref (u 42), .ref (u 43), .ref (u 44)]), ((u 9), ob 4 [.int 0, .int 0, .int 0, .int 0, .int 0, .int 0, .int 0, .ref (u 45), .ref (u 46), .ref (u 47), .ref (u 48), .ref (u 49), .ref (u 50), .ref (u 51)]), ((u 10), ob 6 [.ref (u 38), .ref (u 52), .ref (u 53), .ref (u 2), .ref (u 12), .int (-1)]), ((u 53), aJ G 5 (fun _ => 0)), ((u 52), aJ G 8 (fun _ => 0)), ((u 12), ob 0 [.int (-1), .int 0, .int 0, .int 0, .int 0, .int 0, .int 0, .ref (u 54), .ref (u 55), .ref (u 56)]), ((u 55), aI G 8 (fun _ => 0)), ((u 56), ob 1 [.ref (u 57), .ref (u 58), .int 0, .int 0]), ((u 38), ob 7 [.ref (u 59), .ref (u 60), .ref (u 61), .ref (u 62), .ref (u 63), .int 0, .ref (u 64), .int 0, .ref (u 65), .ref (u 66), .int 0]), ((u 15), ob 1 [.ref (u 67), .ref (u 68), .int 0, .int 0]), ((u 16), ob 8 [.ref (u 69), .int 0]), (h0, ob 10 [.ref (u 0), .int 0, .int (-1), .ref (u 1), .ref (u 3), .ref (u 2), .ref (u 4), .ref (u 5), .ref (u 6), .ref (u 7), .int 0, .ref (u 8), .ref (u 9), .ref (u 10), .ref (u 11), .ref (u 12), .ref (u 13), .ref (u 14), .ref (u 15), .ref (u 16)]), ((u 0), aI G 800 (fun _ => 0)), ((u 1), ob 3 [.ref (u 0), .int 0, .int 0, .int (-1), .ref (u 3), .ref (u 29), .int 0])]) rfl dX11_program_51 (fun H locs hw => ?_)
  refine lv_aload_n hx hb dX11_program_54 rfl (lv_at hl 1 rfl) ?_
  refine r_get cx hw inX11 (ci := 10) rfl 19 rfl 12 (by decide) fl_X11_67 rfl dX11_program_55 ?_
  refine r_callVV (As := []) (rest := []) (wr := [((u 2), ob 2 [.int 0, .int 0, .int 0, .ref (u 17), .ref (u 18), .ref (u 19), .ref (u 20), .ref (u 21), .ref (u 22)]), ((u 19), aI G 72 (fl_fill (-1) 0 72)), ((u 3), ob 2 [.int 0, .int 0, .int 0, .ref (u 23), .ref (u 24), .ref (u 25), .ref (u 26), .ref (u 27), .ref (u 28)]), ((u 25), aI G 72 (u3)), ((u 4), ob 1 [.ref (u 30), .ref (u 31), .int 0, .int 0]), ((u 5), ob 1 [.ref (u 32), .ref (u 33), .int 0, .int 0]), ((u 6), ob 1 [.ref (u 34), .ref (u 35), .int 0, .int 0]), ((u 7), ob 1 [.ref (u 36), .ref (u 37), .int 0, .int 0]), ((u 8), ob 9 [.int 6, .int 3, .int 120, .ref (u 38), .ref (u 9), .ref (u 2), .int 0, .int 0, .int 0, .int 0, .ref (u 39), .ref (u 40), .int 0, .int 0, .ref (u 41), .ref (u 42), .ref (u 43), .ref (u 44)]), ((u 10), ob 6 [.ref (u 38), .ref (u 52), .ref (u 53), .ref (u 2), .ref (u 12), .int (-1)]), ((u 53), aJ G 5 (fun _ => 0)), ((u 52), aJ G 8 (fun _ => 0)), ((u 12), ob 0 [.int (-1), .int 0, .int 0, .int 0, .int 0, .int 0, .int 0, .ref (u 54), .ref (u 55), .ref (u 56)]), ((u 55), aI G 8 (fun _ => 0)), ((u 56), ob 1 [.ref (u 57), .ref (u 58), .int 0, .int 0]), ((u 38), ob 7 [.ref (u 59), .ref (u 60), .ref (u 61), .ref (u 62), .ref (u 63), .int 0, .ref (u 64), .int 0, .ref (u 65), .ref (u 66), .int 0]), ((u 15), ob 1 [.ref (u 67), .ref (u 68), .int 0, .int 0]), ((u 16), ob 8 [.ref (u 69), .int 0]), (h0, ob 10 [.ref (u 0), .int 0, .int (-1), .ref (u 1), .ref (u 3), .ref (u 2), .ref (u 4), .ref (u 5), .ref (u 6), .ref (u 7), .int 0, .ref (u 8), .ref (u 9), .ref (u 10), .ref (u 11), .ref (u 12), .ref (u 13), .ref (u 14), .ref (u 15), .ref (u 16)]), ((u 0), aI G 800 (fun _ => 0)), ((u 1), ob 3 [.ref (u 0), .int 0, .int 0, .int (-1), .ref (u 3), .ref (u 29), .int 0])]) cx hw hA (a_X5_clear_15 l G (u 9) (u 45) (u 46) (u 47) (u 48) (u 49) (u 50) (u 51)) [9] [0, 1, 2, 3, 4, 5, 6, 7, 8, 10, 11, 12, 13, 14, 15, 16, 17, 18, 19, 20, 21] rfl rfl rfl rfl rfl 9 rfl (ci := 4) rfl ml_X11_135 im_X5_clear se_X5_clear in_X5 co_X5_clear rfl hd_X5_clear rfl ⟨Nat.le_of_ble_eq_true rfl, Nat.le_of_ble_eq_true rfl⟩ hl.1 rfl (Nat.le_of_ble_eq_true rfl) dX11_program_58 ⟨Nat.le_of_ble_eq_true rfl, Nat.le_of_ble_eq_true rfl⟩ (fun u7 H locs hr8 hw => ?_)
  have hw : Wd G A [((u 2), ob 2 [.int 0, .int 0, .int 0, .ref (u 17), .ref (u 18), .ref (u 19), .ref (u 20), .ref (u 21), .ref (u 22)]), ((u 19), aI G 72 (fl_fill (-1) 0 72)), ((u 3), ob 2 [.int 0, .int 0, .int 0, .ref (u 23), .ref (u 24), .ref (u 25), .ref (u 26), .ref (u 27), .ref (u 28)]), ((u 25), aI G 72 (u3)), ((u 4), ob 1 [.ref (u 30), .ref (u 31), .int 0, .int 0]), ((u 5), ob 1 [.ref (u 32), .ref (u 33), .int 0, .int 0]), ((u 6), ob 1 [.ref (u 34), .ref (u 35), .int 0, .int 0]), ((u 7), ob 1 [.ref (u 36), .ref (u 37), .int 0, .int 0]), ((u 8), ob 9 [.int 6, .int 3, .int 120, .ref (u 38), .ref (u 9), .ref (u 2), .int 0, .int 0, .int 0, .int 0, .ref (u 39), .ref (u 40), .int 0, .int 0, .ref (u 41), .ref (u 42), .ref (u 43), .ref (u 44)]), ((u 10), ob 6 [.ref (u 38), .ref (u 52), .ref (u 53), .ref (u 2), .ref (u 12), .int (-1)]), ((u 53), aJ G 5 (fun _ => 0)), ((u 52), aJ G 8 (fun _ => 0)), ((u 12), ob 0 [.int (-1), .int 0, .int 0, .int 0, .int 0, .int 0, .int 0, .ref (u 54), .ref (u 55), .ref (u 56)]), ((u 55), aI G 8 (fun _ => 0)), ((u 56), ob 1 [.ref (u 57), .ref (u 58), .int 0, .int 0]), ((u 38), ob 7 [.ref (u 59), .ref (u 60), .ref (u 61), .ref (u 62), .ref (u 63), .int 0, .ref (u 64), .int 0, .ref (u 65), .ref (u 66), .int 0]), ((u 15), ob 1 [.ref (u 67), .ref (u 68), .int 0, .int 0]), ((u 16), ob 8 [.ref (u 69), .int 0]), (h0, ob 10 [.ref (u 0), .int 0, .int (-1), .ref (u 1), .ref (u 3), .ref (u 2), .ref (u 4), .ref (u 5), .ref (u 6), .ref (u 7), .int 0, .ref (u 8), .ref (u 9), .ref (u 10), .ref (u 11), .ref (u 12), .ref (u 13), .ref (u 14), .ref (u 15), .ref (u 16)]), ((u 0), aI G 800 (fun _ => 0)), ((u 1), ob 3 [.ref (u 0), .int 0, .int 0, .int (-1), .ref (u 3), .ref (u 29), .int 0]), ((u 9), ob 4 [.int 0, .int 0, .int 0, .int 0, .int 0, .int 0, .int 0, .ref (u 45), .ref (u 46), .ref (u 47), .ref (u 48), .ref (u 49), .ref (u 50), .ref (u 51)])] s.heap _ _ := hw
  refine lv_aload_n hx hb dX11_program_61 rfl (lv_at hl 1 rfl) ?_
  refine r_get cx hw inX11 (ci := 10) rfl 18 rfl 4 (by decide) fl_X11_23 rfl dX11_program_62 ?_
  refine r_get cx hw inX3 (ci := 2) rfl 2 rfl 0 (by decide) fl_X11_138 rfl dX11_program_65 ?_
  have hw : Wd G A [] s.heap _ _ := hw.sub [] rfl rfl
  exact r_iret cx hr hlk () rfl hw (Nat.le_of_ble_eq_true rfl) (Nat.le_of_ble_eq_true rfl) dX11_program_68

set_option maxHeartbeats 4000000 in
set_option maxRecDepth 100000 in
theorem a_X4_here_24 (l : Launch) (G : Gt) (a0 : Nat) (a1 : Nat) (a2 : Nat) (a3 : Nat) : Mt l yX4_here cX4_here 1 (some .int) ({ frames := 0, cells := 0, slots := 0, locals := 0 } : Room) G [.ref a0] [(a0, ob 3 [.ref a1, .int 0, .int 0, .int (-1), .ref a2, .ref a3, .int 0])] (qI G (fun (r : Int32) (w : Unit) => r = (-1)) (fun w => [(a0, ob 3 [.ref a1, .int 0, .int 0, .int (-1), .ref a2, .ref a3, .int 0])])) := by
  refine Mt.of (own := RX4) (cc := cX4_here) (by decide) rfl (Nat.le_of_ble_eq_true rfl) ?_
  intro p e s m below meth c A ls cx hr hlk hmn hA hl hw
  have hx := cx.1
  have hb := cx.2.1
  have hl : lv_has ls 1 [(0, .ref a0)] := hl
  refine lv_aload_n hx hb dX4_here_0 rfl (lv_at hl 0 rfl) ?_
  refine r_get cx hw inX4 (ci := 3) rfl 0 rfl 2 (by decide) fl_X4_19 rfl dX4_here_1 ?_
  refine lv_if_lt (tgt := 30) hx hb dX4_here_4 (by decide) (fun c9 => absurd c9 (by decide)) (fun _ => ?_)
  refine lv_aload_n hx hb dX4_here_7 rfl (lv_at hl 0 rfl) ?_
  refine r_get cx hw inX4 (ci := 3) rfl 0 rfl 2 (by decide) fl_X4_19 rfl dX4_here_8 ?_
  refine lv_aload_n hx hb dX4_here_11 rfl (lv_at hl 0 rfl) ?_
  refine r_get cx hw inX4 (ci := 3) rfl 0 rfl 1 (by decide) fl_X4_15 rfl dX4_here_12 ?_
  refine lv_icmp_ge (tgt := 30) hx hb dX4_here_15 (by decide) (fun _ => ?_) (fun c9 => absurd (by decide) c9)
  refine lv_iconst (v := (-1)) hx hb dX4_here_30 (by decide) ?_
  have hw : Wd G A [(a0, ob 3 [.ref a1, .int 0, .int 0, .int (-1), .ref a2, .ref a3, .int 0])] s.heap _ _ := hw.sub [0] rfl rfl
  exact r_iret cx hr hlk () rfl hw (Nat.le_of_ble_eq_true rfl) (Nat.le_of_ble_eq_true rfl) dX4_here_31

set_option maxHeartbeats 4000000 in
set_option maxRecDepth 100000 in
theorem a_X4_isLetter_25 (l : Launch) (G : Gt)  : Mt l yX4_isLetter cX4_isLetter 1 (some .boolean) ({ frames := 0, cells := 0, slots := 0, locals := 0 } : Room) G [.int (-1)] [] (qI G (fun (r : Int32) (w : Unit) => r = 0) (fun w => [])) := by
  refine Mt.of (own := RX4) (cc := cX4_isLetter) (by decide) rfl (Nat.le_of_ble_eq_true rfl) ?_
  intro p e s m below meth c A ls cx hr hlk hmn hA hl hw
  have hx := cx.1
  have hb := cx.2.1
  have hl : lv_has ls 1 [(0, .int (-1))] := hl
  refine lv_iload_n hx hb dX4_isLetter_0 rfl (lv_at hl 0 rfl) ?_
  refine lv_bipush (v := 97) hx hb dX4_isLetter_1 (by decide) ?_
  refine lv_icmp_lt (tgt := 16) hx hb dX4_isLetter_3 (by decide) (fun _ => ?_) (fun c9 => absurd (by decide) c9)
  refine lv_iconst (v := 0) hx hb dX4_isLetter_16 (by decide) ?_
  have hw : Wd G A [] s.heap _ _ := hw.sub [] rfl rfl
  exact r_zret cx hr rfl hlk () rfl hw (Nat.le_of_ble_eq_true rfl) (Nat.le_of_ble_eq_true rfl) dX4_isLetter_17

set_option maxHeartbeats 4000000 in
set_option maxRecDepth 100000 in
theorem a_X4_fail_26 (l : Launch) (G : Gt) (a0 : Nat) (a1 : Nat) (a2 : Nat) (a3 : Nat) : Mt l yX4_fail cX4_fail 2 none ({ frames := 0, cells := 0, slots := 0, locals := 0 } : Room) G [.ref a0, .int 0] [(a0, ob 3 [.ref a1, .int 0, .int 0, .int (-1), .ref a2, .ref a3, .int 0])] (qV G (fun (w : Unit) => True) (fun w => [(a0, ob 3 [.ref a1, .int 0, .int 0, .int 0, .ref a2, .ref a3, .int 0])])) := by
  refine Mt.of (own := RX4) (cc := cX4_fail) (by decide) rfl (Nat.le_of_ble_eq_true rfl) ?_
  intro p e s m below meth c A ls cx hr hlk hmn hA hl hw
  have hx := cx.1
  have hb := cx.2.1
  have hl : lv_has ls 2 [(0, .ref a0), (1, .int 0)] := hl
  refine lv_aload_n hx hb dX4_fail_0 rfl (lv_at hl 0 rfl) ?_
  refine r_get cx hw inX4 (ci := 3) rfl 0 rfl 3 (by decide) fl_X4_22 rfl dX4_fail_1 ?_
  refine lv_iconst (v := (-1)) hx hb dX4_fail_4 (by decide) ?_
  refine lv_icmp_ne (tgt := 13) hx hb dX4_fail_5 (by decide) (fun c9 => absurd (by decide) c9) (fun _ => ?_)
  refine lv_aload_n hx hb dX4_fail_8 rfl (lv_at hl 0 rfl) ?_
  refine lv_iload_n hx hb dX4_fail_9 rfl (lv_at hl 1 rfl) ?_
  refine r_put cx hw inX4 (ci := 3) rfl tyX4_ok nmX4 0 rfl 3 (by decide) fl_X4_22 rfl rfl rfl (Nat.le_of_ble_eq_true rfl) (ws' := [(a0, ob 3 [.ref a1, .int 0, .int 0, .int 0, .ref a2, .ref a3, .int 0])]) rfl dX4_fail_10 (fun H locs hw => ?_)
  have hw : Wd G A [(a0, ob 3 [.ref a1, .int 0, .int 0, .int 0, .ref a2, .ref a3, .int 0])] s.heap _ _ := hw.sub [0] rfl rfl
  exact r_vret cx hr hlk () trivial hw (Nat.le_of_ble_eq_true rfl) (Nat.le_of_ble_eq_true rfl) dX4_fail_13

set_option maxHeartbeats 4000000 in
set_option maxRecDepth 100000 in
theorem a_X4_readTask_27 (l : Launch) (G : Gt) (a0 : Nat) (a1 : Nat) (a2 : Nat) (a3 : Nat) (a4 : Nat) (a5 : Nat) (a6 : Nat) : Mt l yX4_readTask cX4_readTask 4 none ({ frames := 1, cells := 0, slots := 0, locals := 21 } : Room) G [.ref a0, .ref a1] [(a1, ob 1 [.ref a2, .ref a3, .int 0, .int 0]), (a0, ob 3 [.ref a4, .int 0, .int 0, .int (-1), .ref a5, .ref a6, .int 0])] (qV G (fun (w : Unit) => True) (fun w => [(a1, ob 1 [.ref a2, .ref a3, .int 0, .int 0]), (a0, ob 3 [.ref a4, .int 0, .int 0, .int 0, .ref a5, .ref a6, .int 0])])) := by
  refine Mt.of (own := RX4) (cc := cX4_readTask) (by decide) rfl (Nat.le_of_ble_eq_true rfl) ?_
  intro p e s m below meth c A ls cx hr hlk hmn hA hl hw
  have hx := cx.1
  have hb := cx.2.1
  have hl : lv_has ls 4 [(0, .ref a0), (1, .ref a1)] := hl
  refine lv_aload_n hx hb dX4_readTask_0 rfl (lv_at hl 1 rfl) ?_
  refine lv_iconst (v := 0) hx hb dX4_readTask_1 (by decide) ?_
  refine r_callVV (As := [.int 0]) (rest := []) (wr := [(a0, ob 3 [.ref a4, .int 0, .int 0, .int (-1), .ref a5, .ref a6, .int 0])]) cx hw hA (c_Pbegin l G a1 a2 a3 0 0 0) [0] [1] rfl rfl rfl rfl rfl 0 rfl (ci := 1) rfl ml_X4_169 im_X2_begin se_X2_begin in_X2 co_X2_begin rfl hd_X2_begin rfl ⟨Nat.le_of_ble_eq_true rfl, Nat.le_of_ble_eq_true rfl⟩ hl.1 rfl (Nat.le_of_ble_eq_true rfl) dX4_readTask_2 ⟨Nat.le_of_ble_eq_true rfl, Nat.le_of_ble_eq_true rfl⟩ (fun u1 H locs hr2 hw => ?_)
  have hw : Wd G A [(a0, ob 3 [.ref a4, .int 0, .int 0, .int (-1), .ref a5, .ref a6, .int 0]), (a1, ob 1 [.ref a2, .ref a3, .int 0, .int 0])] s.heap _ _ := hw
  refine lv_aload_n hx hb dX4_readTask_5 rfl (lv_at hl 0 rfl) ?_
  refine r_callVI (As := []) (rest := []) (wr := [(a1, ob 1 [.ref a2, .ref a3, .int 0, .int 0])]) cx hw hA (a_X4_here_24 l G a0 a4 a5 a6) [0] [1] rfl rfl rfl rfl rfl 0 rfl (ci := 3) rfl ml_X4_47 im_X4_here se_X4_here in_X4 co_X4_here rfl hd_X4_here rfl ⟨Nat.le_of_ble_eq_true rfl, Nat.le_of_ble_eq_true rfl⟩ hl.1 rfl (Nat.le_of_ble_eq_true rfl) dX4_readTask_6 ⟨Nat.le_of_ble_eq_true rfl, Nat.le_of_ble_eq_true rfl⟩ (fun r4 u3 H locs hr4 hw => ?_)
  have hw : Wd G A [(a1, ob 1 [.ref a2, .ref a3, .int 0, .int 0]), (a0, ob 3 [.ref a4, .int 0, .int 0, .int (-1), .ref a5, .ref a6, .int 0])] s.heap _ _ := hw
  subst hr4
  refine lv_istore_n (lv' := [(2, .int (-1)), (0, .ref a0), (1, .ref a1)]) hx hb dX4_readTask_9 rfl hl (by decide) rfl (fun ls hl => ?_)
  refine lv_iload_n hx hb dX4_readTask_10 rfl (lv_at hl 0 rfl) ?_
  refine r_callS0I (As := [.int (-1)]) (rest := []) cx hw hA (a_X4_isLetter_25 l G ) ml_X4_67 st_X4_isLetter in_X4 co_X4_isLetter hd_X4_isLetter rfl ⟨Nat.le_of_ble_eq_true rfl, Nat.le_of_ble_eq_true rfl⟩ hl.1 rfl (Nat.le_of_ble_eq_true rfl) dX4_readTask_11 ⟨Nat.le_of_ble_eq_true rfl, Nat.le_of_ble_eq_true rfl⟩ (fun r6 H locs hr6 hw => ?_)
  subst hr6
  refine lv_if_ne (tgt := 26) hx hb dX4_readTask_14 (by decide) (fun c9 => absurd (by decide) c9) (fun _ => ?_)
  refine lv_aload_n hx hb dX4_readTask_17 rfl (lv_at hl 1 rfl) ?_
  refine lv_aload_n hx hb dX4_readTask_18 rfl (lv_at hl 1 rfl) ?_
  refine r_get cx hw inX4 (ci := 3) rfl 1 rfl 2 (by decide) fl_X4_19 rfl dX4_readTask_19 ?_
  refine r_callVV (As := [.int 0]) (rest := []) (wr := [(a1, ob 1 [.ref a2, .ref a3, .int 0, .int 0])]) cx hw hA (a_X4_fail_26 l G a0 a4 a5 a6) [1] [0] rfl rfl rfl rfl rfl 1 rfl (ci := 3) rfl ml_X4_51 im_X4_fail se_X4_fail in_X4 co_X4_fail rfl hd_X4_fail rfl ⟨Nat.le_of_ble_eq_true rfl, Nat.le_of_ble_eq_true rfl⟩ hl.1 rfl (Nat.le_of_ble_eq_true rfl) dX4_readTask_22 ⟨Nat.le_of_ble_eq_true rfl, Nat.le_of_ble_eq_true rfl⟩ (fun u7 H locs hr8 hw => ?_)
  have hw : Wd G A [(a1, ob 1 [.ref a2, .ref a3, .int 0, .int 0]), (a0, ob 3 [.ref a4, .int 0, .int 0, .int 0, .ref a5, .ref a6, .int 0])] s.heap _ _ := hw
  have hw : Wd G A [(a1, ob 1 [.ref a2, .ref a3, .int 0, .int 0]), (a0, ob 3 [.ref a4, .int 0, .int 0, .int 0, .ref a5, .ref a6, .int 0])] s.heap _ _ := hw.sub [0, 1] rfl rfl
  exact r_vret cx hr hlk () trivial hw (Nat.le_of_ble_eq_true rfl) (Nat.le_of_ble_eq_true rfl) dX4_readTask_25

set_option maxHeartbeats 4000000 in
set_option maxRecDepth 100000 in
theorem a_X4_badPlace_28 (l : Launch) (G : Gt) (a0 : Nat) (a1 : Nat) (a2 : Nat) (a3 : Nat) : Mt l yX4_badPlace cX4_badPlace 1 (some .int) ({ frames := 0, cells := 0, slots := 0, locals := 0 } : Room) G [.ref a0] [(a0, ob 3 [.ref a1, .int 0, .int 0, .int 0, .ref a2, .ref a3, .int 0])] (qI G (fun (r : Int32) (w : Unit) => r = 0) (fun w => [(a0, ob 3 [.ref a1, .int 0, .int 0, .int 0, .ref a2, .ref a3, .int 0])])) := by
  refine Mt.of (own := RX4) (cc := cX4_badPlace) (by decide) rfl (Nat.le_of_ble_eq_true rfl) ?_
  intro p e s m below meth c A ls cx hr hlk hmn hA hl hw
  have hx := cx.1
  have hb := cx.2.1
  have hl : lv_has ls 1 [(0, .ref a0)] := hl
  refine lv_aload_n hx hb dX4_badPlace_0 rfl (lv_at hl 0 rfl) ?_
  refine r_get cx hw inX4 (ci := 3) rfl 0 rfl 3 (by decide) fl_X4_22 rfl dX4_badPlace_1 ?_
  have hw : Wd G A [(a0, ob 3 [.ref a1, .int 0, .int 0, .int 0, .ref a2, .ref a3, .int 0])] s.heap _ _ := hw.sub [0] rfl rfl
  exact r_iret cx hr hlk () rfl hw (Nat.le_of_ble_eq_true rfl) (Nat.le_of_ble_eq_true rfl) dX4_badPlace_4

set_option maxHeartbeats 4000000 in
set_option maxRecDepth 100000 in
theorem xa_task (l : Launch) (G : Gt) (h0 : Nat) (u : Nat → Nat) : Mt l yX11_task cX11_task 2 (some .int) ({ frames := 3, cells := 0, slots := 0, locals := 56 } : Room) G [.ref h0] [(h0, ob 10 [.ref (u 0), .int 0, .int (-1), .ref (u 1), .ref (u 2), .ref (u 3), .ref (u 4), .ref (u 5), .ref (u 6), .ref (u 7), .int 0, .ref (u 8), .ref (u 9), .ref (u 10), .ref (u 11), .ref (u 12), .ref (u 13), .ref (u 14), .ref (u 15), .ref (u 16)]), ((u 0), aI G 800 (fun _ => 0)), ((u 1), ob 3 [.ref (u 0), .int 0, .int 0, .int (-1), .ref (u 3), .ref (u 29), .int 0]), ((u 5), ob 1 [.ref (u 32), .ref (u 33), .int 0, .int 0])] (qI G (fun (r : Int32) (w : Unit) => r = (-1)) (fun w => [])) := by
  refine Mt.of (own := RX11) (cc := cX11_task) (by decide) rfl (Nat.le_of_ble_eq_true rfl) ?_
  intro p e s m below meth c A ls cx hr hlk hmn hA hl hw
  have hx := cx.1
  have hb := cx.2.1
  have hl : lv_has ls 2 [(0, .ref h0)] := hl
  refine lv_aload_n hx hb dX11_task_0 rfl (lv_at hl 0 rfl) ?_
  refine r_callVV (As := []) (rest := []) (wr := [((u 5), ob 1 [.ref (u 32), .ref (u 33), .int 0, .int 0])]) cx hw hA (a_X11_takeTape_8 l G h0 (u 0) (u 1) (u 2) (u 3) (u 4) (u 5) (u 6) (u 7) (u 8) (u 9) (u 10) (u 11) (u 12) (u 13) (u 14) (u 15) (u 16) (u 29)) [0, 1, 2] [3] rfl rfl rfl rfl rfl 0 rfl (ci := 10) rfl ml_X11_124 im_X11_takeTape se_X11_takeTape in_X11 co_X11_takeTape rfl hd_X11_takeTape rfl ⟨Nat.le_of_ble_eq_true rfl, Nat.le_of_ble_eq_true rfl⟩ hl.1 rfl (Nat.le_of_ble_eq_true rfl) dX11_task_1 ⟨Nat.le_of_ble_eq_true rfl, Nat.le_of_ble_eq_true rfl⟩ (fun u1 H locs hr2 hw => ?_)
  have hw : Wd G A [((u 5), ob 1 [.ref (u 32), .ref (u 33), .int 0, .int 0]), (h0, ob 10 [.ref (u 0), .int 0, .int (-1), .ref (u 1), .ref (u 2), .ref (u 3), .ref (u 4), .ref (u 5), .ref (u 6), .ref (u 7), .int 0, .ref (u 8), .ref (u 9), .ref (u 10), .ref (u 11), .ref (u 12), .ref (u 13), .ref (u 14), .ref (u 15), .ref (u 16)]), ((u 0), aI G 800 (fun _ => 0)), ((u 1), ob 3 [.ref (u 0), .int 0, .int 0, .int (-1), .ref (u 3), .ref (u 29), .int 0])] s.heap _ _ := hw
  refine lv_aload_n hx hb dX11_task_4 rfl (lv_at hl 0 rfl) ?_
  refine r_get cx hw inX11 (ci := 10) rfl 1 rfl 3 (by decide) fl_X11_35 rfl dX11_task_5 ?_
  refine lv_aload_n hx hb dX11_task_8 rfl (lv_at hl 0 rfl) ?_
  refine r_get cx hw inX11 (ci := 10) rfl 1 rfl 7 (by decide) fl_X11_48 rfl dX11_task_9 ?_
  refine r_callVV (As := [.ref (u 5)]) (rest := []) (wr := [(h0, ob 10 [.ref (u 0), .int 0, .int (-1), .ref (u 1), .ref (u 2), .ref (u 3), .ref (u 4), .ref (u 5), .ref (u 6), .ref (u 7), .int 0, .ref (u 8), .ref (u 9), .ref (u 10), .ref (u 11), .ref (u 12), .ref (u 13), .ref (u 14), .ref (u 15), .ref (u 16)]), ((u 0), aI G 800 (fun _ => 0))]) cx hw hA (a_X4_readTask_27 l G (u 1) (u 5) (u 32) (u 33) (u 0) (u 3) (u 29)) [0, 3] [1, 2] rfl rfl rfl rfl rfl 3 rfl (ci := 3) rfl ml_X11_141 im_X4_readTask se_X4_readTask in_X4 co_X4_readTask rfl hd_X4_readTask rfl ⟨Nat.le_of_ble_eq_true rfl, Nat.le_of_ble_eq_true rfl⟩ hl.1 rfl (Nat.le_of_ble_eq_true rfl) dX11_task_12 ⟨Nat.le_of_ble_eq_true rfl, Nat.le_of_ble_eq_true rfl⟩ (fun u3 H locs hr4 hw => ?_)
  have hw : Wd G A [(h0, ob 10 [.ref (u 0), .int 0, .int (-1), .ref (u 1), .ref (u 2), .ref (u 3), .ref (u 4), .ref (u 5), .ref (u 6), .ref (u 7), .int 0, .ref (u 8), .ref (u 9), .ref (u 10), .ref (u 11), .ref (u 12), .ref (u 13), .ref (u 14), .ref (u 15), .ref (u 16)]), ((u 0), aI G 800 (fun _ => 0)), ((u 5), ob 1 [.ref (u 32), .ref (u 33), .int 0, .int 0]), ((u 1), ob 3 [.ref (u 0), .int 0, .int 0, .int 0, .ref (u 3), .ref (u 29), .int 0])] s.heap _ _ := hw
  refine lv_aload_n hx hb dX11_task_15 rfl (lv_at hl 0 rfl) ?_
  refine lv_aload_n hx hb dX11_task_16 rfl (lv_at hl 0 rfl) ?_
  refine r_get cx hw inX11 (ci := 10) rfl 0 rfl 3 (by decide) fl_X11_35 rfl dX11_task_17 ?_
  refine r_callVI (As := []) (rest := [.ref h0]) (wr := [(h0, ob 10 [.ref (u 0), .int 0, .int (-1), .ref (u 1), .ref (u 2), .ref (u 3), .ref (u 4), .ref (u 5), .ref (u 6), .ref (u 7), .int 0, .ref (u 8), .ref (u 9), .ref (u 10), .ref (u 11), .ref (u 12), .ref (u 13), .ref (u 14), .ref (u 15), .ref (u 16)]), ((u 0), aI G 800 (fun _ => 0)), ((u 5), ob 1 [.ref (u 32), .ref (u 33), .int 0, .int 0])]) cx hw hA (a_X4_badPlace_28 l G (u 1) (u 0) (u 3) (u 29)) [3] [0, 1, 2] rfl rfl rfl rfl rfl 3 rfl (ci := 3) rfl ml_X11_131 im_X4_badPlace se_X4_badPlace in_X4 co_X4_badPlace rfl hd_X4_badPlace rfl ⟨Nat.le_of_ble_eq_true rfl, Nat.le_of_ble_eq_true rfl⟩ hl.1 rfl (Nat.le_of_ble_eq_true rfl) dX11_task_20 ⟨Nat.le_of_ble_eq_true rfl, Nat.le_of_ble_eq_true rfl⟩ (fun r6 u5 H locs hr6 hw => ?_)
  have hw : Wd G A [(h0, ob 10 [.ref (u 0), .int 0, .int (-1), .ref (u 1), .ref (u 2), .ref (u 3), .ref (u 4), .ref (u 5), .ref (u 6), .ref (u 7), .int 0, .ref (u 8), .ref (u 9), .ref (u 10), .ref (u 11), .ref (u 12), .ref (u 13), .ref (u 14), .ref (u 15), .ref (u 16)]), ((u 0), aI G 800 (fun _ => 0)), ((u 5), ob 1 [.ref (u 32), .ref (u 33), .int 0, .int 0]), ((u 1), ob 3 [.ref (u 0), .int 0, .int 0, .int 0, .ref (u 3), .ref (u 29), .int 0])] s.heap _ _ := hw
  subst hr6
  refine r_put cx hw inX11 (ci := 10) rfl tyX11_ok nmX11 0 rfl 2 (by decide) fl_X11_17 rfl rfl rfl (Nat.le_of_ble_eq_true rfl) (ws' := [(h0, ob 10 [.ref (u 0), .int 0, .int 0, .ref (u 1), .ref (u 2), .ref (u 3), .ref (u 4), .ref (u 5), .ref (u 6), .ref (u 7), .int 0, .ref (u 8), .ref (u 9), .ref (u 10), .ref (u 11), .ref (u 12), .ref (u 13), .ref (u 14), .ref (u 15), .ref (u 16)]), ((u 0), aI G 800 (fun _ => 0)), ((u 5), ob 1 [.ref (u 32), .ref (u 33), .int 0, .int 0]), ((u 1), ob 3 [.ref (u 0), .int 0, .int 0, .int 0, .ref (u 3), .ref (u 29), .int 0])]) rfl dX11_task_23 (fun H locs hw => ?_)
  refine lv_aload_n hx hb dX11_task_26 rfl (lv_at hl 0 rfl) ?_
  refine r_get cx hw inX11 (ci := 10) rfl 0 rfl 2 (by decide) fl_X11_17 rfl dX11_task_27 ?_
  refine lv_iconst (v := (-1)) hx hb dX11_task_30 (by decide) ?_
  refine lv_icmp_eq (tgt := 36) hx hb dX11_task_31 (by decide) (fun c9 => absurd c9 (by decide)) (fun _ => ?_)
  refine lv_iconst (v := (-1)) hx hb dX11_task_34 (by decide) ?_
  have hw : Wd G A [] s.heap _ _ := hw.sub [] rfl rfl
  exact r_iret cx hr hlk () rfl hw (Nat.le_of_ble_eq_true rfl) (Nat.le_of_ble_eq_true rfl) dX11_task_35

set_option maxHeartbeats 4000000 in
set_option maxRecDepth 100000 in
theorem a_X4_takeEnd_29 (l : Launch) (G : Gt) (a0 : Nat) (a1 : Nat) (a2 : Nat) (a3 : Nat) : Mt l yX4_takeEnd cX4_takeEnd 1 none ({ frames := 1, cells := 0, slots := 0, locals := 20 } : Room) G [.ref a0] [(a0, ob 3 [.ref a1, .int 0, .int 0, .int (-1), .ref a2, .ref a3, .int 0])] (qV G (fun (w : Unit) => True) (fun w => [(a0, ob 3 [.ref a1, .int 0, .int 0, .int (-1), .ref a2, .ref a3, .int 0])])) := by
  refine Mt.of (own := RX4) (cc := cX4_takeEnd) (by decide) rfl (Nat.le_of_ble_eq_true rfl) ?_
  intro p e s m below meth c A ls cx hr hlk hmn hA hl hw
  have hx := cx.1
  have hb := cx.2.1
  have hl : lv_has ls 1 [(0, .ref a0)] := hl
  refine lv_aload_n hx hb dX4_takeEnd_0 rfl (lv_at hl 0 rfl) ?_
  refine r_callVI (As := []) (rest := []) (wr := []) cx hw hA (a_X4_isWell_10 l G a0 a1 a2 a3) [0] [] rfl rfl rfl rfl rfl 0 rfl (ci := 3) rfl ml_X4_43 im_X4_isWell se_X4_isWell in_X4 co_X4_isWell rfl hd_X4_isWell rfl ⟨Nat.le_of_ble_eq_true rfl, Nat.le_of_ble_eq_true rfl⟩ hl.1 rfl (Nat.le_of_ble_eq_true rfl) dX4_takeEnd_1 ⟨Nat.le_of_ble_eq_true rfl, Nat.le_of_ble_eq_true rfl⟩ (fun r2 u1 H locs hr2 hw => ?_)
  have hw : Wd G A [(a0, ob 3 [.ref a1, .int 0, .int 0, .int (-1), .ref a2, .ref a3, .int 0])] s.heap _ _ := hw
  subst hr2
  refine lv_if_eq (tgt := 26) hx hb dX4_takeEnd_4 (by decide) (fun c9 => absurd c9 (by decide)) (fun _ => ?_)
  refine lv_aload_n hx hb dX4_takeEnd_7 rfl (lv_at hl 0 rfl) ?_
  refine r_get cx hw inX4 (ci := 3) rfl 0 rfl 2 (by decide) fl_X4_19 rfl dX4_takeEnd_8 ?_
  refine lv_aload_n hx hb dX4_takeEnd_11 rfl (lv_at hl 0 rfl) ?_
  refine r_get cx hw inX4 (ci := 3) rfl 0 rfl 1 (by decide) fl_X4_15 rfl dX4_takeEnd_12 ?_
  refine lv_icmp_ge (tgt := 26) hx hb dX4_takeEnd_15 (by decide) (fun _ => ?_) (fun c9 => absurd (by decide) c9)
  have hw : Wd G A [(a0, ob 3 [.ref a1, .int 0, .int 0, .int (-1), .ref a2, .ref a3, .int 0])] s.heap _ _ := hw.sub [0] rfl rfl
  exact r_vret cx hr hlk () trivial hw (Nat.le_of_ble_eq_true rfl) (Nat.le_of_ble_eq_true rfl) dX4_takeEnd_26

set_option maxHeartbeats 4000000 in
set_option maxRecDepth 100000 in
theorem a_X4_readValues_30 (l : Launch) (G : Gt) (a0 : Nat) (a1 : Nat) (a2 : Nat) (a3 : Nat) (a4 : Nat) (a5 : Nat) (a6 : Nat) : Mt l yX4_readValues cX4_readValues 4 none ({ frames := 2, cells := 0, slots := 0, locals := 40 } : Room) G [.ref a0, .ref a1, .int 0] [(a1, ob 1 [.ref a2, .ref a3, .int 0, .int 0]), (a0, ob 3 [.ref a4, .int 0, .int 0, .int (-1), .ref a5, .ref a6, .int 0])] (qV G (fun (w : Unit) => True) (fun w => [(a1, ob 1 [.ref a2, .ref a3, .int 0, .int 0]), (a0, ob 3 [.ref a4, .int 0, .int 0, .int (-1), .ref a5, .ref a6, .int 0])])) := by
  refine Mt.of (own := RX4) (cc := cX4_readValues) (by decide) rfl (Nat.le_of_ble_eq_true rfl) ?_
  intro p e s m below meth c A ls cx hr hlk hmn hA hl hw
  have hx := cx.1
  have hb := cx.2.1
  have hl : lv_has ls 4 [(0, .ref a0), (1, .ref a1), (2, .int 0)] := hl
  refine lv_aload_n hx hb dX4_readValues_0 rfl (lv_at hl 1 rfl) ?_
  refine lv_iconst (v := 0) hx hb dX4_readValues_1 (by decide) ?_
  refine r_callVV (As := [.int 0]) (rest := []) (wr := [(a0, ob 3 [.ref a4, .int 0, .int 0, .int (-1), .ref a5, .ref a6, .int 0])]) cx hw hA (c_Pbegin l G a1 a2 a3 0 0 0) [0] [1] rfl rfl rfl rfl rfl 0 rfl (ci := 1) rfl ml_X4_169 im_X2_begin se_X2_begin in_X2 co_X2_begin rfl hd_X2_begin rfl ⟨Nat.le_of_ble_eq_true rfl, Nat.le_of_ble_eq_true rfl⟩ hl.1 rfl (Nat.le_of_ble_eq_true rfl) dX4_readValues_2 ⟨Nat.le_of_ble_eq_true rfl, Nat.le_of_ble_eq_true rfl⟩ (fun u1 H locs hr2 hw => ?_)
  have hw : Wd G A [(a0, ob 3 [.ref a4, .int 0, .int 0, .int (-1), .ref a5, .ref a6, .int 0]), (a1, ob 1 [.ref a2, .ref a3, .int 0, .int 0])] s.heap _ _ := hw
  refine lv_iconst (v := 0) hx hb dX4_readValues_5 (by decide) ?_
  refine lv_istore_n (lv' := [(3, .int 0), (0, .ref a0), (1, .ref a1), (2, .int 0)]) hx hb dX4_readValues_6 rfl hl (by decide) rfl (fun ls hl => ?_)
  refine lv_iload_n hx hb dX4_readValues_7 rfl (lv_at hl 0 rfl) ?_
  refine lv_iload_n hx hb dX4_readValues_8 rfl (lv_at hl 3 rfl) ?_
  refine lv_icmp_ge (tgt := 43) hx hb dX4_readValues_9 (by decide) (fun _ => ?_) (fun c9 => absurd (by decide) c9)
  refine lv_aload_n hx hb dX4_readValues_43 rfl (lv_at hl 1 rfl) ?_
  refine r_callVV (As := []) (rest := []) (wr := [(a1, ob 1 [.ref a2, .ref a3, .int 0, .int 0])]) cx hw hA (a_X4_takeEnd_29 l G a0 a4 a5 a6) [0] [1] rfl rfl rfl rfl rfl 0 rfl (ci := 3) rfl ml_X4_177 im_X4_takeEnd se_X4_takeEnd in_X4 co_X4_takeEnd rfl hd_X4_takeEnd rfl ⟨Nat.le_of_ble_eq_true rfl, Nat.le_of_ble_eq_true rfl⟩ hl.1 rfl (Nat.le_of_ble_eq_true rfl) dX4_readValues_44 ⟨Nat.le_of_ble_eq_true rfl, Nat.le_of_ble_eq_true rfl⟩ (fun u3 H locs hr4 hw => ?_)
  have hw : Wd G A [(a1, ob 1 [.ref a2, .ref a3, .int 0, .int 0]), (a0, ob 3 [.ref a4, .int 0, .int 0, .int (-1), .ref a5, .ref a6, .int 0])] s.heap _ _ := hw
  have hw : Wd G A [(a1, ob 1 [.ref a2, .ref a3, .int 0, .int 0]), (a0, ob 3 [.ref a4, .int 0, .int 0, .int (-1), .ref a5, .ref a6, .int 0])] s.heap _ _ := hw.sub [0, 1] rfl rfl
  exact r_vret cx hr hlk () trivial hw (Nat.le_of_ble_eq_true rfl) (Nat.le_of_ble_eq_true rfl) dX4_readValues_47

set_option maxHeartbeats 4000000 in
set_option maxRecDepth 100000 in
theorem xa_values (l : Launch) (G : Gt) (h0 : Nat) (u : Nat → Nat) : Mt l yX11_values cX11_values 3 (some .int) ({ frames := 3, cells := 0, slots := 0, locals := 63 } : Room) G [.ref h0] [(h0, ob 10 [.ref (u 0), .int 0, .int (-1), .ref (u 1), .ref (u 2), .ref (u 3), .ref (u 4), .ref (u 5), .ref (u 6), .ref (u 7), .int 0, .ref (u 8), .ref (u 9), .ref (u 10), .ref (u 11), .ref (u 12), .ref (u 13), .ref (u 14), .ref (u 15), .ref (u 16)]), ((u 0), aI G 800 (fun _ => 0)), ((u 1), ob 3 [.ref (u 0), .int 0, .int 0, .int (-1), .ref (u 3), .ref (u 29), .int 0]), ((u 4), ob 1 [.ref (u 30), .ref (u 31), .int 0, .int 0]), ((u 7), ob 1 [.ref (u 36), .ref (u 37), .int 0, .int 0])] (qI G (fun (r : Int32) (w : Unit) => r = 0) (fun w => [])) := by
  refine Mt.of (own := RX11) (cc := cX11_values) (by decide) rfl (Nat.le_of_ble_eq_true rfl) ?_
  intro p e s m below meth c A ls cx hr hlk hmn hA hl hw
  have hx := cx.1
  have hb := cx.2.1
  have hl : lv_has ls 3 [(0, .ref h0)] := hl
  refine lv_aload_n hx hb dX11_values_0 rfl (lv_at hl 0 rfl) ?_
  refine r_callVV (As := []) (rest := []) (wr := [((u 4), ob 1 [.ref (u 30), .ref (u 31), .int 0, .int 0]), ((u 7), ob 1 [.ref (u 36), .ref (u 37), .int 0, .int 0])]) cx hw hA (a_X11_takeTape_8 l G h0 (u 0) (u 1) (u 2) (u 3) (u 4) (u 5) (u 6) (u 7) (u 8) (u 9) (u 10) (u 11) (u 12) (u 13) (u 14) (u 15) (u 16) (u 29)) [0, 1, 2] [3, 4] rfl rfl rfl rfl rfl 0 rfl (ci := 10) rfl ml_X11_124 im_X11_takeTape se_X11_takeTape in_X11 co_X11_takeTape rfl hd_X11_takeTape rfl ⟨Nat.le_of_ble_eq_true rfl, Nat.le_of_ble_eq_true rfl⟩ hl.1 rfl (Nat.le_of_ble_eq_true rfl) dX11_values_1 ⟨Nat.le_of_ble_eq_true rfl, Nat.le_of_ble_eq_true rfl⟩ (fun u1 H locs hr2 hw => ?_)
  have hw : Wd G A [((u 4), ob 1 [.ref (u 30), .ref (u 31), .int 0, .int 0]), ((u 7), ob 1 [.ref (u 36), .ref (u 37), .int 0, .int 0]), (h0, ob 10 [.ref (u 0), .int 0, .int (-1), .ref (u 1), .ref (u 2), .ref (u 3), .ref (u 4), .ref (u 5), .ref (u 6), .ref (u 7), .int 0, .ref (u 8), .ref (u 9), .ref (u 10), .ref (u 11), .ref (u 12), .ref (u 13), .ref (u 14), .ref (u 15), .ref (u 16)]), ((u 0), aI G 800 (fun _ => 0)), ((u 1), ob 3 [.ref (u 0), .int 0, .int 0, .int (-1), .ref (u 3), .ref (u 29), .int 0])] s.heap _ _ := hw
  refine lv_aload_n hx hb dX11_values_4 rfl (lv_at hl 0 rfl) ?_
  refine r_get cx hw inX11 (ci := 10) rfl 2 rfl 6 (by decide) fl_X11_44 rfl dX11_values_5 ?_
  refine r_callVI (As := []) (rest := []) (wr := [((u 7), ob 1 [.ref (u 36), .ref (u 37), .int 0, .int 0]), (h0, ob 10 [.ref (u 0), .int 0, .int (-1), .ref (u 1), .ref (u 2), .ref (u 3), .ref (u 4), .ref (u 5), .ref (u 6), .ref (u 7), .int 0, .ref (u 8), .ref (u 9), .ref (u 10), .ref (u 11), .ref (u 12), .ref (u 13), .ref (u 14), .ref (u 15), .ref (u 16)]), ((u 0), aI G 800 (fun _ => 0)), ((u 1), ob 3 [.ref (u 0), .int 0, .int 0, .int (-1), .ref (u 3), .ref (u 29), .int 0])]) cx hw hA (a_X2_stars_1 l G (u 4) (u 30) (u 31)) [0] [1, 2, 3, 4] rfl rfl rfl rfl rfl 0 rfl (ci := 1) rfl ml_X11_148 im_X2_stars se_X2_stars in_X2 co_X2_stars rfl hd_X2_stars rfl ⟨Nat.le_of_ble_eq_true rfl, Nat.le_of_ble_eq_true rfl⟩ hl.1 rfl (Nat.le_of_ble_eq_true rfl) dX11_values_8 ⟨Nat.le_of_ble_eq_true rfl, Nat.le_of_ble_eq_true rfl⟩ (fun r4 u3 H locs hr4 hw => ?_)
  have hw : Wd G A [((u 7), ob 1 [.ref (u 36), .ref (u 37), .int 0, .int 0]), (h0, ob 10 [.ref (u 0), .int 0, .int (-1), .ref (u 1), .ref (u 2), .ref (u 3), .ref (u 4), .ref (u 5), .ref (u 6), .ref (u 7), .int 0, .ref (u 8), .ref (u 9), .ref (u 10), .ref (u 11), .ref (u 12), .ref (u 13), .ref (u 14), .ref (u 15), .ref (u 16)]), ((u 0), aI G 800 (fun _ => 0)), ((u 1), ob 3 [.ref (u 0), .int 0, .int 0, .int (-1), .ref (u 3), .ref (u 29), .int 0]), ((u 4), ob 1 [.ref (u 30), .ref (u 31), .int 0, .int 0])] s.heap _ _ := hw
  subst hr4
  refine lv_istore_n (lv' := [(1, .int 0), (0, .ref h0)]) hx hb dX11_values_11 rfl hl (by decide) rfl (fun ls hl => ?_)
  refine lv_aload_n hx hb dX11_values_12 rfl (lv_at hl 1 rfl) ?_
  refine r_get cx hw inX11 (ci := 10) rfl 1 rfl 3 (by decide) fl_X11_35 rfl dX11_values_13 ?_
  refine lv_aload_n hx hb dX11_values_16 rfl (lv_at hl 1 rfl) ?_
  refine r_get cx hw inX11 (ci := 10) rfl 1 rfl 9 (by decide) fl_X11_54 rfl dX11_values_17 ?_
  refine lv_iload_n hx hb dX11_values_20 rfl (lv_at hl 0 rfl) ?_
  refine r_callVV (As := [.ref (u 7), .int 0]) (rest := []) (wr := [(h0, ob 10 [.ref (u 0), .int 0, .int (-1), .ref (u 1), .ref (u 2), .ref (u 3), .ref (u 4), .ref (u 5), .ref (u 6), .ref (u 7), .int 0, .ref (u 8), .ref (u 9), .ref (u 10), .ref (u 11), .ref (u 12), .ref (u 13), .ref (u 14), .ref (u 15), .ref (u 16)]), ((u 0), aI G 800 (fun _ => 0)), ((u 4), ob 1 [.ref (u 30), .ref (u 31), .int 0, .int 0])]) cx hw hA (a_X4_readValues_30 l G (u 1) (u 7) (u 36) (u 37) (u 0) (u 3) (u 29)) [0, 3] [1, 2, 4] rfl rfl rfl rfl rfl 3 rfl (ci := 3) rfl ml_X11_151 im_X4_readValues se_X4_readValues in_X4 co_X4_readValues rfl hd_X4_readValues rfl ⟨Nat.le_of_ble_eq_true rfl, Nat.le_of_ble_eq_true rfl⟩ hl.1 rfl (Nat.le_of_ble_eq_true rfl) dX11_values_21 ⟨Nat.le_of_ble_eq_true rfl, Nat.le_of_ble_eq_true rfl⟩ (fun u5 H locs hr6 hw => ?_)
  have hw : Wd G A [(h0, ob 10 [.ref (u 0), .int 0, .int (-1), .ref (u 1), .ref (u 2), .ref (u 3), .ref (u 4), .ref (u 5), .ref (u 6), .ref (u 7), .int 0, .ref (u 8), .ref (u 9), .ref (u 10), .ref (u 11), .ref (u 12), .ref (u 13), .ref (u 14), .ref (u 15), .ref (u 16)]), ((u 0), aI G 800 (fun _ => 0)), ((u 4), ob 1 [.ref (u 30), .ref (u 31), .int 0, .int 0]), ((u 7), ob 1 [.ref (u 36), .ref (u 37), .int 0, .int 0]), ((u 1), ob 3 [.ref (u 0), .int 0, .int 0, .int (-1), .ref (u 3), .ref (u 29), .int 0])] s.heap _ _ := hw
  refine lv_aload_n hx hb dX11_values_24 rfl (lv_at hl 1 rfl) ?_
  refine lv_aload_n hx hb dX11_values_25 rfl (lv_at hl 1 rfl) ?_
  refine r_get cx hw inX11 (ci := 10) rfl 0 rfl 3 (by decide) fl_X11_35 rfl dX11_values_26 ?_
  refine r_callVI (As := []) (rest := [.ref h0]) (wr := [(h0, ob 10 [.ref (u 0), .int 0, .int (-1), .ref (u 1), .ref (u 2), .ref (u 3), .ref (u 4), .ref (u 5), .ref (u 6), .ref (u 7), .int 0, .ref (u 8), .ref (u 9), .ref (u 10), .ref (u 11), .ref (u 12), .ref (u 13), .ref (u 14), .ref (u 15), .ref (u 16)]), ((u 0), aI G 800 (fun _ => 0)), ((u 4), ob 1 [.ref (u 30), .ref (u 31), .int 0, .int 0]), ((u 7), ob 1 [.ref (u 36), .ref (u 37), .int 0, .int 0])]) cx hw hA (a_X4_badPlace_14 l G (u 1) (u 0) (u 3) (u 29)) [4] [0, 1, 2, 3] rfl rfl rfl rfl rfl 4 rfl (ci := 3) rfl ml_X11_131 im_X4_badPlace se_X4_badPlace in_X4 co_X4_badPlace rfl hd_X4_badPlace rfl ⟨Nat.le_of_ble_eq_true rfl, Nat.le_of_ble_eq_true rfl⟩ hl.1 rfl (Nat.le_of_ble_eq_true rfl) dX11_values_29 ⟨Nat.le_of_ble_eq_true rfl, Nat.le_of_ble_eq_true rfl⟩ (fun r8 u7 H locs hr8 hw => ?_)
  have hw : Wd G A [(h0, ob 10 [.ref (u 0), .int 0, .int (-1), .ref (u 1), .ref (u 2), .ref (u 3), .ref (u 4), .ref (u 5), .ref (u 6), .ref (u 7), .int 0, .ref (u 8), .ref (u 9), .ref (u 10), .ref (u 11), .ref (u 12), .ref (u 13), .ref (u 14), .ref (u 15), .ref (u 16)]), ((u 0), aI G 800 (fun _ => 0)), ((u 4), ob 1 [.ref (u 30), .ref (u 31), .int 0, .int 0]), ((u 7), ob 1 [.ref (u 36), .ref (u 37), .int 0, .int 0]), ((u 1), ob 3 [.ref (u 0), .int 0, .int 0, .int (-1), .ref (u 3), .ref (u 29), .int 0])] s.heap _ _ := hw
  subst hr8
  refine r_put cx hw inX11 (ci := 10) rfl tyX11_ok nmX11 0 rfl 2 (by decide) fl_X11_17 rfl rfl rfl (Nat.le_of_ble_eq_true rfl) (ws' := [(h0, ob 10 [.ref (u 0), .int 0, .int (-1), .ref (u 1), .ref (u 2), .ref (u 3), .ref (u 4), .ref (u 5), .ref (u 6), .ref (u 7), .int 0, .ref (u 8), .ref (u 9), .ref (u 10), .ref (u 11), .ref (u 12), .ref (u 13), .ref (u 14), .ref (u 15), .ref (u 16)]), ((u 0), aI G 800 (fun _ => 0)), ((u 4), ob 1 [.ref (u 30), .ref (u 31), .int 0, .int 0]), ((u 7), ob 1 [.ref (u 36), .ref (u 37), .int 0, .int 0]), ((u 1), ob 3 [.ref (u 0), .int 0, .int 0, .int (-1), .ref (u 3), .ref (u 29), .int 0])]) rfl dX11_values_32 (fun H locs hw => ?_)
  refine lv_aload_n hx hb dX11_values_35 rfl (lv_at hl 1 rfl) ?_
  refine r_get cx hw inX11 (ci := 10) rfl 0 rfl 2 (by decide) fl_X11_17 rfl dX11_values_36 ?_
  refine lv_iconst (v := (-1)) hx hb dX11_values_39 (by decide) ?_
  refine lv_icmp_eq (tgt := 45) hx hb dX11_values_40 (by decide) (fun _ => ?_) (fun c9 => absurd (by decide) c9)
  refine lv_aload_n hx hb dX11_values_45 rfl (lv_at hl 1 rfl) ?_
  refine r_get cx hw inX11 (ci := 10) rfl 0 rfl 8 (by decide) fl_X11_51 rfl dX11_values_46 ?_
  refine lv_astore_n (lv' := [(2, .ref (u 6)), (1, .int 0), (0, .ref h0)]) hx hb dX11_values_49 rfl hl (by decide) rfl (fun ls hl => ?_)
  refine lv_aload_n hx hb dX11_values_50 rfl (lv_at hl 2 rfl) ?_
  refine lv_aload_n hx hb dX11_values_51 rfl (lv_at hl 2 rfl) ?_
  refine r_get cx hw inX11 (ci := 10) rfl 0 rfl 9 (by decide) fl_X11_54 rfl dX11_values_52 ?_
  refine r_put cx hw inX11 (ci := 10) rfl tyX11_ok nmX11 0 rfl 8 (by decide) fl_X11_51 rfl rfl rfl (Nat.le_of_ble_eq_true rfl) (ws' := [(h0, ob 10 [.ref (u 0), .int 0, .int (-1), .ref (u 1), .ref (u 2), .ref (u 3), .ref (u 4), .ref (u 5), .ref (u 7), .ref (u 7), .int 0, .ref (u 8), .ref (u 9), .ref (u 10), .ref (u 11), .ref (u 12), .ref (u 13), .ref (u 14), .ref (u 15), .ref (u 16)]), ((u 0), aI G 800 (fun _ => 0)), ((u 4), ob 1 [.ref (u 30), .ref (u 31), .int 0, .int 0]), ((u 7), ob 1 [.ref (u 36), .ref (u 37), .int 0, .int 0]), ((u 1), ob 3 [.ref (u 0), .int 0, .int 0, .int (-1), .ref (u 3), .ref (u 29), .int 0])]) rfl dX11_values_55 (fun H locs hw => ?_)
  refine lv_aload_n hx hb dX11_values_58 rfl (lv_at hl 2 rfl) ?_
  refine lv_aload_n hx hb dX11_values_59 rfl (lv_at hl 0 rfl) ?_
  refine r_put cx hw inX11 (ci := 10) rfl tyX11_ok nmX11 0 rfl 9 (by decide) fl_X11_54 rfl rfl rfl (Nat.le_of_ble_eq_true rfl) (ws' := [(h0, ob 10 [.ref (u 0), .int 0, .int (-1), .ref (u 1), .ref (u 2), .ref (u 3), .ref (u 4), .ref (u 5), .ref (u 7), .ref (u 6), .int 0, .ref (u 8), .ref (u 9), .ref (u 10), .ref (u 11), .ref (u 12), .ref (u 13), .ref (u 14), .ref (u 15), .ref (u 16)]), ((u 0), aI G 800 (fun _ => 0)), ((u 4), ob 1 [.ref (u 30), .ref (u 31), .int 0, .int 0]), ((u 7), ob 1 [.ref (u 36), .ref (u 37), .int 0, .int 0]), ((u 1), ob 3 [.ref (u 0), .int 0, .int 0, .int (-1), .ref (u 3), .ref (u 29), .int 0])]) rfl dX11_values_60 (fun H locs hw => ?_)
  refine lv_aload_n hx hb dX11_values_63 rfl (lv_at hl 2 rfl) ?_
  refine lv_iconst (v := 1) hx hb dX11_values_64 (by decide) ?_
  refine r_put cx hw inX11 (ci := 10) rfl tyX11_ok nmX11 0 rfl 10 (by decide) fl_X11_57 rfl rfl rfl (Nat.le_of_ble_eq_true rfl) (ws' := [(h0, ob 10 [.ref (u 0), .int 0, .int (-1), .ref (u 1), .ref (u 2), .ref (u 3), .ref (u 4), .ref (u 5), .ref (u 7), .ref (u 6), .int 1, .ref (u 8), .ref (u 9), .ref (u 10), .ref (u 11), .ref (u 12), .ref (u 13), .ref (u 14), .ref (u 15), .ref (u 16)]), ((u 0), aI G 800 (fun _ => 0)), ((u 4), ob 1 [.ref (u 30), .ref (u 31), .int 0, .int 0]), ((u 7), ob 1 [.ref (u 36), .ref (u 37), .int 0, .int 0]), ((u 1), ob 3 [.ref (u 0), .int 0, .int 0, .int (-1), .ref (u 3), .ref (u 29), .int 0])]) rfl dX11_values_65 (fun H locs hw => ?_)
  refine lv_iload_n hx hb dX11_values_68 rfl (lv_at hl 1 rfl) ?_
  have hw : Wd G A [] s.heap _ _ := hw.sub [] rfl rfl
  exact r_iret cx hr hlk () rfl hw (Nat.le_of_ble_eq_true rfl) (Nat.le_of_ble_eq_true rfl) dX11_values_69

set_option maxHeartbeats 4000000 in
set_option maxRecDepth 100000 in
theorem xa_fault (l : Launch) (G : Gt) (h0 : Nat) (u : Nat → Nat) : Mt l yX11_fault cX11_fault 1 (some .int) ({ frames := 0, cells := 0, slots := 0, locals := 0 } : Room) G [.ref h0] [(h0, ob 10 [.ref (u 0), .int 0, .int (-1), .ref (u 1), .ref (u 2), .ref (u 3), .ref (u 4), .ref (u 5), .ref (u 6), .ref (u 7), .int 0, .ref (u 8), .ref (u 9), .ref (u 10), .ref (u 11), .ref (u 12), .ref (u 13), .ref (u 14), .ref (u 15), .ref (u 16)])] (qI G (fun (r : Int32) (w : Unit) => r = (-1)) (fun w => [])) := by
  refine Mt.of (own := RX11) (cc := cX11_fault) (by decide) rfl (Nat.le_of_ble_eq_true rfl) ?_
  intro p e s m below meth c A ls cx hr hlk hmn hA hl hw
  have hx := cx.1
  have hb := cx.2.1
  have hl : lv_has ls 1 [(0, .ref h0)] := hl
  refine lv_aload_n hx hb dX11_fault_0 rfl (lv_at hl 0 rfl) ?_
  refine r_get cx hw inX11 (ci := 10) rfl 0 rfl 2 (by decide) fl_X11_17 rfl dX11_fault_1 ?_
  have hw : Wd G A [] s.heap _ _ := hw.sub [] rfl rfl
  exact r_iret cx hr hlk () rfl hw (Nat.le_of_ble_eq_true rfl) (Nat.le_of_ble_eq_true rfl) dX11_fault_4

set_option maxHeartbeats 4000000 in
set_option maxRecDepth 100000 in
theorem xa_set (l : Launch) (G : Gt) (h0 : Nat) (u : Nat → Nat) (a : Int32) (v : Int32) : Mt l yX11_set cX11_set 3 (some .boolean) ({ frames := 1, cells := 0, slots := 0, locals := 22 } : Room) G [.ref h0, .int a, .int v] [(h0, ob 10 [.ref (u 0), .int 0, .int (-1), .ref (u 1), .ref (u 2), .ref (u 3), .ref (u 4), .ref (u 5), .ref (u 6), .ref (u 7), .int 0, .ref (u 8), .ref (u 9), .ref (u 10), .ref (u 11), .ref (u 12), .ref (u 13), .ref (u 14), .ref (u 15), .ref (u 16)]), ((u 8), ob 9 [.int 6, .int 3, .int 120, .ref (u 38), .ref (u 9), .ref (u 2), .int 0, .int 0, .int 0, .int 0, .ref (u 39), .ref (u 40), .int 0, .int 0, .ref (u 41), .ref (u 42), .ref (u 43), .ref (u 44)]), ((u 9), ob 4 [.int 0, .int 0, .int 0, .int 0, .int 0, .int 0, .int 0, .ref (u 45), .ref (u 46), .ref (u 47), .ref (u 48), .ref (u 49), .ref (u 50), .ref (u 51)])] (qI G (fun (r : Int32) (w : Unit) => (((a.toInt = 0 ∧ 0 ≤ v.toInt ∧ v.toInt ≤ 12) ∨ (a.toInt = 1 ∧ 1 ≤ v.toInt ∧ v.toInt ≤ 6) ∨ (a.toInt = 2 ∧ 10 ≤ v.toInt ∧ v.toInt ≤ 300)) ∧ r.toInt = 1) ∨ (¬ ((a.toInt = 0 ∧ 0 ≤ v.toInt ∧ v.toInt ≤ 12) ∨ (a.toInt = 1 ∧ 1 ≤ v.toInt ∧ v.toInt ≤ 6) ∨ (a.toInt = 2 ∧ 10 ≤ v.toInt ∧ v.toInt ≤ 300)) ∧ r.toInt = 0)) (fun w => [])) := by
  refine Mt.of (own := RX11) (cc := cX11_set) (by decide) rfl (Nat.le_of_ble_eq_true rfl) ?_
  intro p e s m below meth c A ls cx hr hlk hmn hA hl hw
  have hx := cx.1
  have hb := cx.2.1
  have hl : lv_has ls 3 [(0, .ref h0), (1, .int a), (2, .int v)] := hl
  refine lv_aload_n hx hb dX11_set_0 rfl (lv_at hl 0 rfl) ?_
  refine r_get cx hw inX11 (ci := 10) rfl 0 rfl 11 (by decide) fl_X11_83 rfl dX11_set_1 ?_
  refine lv_iload_n hx hb dX11_set_4 rfl (lv_at hl 1 rfl) ?_
  refine lv_iload_n hx hb dX11_set_5 rfl (lv_at hl 2 rfl) ?_
  refine r_callVI (As := [.int a, .int v]) (rest := []) (wr := [(h0, ob 10 [.ref (u 0), .int 0, .int (-1), .ref (u 1), .ref (u 2), .ref (u 3), .ref (u 4), .ref (u 5), .ref (u 6), .ref (u 7), .int 0, .ref (u 8), .ref (u 9), .ref (u 10), .ref (u 11), .ref (u 12), .ref (u 13), .ref (u 14), .ref (u 15), .ref (u 16)]), ((u 9), ob 4 [.int 0, .int 0, .int 0, .int 0, .int 0, .int 0, .int 0, .ref (u 45), .ref (u 46), .ref (u 47), .ref (u 48), .ref (u 49), .ref (u 50), .ref (u 51)])]) cx hw hA (k_setLimit l G u a v) [1] [0, 2] rfl rfl rfl rfl rfl 1 rfl (ci := 9) rfl ml_X11_156 im_X10_setLimit se_X10_setLimit in_X10 co_X10_setLimit rfl hd_X10_setLimit rfl ⟨Nat.le_of_ble_eq_true rfl, Nat.le_of_ble_eq_true rfl⟩ hl.1 rfl (Nat.le_of_ble_eq_true rfl) dX11_set_6 ⟨Nat.le_of_ble_eq_true rfl, Nat.le_of_ble_eq_true rfl⟩ (fun r2 u1 H locs hr2 hw => ?_)
  have hw : Wd G A [(h0, ob 10 [.ref (u 0), .int 0, .int (-1), .ref (u 1), .ref (u 2), .ref (u 3), .ref (u 4), .ref (u 5), .ref (u 6), .ref (u 7), .int 0, .ref (u 8), .ref (u 9), .ref (u 10), .ref (u 11), .ref (u 12), .ref (u 13), .ref (u 14), .ref (u 15), .ref (u 16)]), ((u 9), ob 4 [.int 0, .int 0, .int 0, .int 0, .int 0, .int 0, .int 0, .ref (u 45), .ref (u 46), .ref (u 47), .ref (u 48), .ref (u 49), .ref (u 50), .ref (u 51)])] s.heap _ _ := hw
  refine lv_if_ne (tgt := 14) hx hb dX11_set_9 (by decide) (fun c3 => ?_) (fun c3 => ?_)
  · refine lv_aload_n hx hb dX11_set_14 rfl (lv_at hl 0 rfl) ?_
    refine r_get cx hw inX11 (ci := 10) rfl 0 rfl 12 (by decide) fl_X11_67 rfl dX11_set_15 ?_
    refine r_callVV (As := []) (rest := []) (wr := [(h0, ob 10 [.ref (u 0), .int 0, .int (-1), .ref (u 1), .ref (u 2), .ref (u 3), .ref (u 4), .ref (u 5), .ref (u 6), .ref (u 7), .int 0, .ref (u 8), .ref (u 9), .ref (u 10), .ref (u 11), .ref (u 12), .ref (u 13), .ref (u 14), .ref (u 15), .ref (u 16)])]) cx hw hA (a_X5_clear_15 l G (u 9) (u 45) (u 46) (u 47) (u 48) (u 49) (u 50) (u 51)) [1] [0] rfl rfl rfl rfl rfl 1 rfl (ci := 4) rfl ml_X11_135 im_X5_clear se_X5_clear in_X5 co_X5_clear rfl hd_X5_clear rfl ⟨Nat.le_of_ble_eq_true rfl, Nat.le_of_ble_eq_true rfl⟩ hl.1 rfl (Nat.le_of_ble_eq_true rfl) dX11_set_18 ⟨Nat.le_of_ble_eq_true rfl, Nat.le_of_ble_eq_true rfl⟩ (fun u4 H locs hr5 hw => ?_)
    have hw : Wd G A [(h0, ob 10 [.ref (u 0), .int 0, .int (-1), .ref (u 1), .ref (u 2), .ref (u 3), .ref (u 4), .ref (u 5), .ref (u 6), .ref (u 7), .int 0, .ref (u 8), .ref (u 9), .ref (u 10), .ref (u 11), .ref (u 12), .ref (u 13), .ref (u 14), .ref (u 15), .ref (u 16)]), ((u 9), ob 4 [.int 0, .int 0, .int 0, .int 0, .int 0, .int 0, .int 0, .ref (u 45), .ref (u 46), .ref (u 47), .ref (u 48), .ref (u 49), .ref (u 50), .ref (u 51)])] s.heap _ _ := hw
    refine lv_iconst (v := 1) hx hb dX11_set_21 (by decide) ?_
    have hw : Wd G A [] s.heap _ _ := hw.sub [] rfl rfl
    exact r_zret cx hr rfl hlk () (by simp only [fa_lt, fa_le, fa_eq] at c3; have : (-1 : Int32).toInt = -1 := (by decide); have : (0 : Int32).toInt = 0 := (by decide); have : (1 : Int32).toInt = 1 := (by decide); omega) hw (Nat.le_of_ble_eq_true rfl) (Nat.le_of_ble_eq_true rfl) dX11_set_22
  · subst c3
    refine lv_iconst (v := 0) hx hb dX11_set_12 (by decide) ?_
    have hw : Wd G A [] s.heap _ _ := hw.sub [] rfl rfl
    exact r_zret cx hr rfl hlk () (by have : (-1 : Int32).toInt = -1 := (by decide); have : (0 : Int32).toInt = 0 := (by decide); have : (1 : Int32).toInt = 1 := (by decide); omega) hw (Nat.le_of_ble_eq_true rfl) (Nat.le_of_ble_eq_true rfl) dX11_set_13

set_option maxHeartbeats 4000000 in
set_option maxRecDepth 100000 in
theorem xa_is (l : Launch) (G : Gt) (h0 : Nat) (u : Nat → Nat) (a : Int32) : Mt l yX11_is cX11_is 2 (some .int) ({ frames := 1, cells := 0, slots := 0, locals := 22 } : Room) G [.ref h0, .int a] [(h0, ob 10 [.ref (u 0), .int 0, .int (-1), .ref (u 1), .ref (u 2), .ref (u 3), .ref (u 4), .ref (u 5), .ref (u 6), .ref (u 7), .int 0, .ref (u 8), .ref (u 9), .ref (u 10), .ref (u 11), .ref (u 12), .ref (u 13), .ref (u 14), .ref (u 15), .ref (u 16)]), ((u 2), ob 2 [.int 0, .int 0, .int 0, .ref (u 17), .ref (u 18), .ref (u 19), .ref (u 20), .ref (u 21), .ref (u 22)]), ((u 4), ob 1 [.ref (u 30), .ref (u 31), .int 0, .int 0]), ((u 8), ob 9 [.int 6, .int 3, .int 120, .ref (u 38), .ref (u 9), .ref (u 2), .int 0, .int 0, .int 0, .int 0, .ref (u 39), .ref (u 40), .int 0, .int 0, .ref (u 41), .ref (u 42), .ref (u 43), .ref (u 44)])] (qI G (fun (r : Int32) (w : Unit) => (a.toInt = 0 ∧ r.toInt = 0) ∨ (a.toInt = 1 ∧ r.toInt = 0) ∨ (a.toInt = 2 ∧ r.toInt = 0) ∨ (a.toInt = 3 ∧ r.toInt = 6) ∨ (a.toInt = 4 ∧ r.toInt = 3) ∨ (a.toInt = 5 ∧ r.toInt = 120) ∨ (a.toInt = 6 ∧ r.toInt = 0) ∨ (a.toInt = 7 ∧ r.toInt = 0) ∨ ((a.toInt < 0 ∨ 7 < a.toInt) ∧ r.toInt = -1)) (fun w => [])) := by
  refine Mt.of (own := RX11) (cc := cX11_is) (by decide) rfl (Nat.le_of_ble_eq_true rfl) ?_
  intro p e s m below meth c A ls cx hr hlk hmn hA hl hw
  have hx := cx.1
  have hb := cx.2.1
  have hl : lv_has ls 2 [(0, .ref h0), (1, .int a)] := hl
  refine lv_iload_n hx hb dX11_is_0 rfl (lv_at hl 1 rfl) ?_
  by_cases c1 : a = 0
  · subst c1
    refine lv_tableIn (tgt := 48) hx hb dX11_is_1 (by decide +kernel) (by decide +kernel) rfl (by decide) ?_
    refine lv_aload_n hx hb dX11_is_48 rfl (lv_at hl 0 rfl) ?_
    refine r_get cx hw inX11 (ci := 10) rfl 0 rfl 4 (by decide) fl_X11_23 rfl dX11_is_49 ?_
    refine r_get cx hw inX3 (ci := 2) rfl 1 rfl 0 (by decide) fl_X11_138 rfl dX11_is_52 ?_
    have hw : Wd G A [] s.heap _ _ := hw.sub [] rfl rfl
    exact r_iret cx hr hlk () (by have : (-1 : Int32).toInt = -1 := (by decide); have : (0 : Int32).toInt = 0 := (by decide); have : (1 : Int32).toInt = 1 := (by decide); omega) hw (Nat.le_of_ble_eq_true rfl) (Nat.le_of_ble_eq_true rfl) dX11_is_55
  by_cases c2 : a = 1
  · subst c2
    refine lv_tableIn (tgt := 56) hx hb dX11_is_1 (by decide +kernel) (by decide +kernel) rfl (by decide) ?_
    refine lv_aload_n hx hb dX11_is_56 rfl (lv_at hl 0 rfl) ?_
    refine r_get cx hw inX11 (ci := 10) rfl 0 rfl 6 (by decide) fl_X11_44 rfl dX11_is_57 ?_
    refine r_callVI (As := []) (rest := []) (wr := [(h0, ob 10 [.ref (u 0), .int 0, .int (-1), .ref (u 1), .ref (u 2), .ref (u 3), .ref (u 4), .ref (u 5), .ref (u 6), .ref (u 7), .int 0, .ref (u 8), .ref (u 9), .ref (u 10), .ref (u 11), .ref (u 12), .ref (u 13), .ref (u 14), .ref (u 15), .ref (u 16)]), ((u 2), ob 2 [.int 0, .int 0, .int 0, .ref (u 17), .ref (u 18), .ref (u 19), .ref (u 20), .ref (u 21), .ref (u 22)]), ((u 8), ob 9 [.int 6, .int 3, .int 120, .ref (u 38), .ref (u 9), .ref (u 2), .int 0, .int 0, .int 0, .int 0, .ref (u 39), .ref (u 40), .int 0, .int 0, .ref (u 41), .ref (u 42), .ref (u 43), .ref (u 44)])]) cx hw hA (a_X2_stars_1 l G (u 4) (u 30) (u 31)) [2] [0, 1, 3] rfl rfl rfl rfl rfl 2 rfl (ci := 1) rfl ml_X11_148 im_X2_stars se_X2_stars in_X2 co_X2_stars rfl hd_X2_stars rfl ⟨Nat.le_of_ble_eq_true rfl, Nat.le_of_ble_eq_true rfl⟩ hl.1 rfl (Nat.le_of_ble_eq_true rfl) dX11_is_60 ⟨Nat.le_of_ble_eq_true rfl, Nat.le_of_ble_eq_true rfl⟩ (fun r4 u3 H locs hr4 hw => ?_)
    have hw : Wd G A [(h0, ob 10 [.ref (u 0), .int 0, .int (-1), .ref (u 1), .ref (u 2), .ref (u 3), .ref (u 4), .ref (u 5), .ref (u 6), .ref (u 7), .int 0, .ref (u 8), .ref (u 9), .ref (u 10), .ref (u 11), .ref (u 12), .ref (u 13), .ref (u 14), .ref (u 15), .ref (u 16)]), ((u 2), ob 2 [.int 0, .int 0, .int 0, .ref (u 17), .ref (u 18), .ref (u 19), .ref (u 20), .ref (u 21), .ref (u 22)]), ((u 8), ob 9 [.int 6, .int 3, .int 120, .ref (u 38), .ref (u 9), .ref (u 2), .int 0, .int 0, .int 0, .int 0, .ref (u 39), .ref (u 40), .int 0, .int 0, .ref (u 41), .ref (u 42), .ref (u 43), .ref (u 44)]), ((u 4), ob 1 [.ref (u 30), .ref (u 31), .int 0, .int 0])] s.heap _ _ := hw
    subst hr4
    have hw : Wd G A [] s.heap _ _ := hw.sub [] rfl rfl
    exact r_iret cx hr hlk () (by simp only [fa_lt, fa_le, fa_eq] at c1; have : (-1 : Int32).toInt = -1 := (by decide); have : (0 : Int32).toInt = 0 := (by decide); have : (1 : Int32).toInt = 1 := (by decide); omega) hw (Nat.le_of_ble_eq_true rfl) (Nat.le_of_ble_eq_true rfl) dX11_is_63
  by_cases c5 : a = 2
  · subst c5
    refine lv_tableIn (tgt := 64) hx hb dX11_is_1 (by decide +kernel) (by decide +kernel) rfl (by decide) ?_
    refine lv_aload_n hx hb dX11_is_64 rfl (lv_at hl 0 rfl) ?_
    refine r_get cx hw inX11 (ci := 10) rfl 0 rfl 10 (by decide) fl_X11_57 rfl dX11_is_65 ?_
    refine lv_if_eq (tgt := 81) hx hb dX11_is_68 (by decide) (fun _ => ?_) (fun c9 => absurd (by decide) c9)
    refine lv_iconst (v := 0) hx hb dX11_is_81 (by decide) ?_
    have hw : Wd G A [] s.heap _ _ := hw.sub [] rfl rfl
    exact r_iret cx hr hlk () (by simp only [fa_lt, fa_le, fa_eq] at c1 c2; have : (-1 : Int32).toInt = -1 := (by decide); have : (0 : Int32).toInt = 0 := (by decide); have : (1 : Int32).toInt = 1 := (by decide); have : (2 : Int32).toInt = 2 := (by decide); omega) hw (Nat.le_of_ble_eq_true rfl) (Nat.le_of_ble_eq_true rfl) dX11_is_82
  by_cases c6 : a = 3
  · subst c6
    refine lv_tableIn (tgt := 83) hx hb dX11_is_1 (by decide +kernel) (by decide +kernel) rfl (by decide) ?_
    refine lv_aload_n hx hb dX11_is_83 rfl (lv_at hl 0 rfl) ?_
    refine r_get cx hw inX11 (ci := 10) rfl 0 rfl 11 (by decide) fl_X11_83 rfl dX11_is_84 ?_
    refine r_get cx hw inX10 (ci := 9) rfl 3 rfl 0 (by decide) fl_X11_160 rfl dX11_is_87 ?_
    have hw : Wd G A [] s.heap _ _ := hw.sub [] rfl rfl
    exact r_iret cx hr hlk () (by simp only [fa_lt, fa_le, fa_eq] at c1 c2 c5; have : (-1 : Int32).toInt = -1 := (by decide); have : (0 : Int32).toInt = 0 := (by decide); have : (1 : Int32).toInt = 1 := (by decide); have : (2 : Int32).toInt = 2 := (by decide); have : (3 : Int32).toInt = 3 := (by decide); have : (6 : Int32).toInt = 6 := (by decide); omega) hw (Nat.le_of_ble_eq_true rfl) (Nat.le_of_ble_eq_true rfl) dX11_is_90
  by_cases c7 : a = 4
  · subst c7
    refine lv_tableIn (tgt := 91) hx hb dX11_is_1 (by decide +kernel) (by decide +kernel) rfl (by decide) ?_
    refine lv_aload_n hx hb dX11_is_91 rfl (lv_at hl 0 rfl) ?_
    refine r_get cx hw inX11 (ci := 10) rfl 0 rfl 11 (by decide) fl_X11_83 rfl dX11_is_92 ?_
    refine r_get cx hw inX10 (ci := 9) rfl 3 rfl 1 (by decide) fl_X11_163 rfl dX11_is_95 ?_
    have hw : Wd G A [] s.heap _ _ := hw.sub [] rfl rfl
    exact r_iret cx hr hlk () (by simp only [fa_lt, fa_le, fa_eq] at c1 c2 c5 c6; have : (-1 : Int32).toInt = -1 := (by decide); have : (0 : Int32).toInt = 0 := (by decide); have : (1 : Int32).toInt = 1 := (by decide); have : (2 : Int32).toInt = 2 := (by decide); have : (3 : Int32).toInt = 3 := (by decide); have : (4 : Int32).toInt = 4 := (by decide); omega) hw (Nat.le_of_ble_eq_true rfl) (Nat.le_of_ble_eq_true rfl) dX11_is_98
  by_cases c8 : a = 5
  · subst c8
    refine lv_tableIn (tgt := 99) hx hb dX11_is_1 (by decide +kernel) (by decide +kernel) rfl (by decide) ?_
    refine lv_aload_n hx hb dX11_is_99 rfl (lv_at hl 0 rfl) ?_
    refine r_get cx hw inX11 (ci := 10) rfl 0 rfl 11 (by decide) fl_X11_83 rfl dX11_is_100 ?_
    refine r_get cx hw inX10 (ci := 9) rfl 3 rfl 2 (by decide) fl_X11_166 rfl dX11_is_103 ?_
    have hw : Wd G A [] s.heap _ _ := hw.sub [] rfl rfl
    exact r_iret cx hr hlk () (by simp only [fa_lt, fa_le, fa_eq] at c1 c2 c5 c6 c7; have : (-1 : Int32).toInt = -1 := (by decide); have : (0 : Int32).toInt = 0 := (by decide); have : (1 : Int32).toInt = 1 := (by decide); have : (2 : Int32).toInt = 2 := (by decide); have : (3 : Int32).toInt = 3 := (by decide); have : (4 : Int32).toInt = 4 := (by decide); have : (5 : Int32).toInt = 5 := (by decide); have : (120 : Int32).toInt = 120 := (by decide); omega) hw (Nat.le_of_ble_eq_true rfl) (Nat.le_of_ble_eq_true rfl) dX11_is_106
  by_cases c9 : a = 6
  · subst c9
    refine lv_tableIn (tgt := 107) hx hb dX11_is_1 (by decide +kernel) (by decide +kernel) rfl (by decide) ?_
    refine lv_aload_n hx hb dX11_is_107 rfl (lv_at hl 0 rfl) ?_
    refine r_get cx hw inX11 (ci := 10) rfl 0 rfl 1 (by decide) fl_X11_13 rfl dX11_is_108 ?_
    have hw : Wd G A [] s.heap _ _ := hw.sub [] rfl rfl
    exact r_iret cx hr hlk () (by simp only [fa_lt, fa_le, fa_eq] at c1 c2 c5 c6 c7 c8; have : (-1 : Int32).toInt = -1 := (by decide); have : (0 : Int32).toInt = 0 := (by decide); have : (1 : Int32).toInt = 1 := (by decide); have : (2 : Int32).toInt = 2 := (by decide); have : (3 : Int32).toInt = 3 := (by decide); have : (4 : Int32).toInt = 4 := (by decide); have : (5 : Int32).toInt = 5 := (by decide); have : (6 : Int32).toInt = 6 := (by decide); omega) hw (Nat.le_of_ble_eq_true rfl) (Nat.le_of_ble_eq_true rfl) dX11_is_111
  by_cases c10 : a = 7
  · subst c10
    refine lv_tableIn (tgt := 112) hx hb dX11_is_1 (by decide +kernel) (by decide +kernel) rfl (by decide) ?_
    refine lv_aload_n hx hb dX11_is_112 rfl (lv_at hl 0 rfl) ?_
    refine r_get cx hw inX11 (ci := 10) rfl 0 rfl 4 (by decide) fl_X11_23 rfl dX11_is_113 ?_
    refine r_get cx hw inX3 (ci := 2) rfl 1 rfl 1 (by decide) fl_X11_169 rfl dX11_is_116 ?_
    have hw : Wd G A [] s.heap _ _ := hw.sub [] rfl rfl
    exact r_iret cx hr hlk () (by simp only [fa_lt, fa_le, fa_eq] at c1 c2 c5 c6 c7 c8 c9; have : (-1 : Int32).toInt = -1 := (by decide); have : (0 : Int32).toInt = 0 := (by decide); have : (1 : Int32).toInt = 1 := (by decide); have : (2 : Int32).toInt = 2 := (by decide); have : (3 : Int32).toInt = 3 := (by decide); have : (4 : Int32).toInt = 4 := (by decide); have : (5 : Int32).toInt = 5 := (by decide); have : (6 : Int32).toInt = 6 := (by decide); have : (7 : Int32).toInt = 7 := (by decide); omega) hw (Nat.le_of_ble_eq_true rfl) (Nat.le_of_ble_eq_true rfl) dX11_is_119
  refine lv_tableOut (tgt := 120) hx hb dX11_is_1 (by simp only [fa_lt, fa_le, fa_eq] at c1 c2 c5 c6 c7 c8 c9 c10; have : (-1 : Int32).toInt = -1 := (by decide); have : (0 : Int32).toInt = 0 := (by decide); have : (1 : Int32).toInt = 1 := (by decide); have : (2 : Int32).toInt = 2 := (by decide); have : (3 : Int32).toInt = 3 := (by decide); have : (4 : Int32).toInt = 4 := (by decide); have : (5 : Int32).toInt = 5 := (by decide); have : (6 : Int32).toInt = 6 := (by decide); have : (7 : Int32).toInt = 7 := (by decide); omega) (by decide) ?_
  refine lv_iconst (v := (-1)) hx hb dX11_is_120 (by decide) ?_
  have hw : Wd G A [] s.heap _ _ := hw.sub [] rfl rfl
  exact r_iret cx hr hlk () (by simp only [fa_lt, fa_le, fa_eq] at c1 c2 c5 c6 c7 c8 c9 c10; have : (-1 : Int32).toInt = -1 := (by decide); have : (0 : Int32).toInt = 0 := (by decide); have : (1 : Int32).toInt = 1 := (by decide); have : (2 : Int32).toInt = 2 := (by decide); have : (3 : Int32).toInt = 3 := (by decide); have : (4 : Int32).toInt = 4 := (by decide); have : (5 : Int32).toInt = 5 := (by decide); have : (6 : Int32).toInt = 6 := (by decide); have : (7 : Int32).toInt = 7 := (by decide); omega) hw (Nat.le_of_ble_eq_true rfl) (Nat.le_of_ble_eq_true rfl) dX11_is_121

set_option maxHeartbeats 4000000 in
set_option maxRecDepth 100000 in
theorem a_X3_about_31 (l : Launch) (G : Gt) (a0 : Nat) (i0 : Int32) (i1 : Int32) (a1 : Nat) (a2 : Nat) (a3 : Nat) (a4 : Nat) (a5 : Nat) (a6 : Nat) : Mt l yX3_about cX3_about 3 (some .int) ({ frames := 0, cells := 0, slots := 0, locals := 0 } : Room) G [.ref a0, .int i0, .int i1] [(a0, ob 2 [.int 0, .int 0, .int 0, .ref a1, .ref a2, .ref a3, .ref a4, .ref a5, .ref a6])] (qI G (fun (r : Int32) (w : Unit) => r = (-1)) (fun w => [(a0, ob 2 [.int 0, .int 0, .int 0, .ref a1, .ref a2, .ref a3, .ref a4, .ref a5, .ref a6])])) := by
  refine Mt.of (own := RX3) (cc := cX3_about) (by decide) rfl (Nat.le_of_ble_eq_true rfl) ?_
  intro p e s m below meth c A ls cx hr hlk hmn hA hl hw
  have hx := cx.1
  have hb := cx.2.1
  have hl : lv_has ls 3 [(0, .ref a0), (1, .int i0), (2, .int i1)] := hl
  refine lv_iload_n hx hb dX3_about_0 rfl (lv_at hl 1 rfl) ?_
  refine lv_if_lt (tgt := 22) hx hb dX3_about_1 (by decide) (fun c1 => ?_) (fun c1 => ?_)
  · refine lv_iconst (v := (-1)) hx hb dX3_about_22 (by decide) ?_
    refine lv_goto (tgt := 37) hx hb dX3_about_23 (by decide) ?_
    have hw : Wd G A [(a0, ob 2 [.int 0, .int 0, .int 0, .ref a1, .ref a2, .ref a3, .ref a4, .ref a5, .ref a6])] s.heap _ _ := hw.sub [0] rfl rfl
    exact r_iret cx hr hlk () rfl hw (Nat.le_of_ble_eq_true rfl) (Nat.le_of_ble_eq_true rfl) dX3_about_37
  · refine lv_iload_n hx hb dX3_about_4 rfl (lv_at hl 1 rfl) ?_
    refine lv_aload_n hx hb dX3_about_5 rfl (lv_at hl 0 rfl) ?_
    refine r_get cx hw inX3 (ci := 2) rfl 0 rfl 0 (by decide) fl_X3_30 rfl dX3_about_6 ?_
    refine lv_icmp_ge (tgt := 22) hx hb dX3_about_9 (by decide) (fun c2 => ?_) (fun c2 => ?_)
    · refine lv_iconst (v := (-1)) hx hb dX3_about_22 (by decide) ?_
      refine lv_goto (tgt := 37) hx hb dX3_about_23 (by decide) ?_
      have hw : Wd G A [(a0, ob 2 [.int 0, .int 0, .int 0, .ref a1, .ref a2, .ref a3, .ref a4, .ref a5, .ref a6])] s.heap _ _ := hw.sub [0] rfl rfl
      exact r_iret cx hr hlk () rfl hw (Nat.le_of_ble_eq_true rfl) (Nat.le_of_ble_eq_true rfl) dX3_about_37
    · exfalso
      simp only [fa_lt, fa_le, fa_eq] at c1 c2; have : (-1 : Int32).toInt = -1 := (by decide); have : (0 : Int32).toInt = 0 := (by decide); have : (1 : Int32).toInt = 1 := (by decide); omega

set_option maxHeartbeats 4000000 in
set_option maxRecDepth 100000 in
theorem xa_function (l : Launch) (G : Gt) (h0 : Nat) (u : Nat → Nat) (a : Int32) (v : Int32) : Mt l yX11_function cX11_function 3 (some .int) ({ frames := 1, cells := 0, slots := 0, locals := 22 } : Room) G [.ref h0, .int a, .int v] [(h0, ob 10 [.ref (u 0), .int 0, .int (-1), .ref (u 1), .ref (u 2), .ref (u 3), .ref (u 4), .ref (u 5), .ref (u 6), .ref (u 7), .int 0, .ref (u 8), .ref (u 9), .ref (u 10), .ref (u 11), .ref (u 12), .ref (u 13), .ref (u 14), .ref (u 15), .ref (u 16)]), ((u 2), ob 2 [.int 0, .int 0, .int 0, .ref (u 17), .ref (u 18), .ref (u 19), .ref (u 20), .ref (u 21), .ref (u 22)])] (qI G (fun (r : Int32) (w : Unit) => r = (-1)) (fun w => [])) := by
  refine Mt.of (own := RX11) (cc := cX11_function) (by decide) rfl (Nat.le_of_ble_eq_true rfl) ?_
  intro p e s m below meth c A ls cx hr hlk hmn hA hl hw
  have hx := cx.1
  have hb := cx.2.1
  have hl : lv_has ls 3 [(0, .ref h0), (1, .int a), (2, .int v)] := hl
  refine lv_aload_n hx hb dX11_function_0 rfl (lv_at hl 0 rfl) ?_
  refine r_get cx hw inX11 (ci := 10) rfl 0 rfl 4 (by decide) fl_X11_23 rfl dX11_function_1 ?_
  refine lv_iload_n hx hb dX11_function_4 rfl (lv_at hl 1 rfl) ?_
  refine lv_iload_n hx hb dX11_function_5 rfl (lv_at hl 2 rfl) ?_
  refine r_callVI (As := [.int a, .int v]) (rest := []) (wr := [(h0, ob 10 [.ref (u 0), .int 0, .int (-1), .ref (u 1), .ref (u 2), .ref (u 3), .ref (u 4), .ref (u 5), .ref (u 6), .ref (u 7), .int 0, .ref (u 8), .ref (u 9), .ref (u 10), .ref (u 11), .ref (u 12), .ref (u 13), .ref (u 14), .ref (u 15), .ref (u 16)])]) cx hw hA (a_X3_about_31 l G (u 2) a v (u 17) (u 18) (u 19) (u 20) (u 21) (u 22)) [1] [0] rfl rfl rfl rfl rfl 1 rfl (ci := 2) rfl ml_X11_172 im_X3_about se_X3_about in_X3 co_X3_about rfl hd_X3_about rfl ⟨Nat.le_of_ble_eq_true rfl, Nat.le_of_ble_eq_true rfl⟩ hl.1 rfl (Nat.le_of_ble_eq_true rfl) dX11_function_6 ⟨Nat.le_of_ble_eq_true rfl, Nat.le_of_ble_eq_true rfl⟩ (fun r2 u1 H locs hr2 hw => ?_)
  have hw : Wd G A [(h0, ob 10 [.ref (u 0), .int 0, .int (-1), .ref (u 1), .ref (u 2), .ref (u 3), .ref (u 4), .ref (u 5), .ref (u 6), .ref (u 7), .int 0, .ref (u 8), .ref (u 9), .ref (u 10), .ref (u 11), .ref (u 12), .ref (u 13), .ref (u 14), .ref (u 15), .ref (u 16)]), ((u 2), ob 2 [.int 0, .int 0, .int 0, .ref (u 17), .ref (u 18), .ref (u 19), .ref (u 20), .ref (u 21), .ref (u 22)])] s.heap _ _ := hw
  subst hr2
  have hw : Wd G A [] s.heap _ _ := hw.sub [] rfl rfl
  exact r_iret cx hr hlk () rfl hw (Nat.le_of_ble_eq_true rfl) (Nat.le_of_ble_eq_true rfl) dX11_function_9

set_option maxHeartbeats 4000000 in
set_option maxRecDepth 100000 in
theorem a_X3_startOf_32 (l : Launch) (G : Gt) (a0 : Nat) (a1 : Nat) (a2 : Nat) (a3 : Nat) (a4 : Nat) (a5 : Nat) (a6 : Nat) : Mt l yX3_startOf cX3_startOf 2 (some .int) ({ frames := 0, cells := 0, slots := 0, locals := 0 } : Room) G [.ref a0, .int 0] [(a0, ob 2 [.int 0, .int 0, .int 0, .ref a1, .ref a2, .ref a3, .ref a4, .ref a5, .ref a6]), (a3, aI G 72 (fl_fill (-1) 0 72))] (qI G (fun (r : Int32) (w : Unit) => r = (-1)) (fun w => [(a0, ob 2 [.int 0, .int 0, .int 0, .ref a1, .ref a2, .ref a3, .ref a4, .ref a5, .ref a6]), (a3, aI G 72 (fl_fill (-1) 0 72))])) := by
  refine Mt.of (own := RX3) (cc := cX3_startOf) (by decide) rfl (Nat.le_of_ble_eq_true rfl) ?_
  intro p e s m below meth c A ls cx hr hlk hmn hA hl hw
  have hx := cx.1
  have hb := cx.2.1
  have hl : lv_has ls 2 [(0, .ref a0), (1, .int 0)] := hl
  refine lv_iload_n hx hb dX3_startOf_0 rfl (lv_at hl 1 rfl) ?_
  refine lv_if_lt (tgt := 32) hx hb dX3_startOf_1 (by decide) (fun c9 => absurd c9 (by decide)) (fun _ => ?_)
  refine lv_iload_n hx hb dX3_startOf_4 rfl (lv_at hl 1 rfl) ?_
  refine lv_bipush (v := 72) hx hb dX3_startOf_5 (by decide) ?_
  refine lv_icmp_ge (tgt := 32) hx hb dX3_startOf_7 (by decide) (fun c9 => absurd c9 (by decide)) (fun _ => ?_)
  refine lv_aload_n hx hb dX3_startOf_10 rfl (lv_at hl 0 rfl) ?_
  refine r_get cx hw inX3 (ci := 2) rfl 0 rfl 5 (by decide) fl_X3_18 rfl dX3_startOf_11 ?_
  refine lv_iload_n hx hb dX3_startOf_14 rfl (lv_at hl 1 rfl) ?_
  refine r_iald cx hw 1 rfl (v := (-1)) (inL (by decide +kernel)) (by decide +kernel) dX3_startOf_15 ?_
  refine lv_if_lt (tgt := 32) hx hb dX3_startOf_16 (by decide) (fun _ => ?_) (fun c9 => absurd (by decide) c9)
  refine lv_iconst (v := (-1)) hx hb dX3_startOf_32 (by decide) ?_
  have hw : Wd G A [(a0, ob 2 [.int 0, .int 0, .int 0, .ref a1, .ref a2, .ref a3, .ref a4, .ref a5, .ref a6]), (a3, aI G 72 (fl_fill (-1) 0 72))] s.heap _ _ := hw.sub [0, 1] rfl rfl
  exact r_iret cx hr hlk () rfl hw (Nat.le_of_ble_eq_true rfl) (Nat.le_of_ble_eq_true rfl) dX3_startOf_33

set_option maxHeartbeats 4000000 in
set_option maxRecDepth 100000 in
theorem a_X10_begin_33 (l : Launch) (G : Gt) (a0 : Nat) (a1 : Nat) (a2 : Nat) (a3 : Nat) (a4 : Nat) (a5 : Nat) (a6 : Nat) (a7 : Nat) (a8 : Nat) (a9 : Nat) (a10 : Nat) (a11 : Nat) (a12 : Nat) (a13 : Nat) (a14 : Nat) (a15 : Nat) (a16 : Nat) (a17 : Nat) (a18 : Nat) (a19 : Nat) (a20 : Nat) (a21 : Nat) (a22 : Nat) (a23 : Nat) (a24 : Nat) (a25 : Nat) : Mt l yX10_begin cX10_begin 3 none ({ frames := 1, cells := 0, slots := 0, locals := 21 } : Room) G [.ref a0, .ref a1, .ref a2] [(a1, ob 2 [.int 0, .int 0, .int 0, .ref a3, .ref a4, .ref a5, .ref a6, .ref a7, .ref a8]), (a5, aI G 72 (fl_fill (-1) 0 72)), (a2, ob 1 [.ref a9, .ref a10, .int 0, .int 0]), (a0, ob 9 [.int 6, .int 3, .int 120, .ref a11, .ref a12, .ref a1, .int 0, .int 0, .int 0, .int 0, .ref a13, .ref a14, .int 0, .int 0, .ref a15, .ref a16, .ref a17, .ref a18]), (a12, ob 4 [.int 0, .int 0, .int 0, .int 0, .int 0, .int 0, .int 0, .ref a19, .ref a20, .ref a21, .ref a22, .ref a23, .ref a24, .ref a25])] (qV G (fun (w : Unit) => True) (fun w => [(a1, ob 2 [.int 0, .int 0, .int 0, .ref a3, .ref a4, .ref a5, .ref a6, .ref a7, .ref a8]), (a5, aI G 72 (fl_fill (-1) 0 72)), (a2, ob 1 [.ref a9, .ref a10, .int 0, .int 0]), (a0, ob 9 [.int 6, .int 3, .int 120, .ref a11, .ref a12, .ref a1, .int (-6), .int 0, .int 0, .int (-1), .ref a13, .ref a14, .int 0, .int 0, .ref a15, .ref a16, .ref a17, .ref a18]), (a12, ob 4 [.int 0, .int 0, .int 0, .int 0, .int 0, .int 0, .int 0, .ref a19, .ref a20, .ref a21, .ref a22, .ref a23, .ref a24, .ref a25])])) := by
  refine Mt.of (own := RX10) (cc := cX10_begin) (by decide) rfl (Nat.le_of_ble_eq_true rfl) ?_
  intro p e s m below meth c A ls cx hr hlk hmn hA hl hw
  have hx := cx.1
  have hb := cx.2.1
  have hl : lv_has ls 3 [(0, .ref a0), (1, .ref a1), (2, .ref a2)] := hl
  refine lv_aload_n hx hb dX10_begin_0 rfl (lv_at hl 0 rfl) ?_
  refine lv_aload_n hx hb dX10_begin_1 rfl (lv_at hl 1 rfl) ?_
  refine r_put cx hw inX10 (ci := 9) rfl tyX10_ok nmX10 3 rfl 5 (by decide) fl_X10_29 rfl rfl rfl (Nat.le_of_ble_eq_true rfl) (ws' := [(a1, ob 2 [.int 0, .int 0, .int 0, .ref a3, .ref a4, .ref a5, .ref a6, .ref a7, .ref a8]), (a5, aI G 72 (fl_fill (-1) 0 72)), (a2, ob 1 [.ref a9, .ref a10, .int 0, .int 0]), (a0, ob 9 [.int 6, .int 3, .int 120, .ref a11, .ref a12, .ref a1, .int 0, .int 0, .int 0, .int 0, .ref a13, .ref a14, .int 0, .int 0, .ref a15, .ref a16, .ref a17, .ref a18]), (a12, ob 4 [.int 0, .int 0, .int 0, .int 0, .int 0, .int 0, .int 0, .ref a19, .ref a20, .ref a21, .ref a22, .ref a23, .ref a24, .ref a25])]) rfl dX10_begin_2 (fun H locs hw => ?_)
  refine lv_aload_n hx hb dX10_begin_5 rfl (lv_at hl 0 rfl) ?_
  refine r_get cx hw inX10 (ci := 9) rfl 3 rfl 4 (by decide) fl_X10_25 rfl dX10_begin_6 ?_
  refine r_callVV (As := []) (rest := []) (wr := [(a1, ob 2 [.int 0, .int 0, .int 0, .ref a3, .ref a4, .ref a5, .ref a6, .ref a7, .ref a8]), (a5, aI G 72 (fl_fill (-1) 0 72)), (a2, ob 1 [.ref a9, .ref a10, .int 0, .int 0]), (a0, ob 9 [.int 6, .int 3, .int 120, .ref a11, .ref a12, .ref a1, .int 0, .int 0, .int 0, .int 0, .ref a13, .ref a14, .int 0, .int 0, .ref a15, .ref a16, .ref a17, .ref a18])]) cx hw hA (a_X5_clear_15 l G a12 a19 a20 a21 a22 a23 a24 a25) [4] [0, 1, 2, 3] rfl rfl rfl rfl rfl 4 rfl (ci := 4) rfl ml_X10_67 im_X5_clear se_X5_clear in_X5 co_X5_clear rfl hd_X5_clear rfl ⟨Nat.le_of_ble_eq_true rfl, Nat.le_of_ble_eq_true rfl⟩ hl.1 rfl (Nat.le_of_ble_eq_true rfl) dX10_begin_9 ⟨Nat.le_of_ble_eq_true rfl, Nat.le_of_ble_eq_true rfl⟩ (fun u1 H locs hr2 hw => ?_)
  have hw : Wd G A [(a1, ob 2 [.int 0, .int 0, .int 0, .ref a3, .ref a4, .ref a5, .ref a6, .ref a7, .ref a8]), (a5, aI G 72 (fl_fill (-1) 0 72)), (a2, ob 1 [.ref a9, .ref a10, .int 0, .int 0]), (a0, ob 9 [.int 6, .int 3, .int 120, .ref a11, .ref a12, .ref a1, .int 0, .int 0, .int 0, .int 0, .ref a13, .ref a14, .int 0, .int 0, .ref a15, .ref a16, .ref a17, .ref a18]), (a12, ob 4 [.int 0, .int 0, .int 0, .int 0, .int 0, .int 0, .int 0, .ref a19, .ref a20, .ref a21, .ref a22, .ref a23, .ref a24, .ref a25])] s.heap _ _ := hw
  refine lv_aload_n hx hb dX10_begin_12 rfl (lv_at hl 0 rfl) ?_
  refine lv_iconst (v := 0) hx hb dX10_begin_13 (by decide) ?_
  refine r_put cx hw inX10 (ci := 9) rfl tyX10_ok nmX10 3 rfl 6 (by decide) fl_X10_70 rfl rfl rfl (Nat.le_of_ble_eq_true rfl) (ws' := [(a1, ob 2 [.int 0, .int 0, .int 0, .ref a3, .ref a4, .ref a5, .ref a6, .ref a7, .ref a8]), (a5, aI G 72 (fl_fill (-1) 0 72)), (a2, ob 1 [.ref a9, .ref a10, .int 0, .int 0]), (a0, ob 9 [.int 6, .int 3, .int 120, .ref a11, .ref a12, .ref a1, .int 0, .int 0, .int 0, .int 0, .ref a13, .ref a14, .int 0, .int 0, .ref a15, .ref a16, .ref a17, .ref a18]), (a12, ob 4 [.int 0, .int 0, .int 0, .int 0, .int 0, .int 0, .int 0, .ref a19, .ref a20, .ref a21, .ref a22, .ref a23, .ref a24, .ref a25])]) rfl dX10_begin_14 (fun H locs hw => ?_)
  refine lv_aload_n hx hb dX10_begin_17 rfl (lv_at hl 0 rfl) ?_
  refine lv_iconst (v := (-1)) hx hb dX10_begin_18 (by decide) ?_
  refine r_put cx hw inX10 (ci := 9) rfl tyX10_ok nmX10 3 rfl 9 (by decide) fl_X10_73 rfl rfl rfl (Nat.le_of_ble_eq_true rfl) (ws' := [(a1, ob 2 [.int 0, .int 0, .int 0, .ref a3, .ref a4, .ref a5, .ref a6, .ref a7, .ref a8]), (a5, aI G 72 (fl_fill (-1) 0 72)), (a2, ob 1 [.ref a9, .ref a10, .int 0, .int 0]), (a0, ob 9 [.int 6, .int 3, .int 120, .ref a11, .ref a12, .ref a1, .int 0, .int 0, .int 0, .int (-1), .ref a13, .ref a14, .int 0, .int 0, .ref a15, .ref a16, .ref a17, .ref a18]), (a12, ob 4 [.int 0, .int 0, .int 0, .int 0, .int 0, .int 0, .int 0, .ref a19, .ref a20, .ref a21, .ref a22, .ref a23, .ref a24, .ref a25])]) rfl dX10_begin_19 (fun H locs hw => ?_)
  refine lv_aload_n hx hb dX10_begin_22 rfl (lv_at hl 0 rfl) ?_
  refine r_get cx hw inX10 (ci := 9) rfl 3 rfl 5 (by decide) fl_X10_29 rfl dX10_begin_23 ?_
  refine lv_aload_n hx hb dX10_begin_26 rfl (lv_at hl 2 rfl) ?_
  refine r_get cx hw inX2 (ci := 1) rfl 2 rfl 3 (by decide) fl_X10_76 rfl dX10_begin_27 ?_
  refine r_callVI (As := [.int 0]) (rest := []) (wr := [(a2, ob 1 [.ref a9, .ref a10, .int 0, .int 0]), (a0, ob 9 [.int 6, .int 3, .int 120, .ref a11, .ref a12, .ref a1, .int 0, .int 0, .int 0, .int (-1), .ref a13, .ref a14, .int 0, .int 0, .ref a15, .ref a16, .ref a17, .ref a18]), (a12, ob 4 [.int 0, .int 0, .int 0, .int 0, .int 0, .int 0, .int 0, .ref a19, .ref a20, .ref a21, .ref a22, .ref a23, .ref a24, .ref a25])]) cx hw hA (a_X3_startOf_32 l G a1 a3 a4 a5 a6 a7 a8) [0, 1] [2, 3, 4] rfl rfl rfl rfl rfl 0 rfl (ci := 2) rfl ml_X10_79 im_X3_startOf se_X3_startOf in_X3 co_X3_startOf rfl hd_X3_startOf rfl ⟨Nat.le_of_ble_eq_true rfl, Nat.le_of_ble_eq_true rfl⟩ hl.1 rfl (Nat.le_of_ble_eq_true rfl) dX10_begin_30 ⟨Nat.le_of_ble_eq_true rfl, Nat.le_of_ble_eq_true rfl⟩ (fun r4 u3 H locs hr4 hw => ?_)
  have hw : Wd G A [(a2, ob 1 [.ref a9, .ref a10, .int 0, .int 0]), (a0, ob 9 [.int 6, .int 3, .int 120, .ref a11, .ref a12, .ref a1, .int 0, .int 0, .int 0, .int (-1), .ref a13, .ref a14, .int 0, .int 0, .ref a15, .ref a16, .ref a17, .ref a18]), (a12, ob 4 [.int 0, .int 0, .int 0, .int 0, .int 0, .int 0, .int 0, .ref a19, .ref a20, .ref a21, .ref a22, .ref a23, .ref a24, .ref a25]), (a1, ob 2 [.int 0, .int 0, .int 0, .ref a3, .ref a4, .ref a5, .ref a6, .ref a7, .ref a8]), (a5, aI G 72 (fl_fill (-1) 0 72))] s.heap _ _ := hw
  subst hr4
  refine lv_iconst (v := (-1)) hx hb dX10_begin_33 (by decide) ?_
  refine lv_icmp_ne (tgt := 44) hx hb dX10_begin_34 (by decide) (fun c9 => absurd (by decide) c9) (fun _ => ?_)
  refine lv_aload_n hx hb dX10_begin_37 rfl (lv_at hl 0 rfl) ?_
  refine lv_bipush (v := (-6)) hx hb dX10_begin_38 (by decide) ?_
  refine r_put cx hw inX10 (ci := 9) rfl tyX10_ok nmX10 1 rfl 6 (by decide) fl_X10_70 rfl rfl rfl (Nat.le_of_ble_eq_true rfl) (ws' := [(a2, ob 1 [.ref a9, .ref a10, .int 0, .int 0]), (a0, ob 9 [.int 6, .int 3, .int 120, .ref a11, .ref a12, .ref a1, .int (-6), .int 0, .int 0, .int (-1), .ref a13, .ref a14, .int 0, .int 0, .ref a15, .ref a16, .ref a17, .ref a18]), (a12, ob 4 [.int 0, .int 0, .int 0, .int 0, .int 0, .int 0, .int 0, .ref a19, .ref a20, .ref a21, .ref a22, .ref a23, .ref a24, .ref a25]), (a1, ob 2 [.int 0, .int 0, .int 0, .ref a3, .ref a4, .ref a5, .ref a6, .ref a7, .ref a8]), (a5, aI G 72 (fl_fill (-1) 0 72))]) rfl dX10_begin_40 (fun H locs hw => ?_)
  have hw : Wd G A [(a1, ob 2 [.int 0, .int 0, .int 0, .ref a3, .ref a4, .ref a5, .ref a6, .ref a7, .ref a8]), (a5, aI G 72 (fl_fill (-1) 0 72)), (a2, ob 1 [.ref a9, .ref a10, .int 0, .int 0]), (a0, ob 9 [.int 6, .int 3, .int 120, .ref a11, .ref a12, .ref a1, .int (-6), .int 0, .int 0, .int (-1), .ref a13, .ref a14, .int 0, .int 0, .ref a15, .ref a16, .ref a17, .ref a18]), (a12, ob 4 [.int 0, .int 0, .int 0, .int 0, .int 0, .int 0, .int 0, .ref a19, .ref a20, .ref a21, .ref a22, .ref a23, .ref a24, .ref a25])] s.heap _ _ := hw.sub [3, 4, 0, 1, 2] rfl rfl
  exact r_vret cx hr hlk () trivial hw (Nat.le_of_ble_eq_true rfl) (Nat.le_of_ble_eq_true rfl) dX10_begin_43

set_option maxHeartbeats 4000000 in
set_option maxRecDepth 100000 in
theorem a_X10_isWorking_34 (l : Launch) (G : Gt) (a0 : Nat) (a1 : Nat) (a2 : Nat) (a3 : Nat) (a4 : Nat) (a5 : Nat) (a6 : Nat) (a7 : Nat) (a8 : Nat) (a9 : Nat) : Mt l yX10_isWorking cX10_isWorking 1 (some .boolean) ({ frames := 0, cells := 0, slots := 0, locals := 0 } : Room) G [.ref a0] [(a0, ob 9 [.int 6, .int 3, .int 120, .ref a1, .ref a2, .ref a3, .int (-6), .int 0, .int 0, .int (-1), .ref a4, .ref a5, .int 0, .int 0, .ref a6, .ref a7, .ref a8, .ref a9])] (qI G (fun (r : Int32) (w : Unit) => r = 0) (fun w => [(a0, ob 9 [.int 6, .int 3, .int 120, .ref a1, .ref a2, .ref a3, .int (-6), .int 0, .int 0, .int (-1), .ref a4, .ref a5, .int 0, .int 0, .ref a6, .ref a7, .ref a8, .ref a9])])) := by
  refine Mt.of (own := RX10) (cc := cX10_isWorking) (by decide) rfl (Nat.le_of_ble_eq_true rfl) ?_
  intro p e s m below meth c A ls cx hr hlk hmn hA hl hw
  have hx := cx.1
  have hb := cx.2.1
  have hl : lv_has ls 1 [(0, .ref a0)] := hl
  refine lv_aload_n hx hb dX10_isWorking_0 rfl (lv_at hl 0 rfl) ?_
  refine r_get cx hw inX10 (ci := 9) rfl 0 rfl 6 (by decide) fl_X10_70 rfl dX10_isWorking_1 ?_
  refine lv_if_ne (tgt := 25) hx hb dX10_isWorking_4 (by decide) (fun _ => ?_) (fun c9 => absurd c9 (by decide))
  refine lv_iconst (v := 0) hx hb dX10_isWorking_25 (by decide) ?_
  have hw : Wd G A [(a0, ob 9 [.int 6, .int 3, .int 120, .ref a1, .ref a2, .ref a3, .int (-6), .int 0, .int 0, .int (-1), .ref a4, .ref a5, .int 0, .int 0, .ref a6, .ref a7, .ref a8, .ref a9])] s.heap _ _ := hw.sub [0] rfl rfl
  exact r_zret cx hr rfl hlk () rfl hw (Nat.le_of_ble_eq_true rfl) (Nat.le_of_ble_eq_true rfl) dX10_isWorking_26

set_option maxHeartbeats 4000000 in
set_option maxRecDepth 100000 in
theorem a_X10_answer_35 (l : Launch) (G : Gt) (a0 : Nat) (a1 : Nat) (a2 : Nat) (a3 : Nat) (a4 : Nat) (a5 : Nat) (a6 : Nat) (a7 : Nat) (a8 : Nat) (a9 : Nat) (a10 : Nat) (a11 : Nat) (a12 : Nat) (a13 : Nat) (a14 : Nat) (a15 : Nat) (a16 : Nat) : Mt l yX10_answer cX10_answer 1 (some .int) ({ frames := 1, cells := 0, slots := 0, locals := 20 } : Room) G [.ref a0] [(a1, ob 4 [.int 0, .int 0, .int 0, .int 0, .int 0, .int 0, .int 0, .ref a2, .ref a3, .ref a4, .ref a5, .ref a6, .ref a7, .ref a8]), (a0, ob 9 [.int 6, .int 3, .int 120, .ref a9, .ref a1, .ref a10, .int (-6), .int 0, .int 0, .int (-1), .ref a11, .ref a12, .int 0, .int 0, .ref a13, .ref a14, .ref a15, .ref a16])] (qI G (fun (r : Int32) (w : Unit) => r = (-6)) (fun w => [(a1, ob 4 [.int 0, .int 0, .int 0, .int 0, .int 0, .int 0, .int 0, .ref a2, .ref a3, .ref a4, .ref a5, .ref a6, .ref a7, .ref a8]), (a0, ob 9 [.int 6, .int 3, .int 120, .ref a9, .ref a1, .ref a10, .int (-6), .int 0, .int 0, .int (-1), .ref a11, .ref a12, .int 0, .int 0, .ref a13, .ref a14, .ref a15, .ref a16])])) := by
  refine Mt.of (own := RX10) (cc := cX10_answer) (by decide) rfl (Nat.le_of_ble_eq_true rfl) ?_
  intro p e s m below meth c A ls cx hr hlk hmn hA hl hw
  have hx := cx.1
  have hb := cx.2.1
  have hl : lv_has ls 1 [(0, .ref a0)] := hl
  refine lv_aload_n hx hb dX10_answer_0 rfl (lv_at hl 0 rfl) ?_
  refine r_get cx hw inX10 (ci := 9) rfl 1 rfl 6 (by decide) fl_X10_70 rfl dX10_answer_1 ?_
  refine lv_if_eq (tgt := 19) hx hb dX10_answer_4 (by decide) (fun c9 => absurd c9 (by decide)) (fun _ => ?_)
  refine lv_aload_n hx hb dX10_answer_7 rfl (lv_at hl 0 rfl) ?_
  refine r_get cx hw inX10 (ci := 9) rfl 1 rfl 4 (by decide) fl_X10_25 rfl dX10_answer_8 ?_
  refine r_callVV (As := []) (rest := []) (wr := [(a0, ob 9 [.int 6, .int 3, .int 120, .ref a9, .ref a1, .ref a10, .int (-6), .int 0, .int 0, .int (-1), .ref a11, .ref a12, .int 0, .int 0, .ref a13, .ref a14, .ref a15, .ref a16])]) cx hw hA (a_X5_clear_15 l G a1 a2 a3 a4 a5 a6 a7 a8) [0] [1] rfl rfl rfl rfl rfl 0 rfl (ci := 4) rfl ml_X10_67 im_X5_clear se_X5_clear in_X5 co_X5_clear rfl hd_X5_clear rfl ⟨Nat.le_of_ble_eq_true rfl, Nat.le_of_ble_eq_true rfl⟩ hl.1 rfl (Nat.le_of_ble_eq_true rfl) dX10_answer_11 ⟨Nat.le_of_ble_eq_true rfl, Nat.le_of_ble_eq_true rfl⟩ (fun u1 H locs hr2 hw => ?_)
  have hw : Wd G A [(a0, ob 9 [.int 6, .int 3, .int 120, .ref a9, .ref a1, .ref a10, .int (-6), .int 0, .int 0, .int (-1), .ref a11, .ref a12, .int 0, .int 0, .ref a13, .ref a14, .ref a15, .ref a16]), (a1, ob 4 [.int 0, .int 0, .int 0, .int 0, .int 0, .int 0, .int 0, .ref a2, .ref a3, .ref a4, .ref a5, .ref a6, .ref a7, .ref a8])] s.heap _ _ := hw
  refine lv_aload_n hx hb dX10_answer_14 rfl (lv_at hl 0 rfl) ?_
  refine r_get cx hw inX10 (ci := 9) rfl 0 rfl 6 (by decide) fl_X10_70 rfl dX10_answer_15 ?_
  have hw : Wd G A [(a1, ob 4 [.int 0, .int 0, .int 0, .int 0, .int 0, .int 0, .int 0, .ref a2, .ref a3, .ref a4, .ref a5, .ref a6, .ref a7, .ref a8]), (a0, ob 9 [.int 6, .int 3, .int 120, .ref a9, .ref a1, .ref a10, .int (-6), .int 0, .int 0, .int (-1), .ref a11, .ref a12, .int 0, .int 0, .ref a13, .ref a14, .ref a15, .ref a16])] s.heap _ _ := hw.sub [1, 0] rfl rfl
  exact r_iret cx hr hlk () rfl hw (Nat.le_of_ble_eq_true rfl) (Nat.le_of_ble_eq_true rfl) dX10_answer_18

set_option maxHeartbeats 4000000 in
set_option maxRecDepth 100000 in
theorem a_X10_answer_36 (l : Launch) (G : Gt) (a0 : Nat) (a1 : Nat) (a2 : Nat) (a3 : Nat) (a4 : Nat) (a5 : Nat) (a6 : Nat) (a7 : Nat) (a8 : Nat) (a9 : Nat) (a10 : Nat) (a11 : Nat) (a12 : Nat) (a13 : Nat) (a14 : Nat) (a15 : Nat) (a16 : Nat) : Mt l yX10_answer cX10_answer 1 (some .int) ({ frames := 1, cells := 0, slots := 0, locals := 20 } : Room) G [.ref a0] [(a1, ob 4 [.int 0, .int 0, .int 0, .int 0, .int 0, .int 0, .int 0, .ref a2, .ref a3, .ref a4, .ref a5, .ref a6, .ref a7, .ref a8]), (a0, ob 9 [.int 6, .int 3, .int 120, .ref a9, .ref a1, .ref a10, .int (-6), .int 0, .int 0, .int (-1), .ref a11, .ref a12, .int 0, .int 0, .ref a13, .ref a14, .ref a15, .ref a16])] (qI G (fun (r : Int32) (w : Unit) => r = (-6)) (fun w => [(a1, ob 4 [.int 0, .int 0, .int 0, .int 0, .int 0, .int 0, .int 0, .ref a2, .ref a3, .ref a4, .ref a5, .ref a6, .ref a7, .ref a8]), (a0, ob 9 [.int 6, .int 3, .int 120, .ref a9, .ref a1, .ref a10, .int (-6), .int 0, .int 0, .int (-1), .ref a11, .ref a12, .int 0, .int 0, .ref a13, .ref a14, .ref a15, .ref a16])])) := by
  refine Mt.of (own := RX10) (cc := cX10_answer) (by decide) rfl (Nat.le_of_ble_eq_true rfl) ?_
  intro p e s m below meth c A ls cx hr hlk hmn hA hl hw
  have hx := cx.1
  have hb := cx.2.1
  have hl : lv_has ls 1 [(0, .ref a0)] := hl
  refine lv_aload_n hx hb dX10_answer_0 rfl (lv_at hl 0 rfl) ?_
  refine r_get cx hw inX10 (ci := 9) rfl 1 rfl 6 (by decide) fl_X10_70 rfl dX10_answer_1 ?_
  refine lv_if_eq (tgt := 19) hx hb dX10_answer_4 (by decide) (fun c9 => absurd c9 (by decide)) (fun _ => ?_)
  refine lv_aload_n hx hb dX10_answer_7 rfl (lv_at hl 0 rfl) ?_
  refine r_get cx hw inX10 (ci := 9) rfl 1 rfl 4 (by decide) fl_X10_25 rfl dX10_answer_8 ?_
  refine r_callVV (As := []) (rest := []) (wr := [(a0, ob 9 [.int 6, .int 3, .int 120, .ref a9, .ref a1, .ref a10, .int (-6), .int 0, .int 0, .int (-1), .ref a11, .ref a12, .int 0, .int 0, .ref a13, .ref a14, .ref a15, .ref a16])]) cx hw hA (a_X5_clear_15 l G a1 a2 a3 a4 a5 a6 a7 a8) [0] [1] rfl rfl rfl rfl rfl 0 rfl (ci := 4) rfl ml_X10_67 im_X5_clear se_X5_clear in_X5 co_X5_clear rfl hd_X5_clear rfl ⟨Nat.le_of_ble_eq_true rfl, Nat.le_of_ble_eq_true rfl⟩ hl.1 rfl (Nat.le_of_ble_eq_true rfl) dX10_answer_11 ⟨Nat.le_of_ble_eq_true rfl, Nat.le_of_ble_eq_true rfl⟩ (fun u1 H locs hr2 hw => ?_)
  have hw : Wd G A [(a0, ob 9 [.int 6, .int 3, .int 120, .ref a9, .ref a1, .ref a10, .int (-6), .int 0, .int 0, .int (-1), .ref a11, .ref a12, .int 0, .int 0, .ref a13, .ref a14, .ref a15, .ref a16]), (a1, ob 4 [.int 0, .int 0, .int 0, .int 0, .int 0, .int 0, .int 0, .ref a2, .ref a3, .ref a4, .ref a5, .ref a6, .ref a7, .ref a8])] s.heap _ _ := hw
  refine lv_aload_n hx hb dX10_answer_14 rfl (lv_at hl 0 rfl) ?_
  refine r_get cx hw inX10 (ci := 9) rfl 0 rfl 6 (by decide) fl_X10_70 rfl dX10_answer_15 ?_
  have hw : Wd G A [(a1, ob 4 [.int 0, .int 0, .int 0, .int 0, .int 0, .int 0, .int 0, .ref a2, .ref a3, .ref a4, .ref a5, .ref a6, .ref a7, .ref a8]), (a0, ob 9 [.int 6, .int 3, .int 120, .ref a9, .ref a1, .ref a10, .int (-6), .int 0, .int 0, .int (-1), .ref a11, .ref a12, .int 0, .int 0, .ref a13, .ref a14, .ref a15, .ref a16])] s.heap _ _ := hw.sub [1, 0] rfl rfl
  exact r_iret cx hr hlk () rfl hw (Nat.le_of_ble_eq_true rfl) (Nat.le_of_ble_eq_true rfl) dX10_answer_18

set_option maxHeartbeats 4000000 in
set_option maxRecDepth 100000 in
theorem a_X10_answer_37 (l : Launch) (G : Gt) (a0 : Nat) (a1 : Nat) (a2 : Nat) (a3 : Nat) (a4 : Nat) (a5 : Nat) (a6 : Nat) (a7 : Nat) (a8 : Nat) (a9 : Nat) (a10 : Nat) (a11 : Nat) (a12 : Nat) (a13 : Nat) (a14 : Nat) (a15 : Nat) (a16 : Nat) : Mt l yX10_answer cX10_answer 1 (some .int) ({ frames := 1, cells := 0, slots := 0, locals := 20 } : Room) G [.ref a0] [(a1, ob 4 [.int 0, .int 0, .int 0, .int 0, .int 0, .int 0, .int 0, .ref a2, .ref a3, .ref a4, .ref a5, .ref a6, .ref a7, .ref a8]), (a0, ob 9 [.int 6, .int 3, .int 120, .ref a9, .ref a1, .ref a10, .int (-6), .int 0, .int 0, .int (-1), .ref a11, .ref a12, .int 0, .int 0, .ref a13, .ref a14, .ref a15, .ref a16])] (qI G (fun (r : Int32) (w : Unit) => r = (-6)) (fun w => [(a1, ob 4 [.int 0, .int 0, .int 0, .int 0, .int 0, .int 0, .int 0, .ref a2, .ref a3, .ref a4, .ref a5, .ref a6, .ref a7, .ref a8]), (a0, ob 9 [.int 6, .int 3, .int 120, .ref a9, .ref a1, .ref a10, .int (-6), .int 0, .int 0, .int (-1), .ref a11, .ref a12, .int 0, .int 0, .ref a13, .ref a14, .ref a15, .ref a16])])) := by
  refine Mt.of (own := RX10) (cc := cX10_answer) (by decide) rfl (Nat.le_of_ble_eq_true rfl) ?_
  intro p e s m below meth c A ls cx hr hlk hmn hA hl hw
  have hx := cx.1
  have hb := cx.2.1
  have hl : lv_has ls 1 [(0, .ref a0)] := hl
  refine lv_aload_n hx hb dX10_answer_0 rfl (lv_at hl 0 rfl) ?_
  refine r_get cx hw inX10 (ci := 9) rfl 1 rfl 6 (by decide) fl_X10_70 rfl dX10_answer_1 ?_
  refine lv_if_eq (tgt := 19) hx hb dX10_answer_4 (by decide) (fun c9 => absurd c9 (by decide)) (fun _ => ?_)
  refine lv_aload_n hx hb dX10_answer_7 rfl (lv_at hl 0 rfl) ?_
  refine r_get cx hw inX10 (ci := 9) rfl 1 rfl 4 (by decide) fl_X10_25 rfl dX10_answer_8 ?_
  refine r_callVV (As := []) (rest := []) (wr := [(a0, ob 9 [.int 6, .int 3, .int 120, .ref a9, .ref a1, .ref a10, .int (-6), .int 0, .int 0, .int (-1), .ref a11, .ref a12, .int 0, .int 0, .ref a13, .ref a14, .ref a15, .ref a16])]) cx hw hA (a_X5_clear_15 l G a1 a2 a3 a4 a5 a6 a7 a8) [0] [1] rfl rfl rfl rfl rfl 0 rfl (ci := 4) rfl ml_X10_67 im_X5_clear se_X5_clear in_X5 co_X5_clear rfl hd_X5_clear rfl ⟨Nat.le_of_ble_eq_true rfl, Nat.le_of_ble_eq_true rfl⟩ hl.1 rfl (Nat.le_of_ble_eq_true rfl) dX10_answer_11 ⟨Nat.le_of_ble_eq_true rfl, Nat.le_of_ble_eq_true rfl⟩ (fun u1 H locs hr2 hw => ?_)
  have hw : Wd G A [(a0, ob 9 [.int 6, .int 3, .int 120, .ref a9, .ref a1, .ref a10, .int (-6), .int 0, .int 0, .int (-1), .ref a11, .ref a12, .int 0, .int 0, .ref a13, .ref a14, .ref a15, .ref a16]), (a1, ob 4 [.int 0, .int 0, .int 0, .int 0, .int 0, .int 0, .int 0, .ref a2, .ref a3, .ref a4, .ref a5, .ref a6, .ref a7, .ref a8])] s.heap _ _ := hw
  refine lv_aload_n hx hb dX10_answer_14 rfl (lv_at hl 0 rfl) ?_
  refine r_get cx hw inX10 (ci := 9) rfl 0 rfl 6 (by decide) fl_X10_70 rfl dX10_answer_15 ?_
  have hw : Wd G A [(a1, ob 4 [.int 0, .int 0, .int 0, .int 0, .int 0, .int 0, .int 0, .ref a2, .ref a3, .ref a4, .ref a5, .ref a6, .ref a7, .ref a8]), (a0, ob 9 [.int 6, .int 3, .int 120, .ref a9, .ref a1, .ref a10, .int (-6), .int 0, .int 0, .int (-1), .ref a11, .ref a12, .int 0, .int 0, .ref a13, .ref a14, .ref a15, .ref a16])] s.heap _ _ := hw.sub [1, 0] rfl rfl
  exact r_iret cx hr hlk () rfl hw (Nat.le_of_ble_eq_true rfl) (Nat.le_of_ble_eq_true rfl) dX10_answer_18

set_option maxHeartbeats 4000000 in
set_option maxRecDepth 100000 in
theorem xa_specialise (l : Launch) (G : Gt) (h0 : Nat) (u : Nat → Nat) : Mt l yX11_specialise cX11_specialise 2 (some .int) ({ frames := 2, cells := 0, slots := 0, locals := 43 } : Room) G [.ref h0] [(h0, ob 10 [.ref (u 0), .int 0, .int (-1), .ref (u 1), .ref (u 2), .ref (u 3), .ref (u 4), .ref (u 5), .ref (u 6), .ref (u 7), .int 0, .ref (u 8), .ref (u 9), .ref (u 10), .ref (u 11), .ref (u 12), .ref (u 13), .ref (u 14), .ref (u 15), .ref (u 16)]), ((u 2), ob 2 [.int 0, .int 0, .int 0, .ref (u 17), .ref (u 18), .ref (u 19), .ref (u 20), .ref (u 21), .ref (u 22)]), ((u 19), aI G 72 (fl_fill (-1) 0 72)), ((u 4), ob 1 [.ref (u 30), .ref (u 31), .int 0, .int 0]), ((u 8), ob 9 [.int 6, .int 3, .int 120, .ref (u 38), .ref (u 9), .ref (u 2), .int 0, .int 0, .int 0, .int 0, .ref (u 39), .ref (u 40), .int 0, .int 0, .ref (u 41), .ref (u 42), .ref (u 43), .ref (u 44)]), ((u 9), ob 4 [.int 0, .int 0, .int 0, .int 0, .int 0, .int 0, .int 0, .ref (u 45), .ref (u 46), .ref (u 47), .ref (u 48), .ref (u 49), .ref (u 50), .ref (u 51)])] (qI G (fun (r : Int32) (w : Unit) => r = (-6)) (fun w => [])) := by
  refine Mt.of (own := RX11) (cc := cX11_specialise) (by decide) rfl (Nat.le_of_ble_eq_true rfl) ?_
  intro p e s m below meth c A ls cx hr hlk hmn hA hl hw
  have hx := cx.1
  have hb := cx.2.1
  have hl : lv_has ls 2 [(0, .ref h0)] := hl
  refine lv_aload_n hx hb dX11_specialise_0 rfl (lv_at hl 0 rfl) ?_
  refine r_get cx hw inX11 (ci := 10) rfl 0 rfl 11 (by decide) fl_X11_83 rfl dX11_specialise_1 ?_
  refine lv_aload_n hx hb dX11_specialise_4 rfl (lv_at hl 0 rfl) ?_
  refine r_get cx hw inX11 (ci := 10) rfl 0 rfl 4 (by decide) fl_X11_23 rfl dX11_specialise_5 ?_
  refine lv_aload_n hx hb dX11_specialise_8 rfl (lv_at hl 0 rfl) ?_
  refine r_get cx hw inX11 (ci := 10) rfl 0 rfl 6 (by decide) fl_X11_44 rfl dX11_specialise_9 ?_
  refine r_callVV (As := [.ref (u 2), .ref (u 4)]) (rest := []) (wr := [(h0, ob 10 [.ref (u 0), .int 0, .int (-1), .ref (u 1), .ref (u 2), .ref (u 3), .ref (u 4), .ref (u 5), .ref (u 6), .ref (u 7), .int 0, .ref (u 8), .ref (u 9), .ref (u 10), .ref (u 11), .ref (u 12), .ref (u 13), .ref (u 14), .ref (u 15), .ref (u 16)])]) cx hw hA (a_X10_begin_33 l G (u 8) (u 2) (u 4) (u 17) (u 18) (u 19) (u 20) (u 21) (u 22) (u 30) (u 31) (u 38) (u 9) (u 39) (u 40) (u 41) (u 42) (u 43) (u 44) (u 45) (u 46) (u 47) (u 48) (u 49) (u 50) (u 51)) [1, 2, 3, 4, 5] [0] rfl rfl rfl rfl rfl 4 rfl (ci := 9) rfl ml_X11_176 im_X10_begin se_X10_begin in_X10 co_X10_begin rfl hd_X10_begin rfl ⟨Nat.le_of_ble_eq_true rfl, Nat.le_of_ble_eq_true rfl⟩ hl.1 rfl (Nat.le_of_ble_eq_true rfl) dX11_specialise_12 ⟨Nat.le_of_ble_eq_true rfl, Nat.le_of_ble_eq_true rfl⟩ (fun u1 H locs hr2 hw => ?_)
  have hw : Wd G A [(h0, ob 10 [.ref (u 0), .int 0, .int (-1), .ref (u 1), .ref (u 2), .ref (u 3), .ref (u 4), .ref (u 5), .ref (u 6), .ref (u 7), .int 0, .ref (u 8), .ref (u 9), .ref (u 10), .ref (u 11), .ref (u 12), .ref (u 13), .ref (u 14), .ref (u 15), .ref (u 16)]), ((u 2), ob 2 [.int 0, .int 0, .int 0, .ref (u 17), .ref (u 18), .ref (u 19), .ref (u 20), .ref (u 21), .ref (u 22)]), ((u 19), aI G 72 (fl_fill (-1) 0 72)), ((u 4), ob 1 [.ref (u 30), .ref (u 31), .int 0, .int 0]), ((u 8), ob 9 [.int 6, .int 3, .int 120, .ref (u 38), .ref (u 9), .ref (u 2), .int (-6), .int 0, .int 0, .int (-1), .ref (u 39), .ref (u 40), .int 0, .int 0, .ref (u 41), .ref (u 42), .ref (u 43), .ref (u 44)]), ((u 9), ob 4 [.int 0, .int 0, .int 0, .int 0, .int 0, .int 0, .int 0, .ref (u 45), .ref (u 46), .ref (u 47), .ref (u 48), .ref (u 49), .ref (u 50), .ref (u 51)])] s.heap _ _ := hw
  refine lv_iconst (v := 0) hx hb dX11_specialise_15 (by decide) ?_
  refine lv_istore_n (lv' := [(1, .int 0), (0, .ref h0)]) hx hb dX11_specialise_16 rfl hl (by decide) rfl (fun ls hl => ?_)
  refine lv_iload_n hx hb dX11_specialise_17 rfl (lv_at hl 0 rfl) ?_
  refine lv_ldc hx hb cx.2.2.2.1 (cx.2.2.2.2.1 _ cs_X11_179) dX11_specialise_18 ?_
  refine lv_icmp_ge (tgt := 46) hx hb dX11_specialise_20 (by decide) (fun c9 => absurd c9 (by decide)) (fun _ => ?_)
  refine lv_aload_n hx hb dX11_specialise_23 rfl (lv_at hl 1 rfl) ?_
  refine r_get cx hw inX11 (ci := 10) rfl 0 rfl 11 (by decide) fl_X11_83 rfl dX11_specialise_24 ?_
  refine r_callVI (As := []) (rest := []) (wr := [(h0, ob 10 [.ref (u 0), .int 0, .int (-1), .ref (u 1), .ref (u 2), .ref (u 3), .ref (u 4), .ref (u 5), .ref (u 6), .ref (u 7), .int 0, .ref (u 8), .ref (u 9), .ref (u 10), .ref (u 11), .ref (u 12), .ref (u 13), .ref (u 14), .ref (u 15), .ref (u 16)]), ((u 2), ob 2 [.int 0, .int 0, .int 0, .ref (u 17), .ref (u 18), .ref (u 19), .ref (u 20), .ref (u 21), .ref (u 22)]), ((u 19), aI G 72 (fl_fill (-1) 0 72)), ((u 4), ob 1 [.ref (u 30), .ref (u 31), .int 0, .int 0]), ((u 9), ob 4 [.int 0, .int 0, .int 0, .int 0, .int 0, .int 0, .int 0, .ref (u 45), .ref (u 46), .ref (u 47), .ref (u 48), .ref (u 49), .ref (u 50), .ref (u 51)])]) cx hw hA (a_X10_isWorking_34 l G (u 8) (u 38) (u 9) (u 2) (u 39) (u 40) (u 41) (u 42) (u 43) (u 44)) [4] [0, 1, 2, 3, 5] rfl rfl rfl rfl rfl 4 rfl (ci := 9) rfl ml_X11_180 im_X10_isWorking se_X10_isWorking in_X10 co_X10_isWorking rfl hd_X10_isWorking rfl ⟨Nat.le_of_ble_eq_true rfl, Nat.le_of_ble_eq_true rfl⟩ hl.1 rfl (Nat.le_of_ble_eq_true rfl) dX11_specialise_27 ⟨Nat.le_of_ble_eq_true rfl, Nat.le_of_ble_eq_true rfl⟩ (fun r4 u3 H locs hr4 hw => ?_)
  have hw : Wd G A [(h0, ob 10 [.ref (u 0), .int 0, .int (-1), .ref (u 1), .ref (u 2), .ref (u 3), .ref (u 4), .ref (u 5), .ref (u 6), .ref (u 7), .int 0, .ref (u 8), .ref (u 9), .ref (u 10), .ref (u 11), .ref (u 12), .ref (u 13), .ref (u 14), .ref (u 15), .ref (u 16)]), ((u 2), ob 2 [.int 0, .int 0, .int 0, .ref (u 17), .ref (u 18), .ref (u 19), .ref (u 20), .ref (u 21), .ref (u 22)]), ((u 19), aI G 72 (fl_fill (-1) 0 72)), ((u 4), ob 1 [.ref (u 30), .ref (u 31), .int 0, .int 0]), ((u 9), ob 4 [.int 0, .int 0, .int 0, .int 0, .int 0, .int 0, .int 0, .ref (u 45), .ref (u 46), .ref (u 47), .ref (u 48), .ref (u 49), .ref (u 50), .ref (u 51)]), ((u 8), ob 9 [.int 6, .int 3, .int 120, .ref (u 38), .ref (u 9), .ref (u 2), .int (-6), .int 0, .int 0, .int (-1), .ref (u 39), .ref (u 40), .int 0, .int 0, .ref (u 41), .ref (u 42), .ref (u 43), .ref (u 44)])] s.heap _ _ := hw
  subst hr4
  refine lv_if_eq (tgt := 46) hx hb dX11_specialise_30 (by decide) (fun _ => ?_) (fun c9 => absurd (by decide) c9)
  refine lv_aload_n hx hb dX11_specialise_46 rfl (lv_at hl 1 rfl) ?_
  refine r_get cx hw inX11 (ci := 10) rfl 0 rfl 11 (by decide) fl_X11_83 rfl dX11_specialise_47 ?_
  refine r_callVI (As := []) (rest := []) (wr := [(h0, ob 10 [.ref (u 0), .int 0, .int (-1), .ref (u 1), .ref (u 2), .ref (u 3), .ref (u 4), .ref (u 5), .ref (u 6), .ref (u 7), .int 0, .ref (u 8), .ref (u 9), .ref (u 10), .ref (u 11), .ref (u 12), .ref (u 13), .ref (u 14), .ref (u 15), .ref (u 16)]), ((u 2), ob 2 [.int 0, .int 0, .int 0, .ref (u 17), .ref (u 18), .ref (u 19), .ref (u 20), .ref (u 21), .ref (u 22)]), ((u 19), aI G 72 (fl_fill (-1) 0 72)), ((u 4), ob 1 [.ref (u 30), .ref (u 31), .int 0, .int 0])]) cx hw hA (a_X10_answer_37 l G (u 8) (u 9) (u 45) (u 46) (u 47) (u 48) (u 49) (u 50) (u 51) (u 38) (u 2) (u 39) (u 40) (u 41) (u 42) (u 43) (u 44)) [4, 5] [0, 1, 2, 3] rfl rfl rfl rfl rfl 5 rfl (ci := 9) rfl ml_X11_187 im_X10_answer se_X10_answer in_X10 co_X10_answer rfl hd_X10_answer rfl ⟨Nat.le_of_ble_eq_true rfl, Nat.le_of_ble_eq_true rfl⟩ hl.1 rfl (Nat.le_of_ble_eq_true rfl) dX11_specialise_50 ⟨Nat.le_of_ble_eq_true rfl, Nat.le_of_ble_eq_true rfl⟩ (fun r6 u5 H locs hr6 hw => ?_)
  have hw : Wd G A [(h0, ob 10 [.ref (u 0), .int 0, .int (-1), .ref (u 1), .ref (u 2), .ref (u 3), .ref (u 4), .ref (u 5), .ref (u 6), .ref (u 7), .int 0, .ref (u 8), .ref (u 9), .ref (u 10), .ref (u 11), .ref (u 12), .ref (u 13), .ref (u 14), .ref (u 15), .ref (u 16)]), ((u 2), ob 2 [.int 0, .int 0, .int 0, .ref (u 17), .ref (u 18), .ref (u 19), .ref (u 20), .ref (u 21), .ref (u 22)]), ((u 19), aI G 72 (fl_fill (-1) 0 72)), ((u 4), ob 1 [.ref (u 30), .ref (u 31), .int 0, .int 0]), ((u 9), ob 4 [.int 0, .int 0, .int 0, .int 0, .int 0, .int 0, .int 0, .ref (u 45), .ref (u 46), .ref (u 47), .ref (u 48), .ref (u 49), .ref (u 50), .ref (u 51)]), ((u 8), ob 9 [.int 6, .int 3, .int 120, .ref (u 38), .ref (u 9), .ref (u 2), .int (-6), .int 0, .int 0, .int (-1), .ref (u 39), .ref (u 40), .int 0, .int 0, .ref (u 41), .ref (u 42), .ref (u 43), .ref (u 44)])] s.heap _ _ := hw
  subst hr6
  have hw : Wd G A [] s.heap _ _ := hw.sub [] rfl rfl
  exact r_iret cx hr hlk () rfl hw (Nat.le_of_ble_eq_true rfl) (Nat.le_of_ble_eq_true rfl) dX11_specialise_53

set_option maxHeartbeats 4000000 in
set_option maxRecDepth 100000 in
theorem a_X5_about_38 (l : Launch) (G : Gt) (a0 : Nat) (i0 : Int32) (a1 : Nat) (a2 : Nat) (a3 : Nat) (a4 : Nat) (a5 : Nat) (a6 : Nat) (a7 : Nat) : Mt l yX5_about cX5_about 2 (some .int) ({ frames := 0, cells := 0, slots := 0, locals := 0 } : Room) G [.ref a0, .int i0] [(a0, ob 4 [.int 0, .int 0, .int 0, .int 0, .int 0, .int 0, .int 0, .ref a1, .ref a2, .ref a3, .ref a4, .ref a5, .ref a6, .ref a7])] (qI G (fun (r : Int32) (w : Unit) => r = (-1)) (fun w => [(a0, ob 4 [.int 0, .int 0, .int 0, .int 0, .int 0, .int 0, .int 0, .ref a1, .ref a2, .ref a3, .ref a4, .ref a5, .ref a6, .ref a7])])) := by
  refine Mt.of (own := RX5) (cc := cX5_about) (by decide) rfl (Nat.le_of_ble_eq_true rfl) ?_
  intro p e s m below meth c A ls cx hr hlk hmn hA hl hw
  have hx := cx.1
  have hb := cx.2.1
  have hl : lv_has ls 2 [(0, .ref a0), (1, .int i0)] := hl
  refine lv_aload_n hx hb dX5_about_0 rfl (lv_at hl 0 rfl) ?_
  refine r_get cx hw inX5 (ci := 4) rfl 0 rfl 0 (by decide) fl_X5_40 rfl dX5_about_1 ?_
  refine lv_if_ne (tgt := 9) hx hb dX5_about_4 (by decide) (fun c9 => absurd (by decide) c9) (fun _ => ?_)
  refine lv_iconst (v := (-1)) hx hb dX5_about_7 (by decide) ?_
  have hw : Wd G A [(a0, ob 4 [.int 0, .int 0, .int 0, .int 0, .int 0, .int 0, .int 0, .ref a1, .ref a2, .ref a3, .ref a4, .ref a5, .ref a6, .ref a7])] s.heap _ _ := hw.sub [0] rfl rfl
  exact r_iret cx hr hlk () rfl hw (Nat.le_of_ble_eq_true rfl) (Nat.le_of_ble_eq_true rfl) dX5_about_8

set_option maxHeartbeats 4000000 in
set_option maxRecDepth 100000 in
theorem xa_residue (l : Launch) (G : Gt) (h0 : Nat) (u : Nat → Nat) (a : Int32) : Mt l yX11_residue cX11_residue 2 (some .int) ({ frames := 1, cells := 0, slots := 0, locals := 21 } : Room) G [.ref h0, .int a] [(h0, ob 10 [.ref (u 0), .int 0, .int (-1), .ref (u 1), .ref (u 2), .ref (u 3), .ref (u 4), .ref (u 5), .ref (u 6), .ref (u 7), .int 0, .ref (u 8), .ref (u 9), .ref (u 10), .ref (u 11), .ref (u 12), .ref (u 13), .ref (u 14), .ref (u 15), .ref (u 16)]), ((u 9), ob 4 [.int 0, .int 0, .int 0, .int 0, .int 0, .int 0, .int 0, .ref (u 45), .ref (u 46), .ref (u 47), .ref (u 48), .ref (u 49), .ref (u 50), .ref (u 51)])] (qI G (fun (r : Int32) (w : Unit) => r = (-1)) (fun w => [])) := by
  refine Mt.of (own := RX11) (cc := cX11_residue) (by decide) rfl (Nat.le_of_ble_eq_true rfl) ?_
  intro p e s m below meth c A ls cx hr hlk hmn hA hl hw
  have hx := cx.1
  have hb := cx.2.1
  have hl : lv_has ls 2 [(0, .ref h0), (1, .int a)] := hl
  refine lv_aload_n hx hb dX11_residue_0 rfl (lv_at hl 0 rfl) ?_
  refine r_get cx hw inX11 (ci := 10) rfl 0 rfl 12 (by decide) fl_X11_67 rfl dX11_residue_1 ?_
  refine lv_iload_n hx hb dX11_residue_4 rfl (lv_at hl 1 rfl) ?_
  refine r_callVI (As := [.int a]) (rest := []) (wr := [(h0, ob 10 [.ref (u 0), .int 0, .int (-1), .ref (u 1), .ref (u 2), .ref (u 3), .ref (u 4), .ref (u 5), .ref (u 6), .ref (u 7), .int 0, .ref (u 8), .ref (u 9), .ref (u 10), .ref (u 11), .ref (u 12), .ref (u 13), .ref (u 14), .ref (u 15), .ref (u 16)])]) cx hw hA (a_X5_about_38 l G (u 9) a (u 45) (u 46) (u 47) (u 48) (u 49) (u 50) (u 51)) [1] [0] rfl rfl rfl rfl rfl 1 rfl (ci := 4) rfl ml_X11_190 im_X5_about se_X5_about in_X5 co_X5_about rfl hd_X5_about rfl ⟨Nat.le_of_ble_eq_true rfl, Nat.le_of_ble_eq_true rfl⟩ hl.1 rfl (Nat.le_of_ble_eq_true rfl) dX11_residue_5 ⟨Nat.le_of_ble_eq_true rfl, Nat.le_of_ble_eq_true rfl⟩ (fun r2 u1 H locs hr2 hw => ?_)
  have hw : Wd G A [(h0, ob 10 [.ref (u 0), .int 0, .int (-1), .ref (u 1), .ref (u 2), .ref (u 3), .ref (u 4), .ref (u 5), .ref (u 6), .ref (u 7), .int 0, .ref (u 8), .ref (u 9), .ref (u 10), .ref (u 11), .ref (u 12), .ref (u 13), .ref (u 14), .ref (u 15), .ref (u 16)]), ((u 9), ob 4 [.int 0, .int 0, .int 0, .int 0, .int 0, .int 0, .int 0, .ref (u 45), .ref (u 46), .ref (u 47), .ref (u 48), .ref (u 49), .ref (u 50), .ref (u 51)])] s.heap _ _ := hw
  subst hr2
  have hw : Wd G A [] s.heap _ _ := hw.sub [] rfl rfl
  exact r_iret cx hr hlk () rfl hw (Nat.le_of_ble_eq_true rfl) (Nat.le_of_ble_eq_true rfl) dX11_residue_8

set_option maxHeartbeats 4000000 in
set_option maxRecDepth 100000 in
theorem a_X5_hasVariant_39 (l : Launch) (G : Gt) (a0 : Nat) (i0 : Int32) (a1 : Nat) (a2 : Nat) (a3 : Nat) (a4 : Nat) (a5 : Nat) (a6 : Nat) (a7 : Nat) : Mt l yX5_hasVariant cX5_hasVariant 2 (some .boolean) ({ frames := 0, cells := 0, slots := 0, locals := 0 } : Room) G [.ref a0, .int i0] [(a0, ob 4 [.int 0, .int 0, .int 0, .int 0, .int 0, .int 0, .int 0, .ref a1, .ref a2, .ref a3, .ref a4, .ref a5, .ref a6, .ref a7])] (qI G (fun (r : Int32) (w : Unit) => r = 0) (fun w => [(a0, ob 4 [.int 0, .int 0, .int 0, .int 0, .int 0, .int 0, .int 0, .ref a1, .ref a2, .ref a3, .ref a4, .ref a5, .ref a6, .ref a7])])) := by
  refine Mt.of (own := RX5) (cc := cX5_hasVariant) (by decide) rfl (Nat.le_of_ble_eq_true rfl) ?_
  intro p e s m below meth c A ls cx hr hlk hmn hA hl hw
  have hx := cx.1
  have hb := cx.2.1
  have hl : lv_has ls 2 [(0, .ref a0), (1, .int i0)] := hl
  refine lv_aload_n hx hb dX5_hasVariant_0 rfl (lv_at hl 0 rfl) ?_
  refine r_get cx hw inX5 (ci := 4) rfl 0 rfl 0 (by decide) fl_X5_40 rfl dX5_hasVariant_1 ?_
  refine lv_if_eq (tgt := 23) hx hb dX5_hasVariant_4 (by decide) (fun _ => ?_) (fun c9 => absurd (by decide) c9)
  refine lv_iconst (v := 0) hx hb dX5_hasVariant_23 (by decide) ?_
  have hw : Wd G A [(a0, ob 4 [.int 0, .int 0, .int 0, .int 0, .int 0, .int 0, .int 0, .ref a1, .ref a2, .ref a3, .ref a4, .ref a5, .ref a6, .ref a7])] s.heap _ _ := hw.sub [0] rfl rfl
  exact r_zret cx hr rfl hlk () rfl hw (Nat.le_of_ble_eq_true rfl) (Nat.le_of_ble_eq_true rfl) dX5_hasVariant_24

set_option maxHeartbeats 4000000 in
set_option maxRecDepth 100000 in
theorem a_X5_aboutVariant_40 (l : Launch) (G : Gt) (a0 : Nat) (i0 : Int32) (i1 : Int32) (a1 : Nat) (a2 : Nat) (a3 : Nat) (a4 : Nat) (a5 : Nat) (a6 : Nat) (a7 : Nat) : Mt l yX5_aboutVariant cX5_aboutVariant 3 (some .int) ({ frames := 1, cells := 0, slots := 0, locals := 21 } : Room) G [.ref a0, .int i0, .int i1] [(a0, ob 4 [.int 0, .int 0, .int 0, .int 0, .int 0, .int 0, .int 0, .ref a1, .ref a2, .ref a3, .ref a4, .ref a5, .ref a6, .ref a7])] (qI G (fun (r : Int32) (w : Unit) => r = (-1)) (fun w => [(a0, ob 4 [.int 0, .int 0, .int 0, .int 0, .int 0, .int 0, .int 0, .ref a1, .ref a2, .ref a3, .ref a4, .ref a5, .ref a6, .ref a7])])) := by
  refine Mt.of (own := RX5) (cc := cX5_aboutVariant) (by decide) rfl (Nat.le_of_ble_eq_true rfl) ?_
  intro p e s m below meth c A ls cx hr hlk hmn hA hl hw
  have hx := cx.1
  have hb := cx.2.1
  have hl : lv_has ls 3 [(0, .ref a0), (1, .int i0), (2, .int i1)] := hl
  refine lv_aload_n hx hb dX5_aboutVariant_0 rfl (lv_at hl 0 rfl) ?_
  refine lv_iload_n hx hb dX5_aboutVariant_1 rfl (lv_at hl 1 rfl) ?_
  refine r_callVI (As := [.int i0]) (rest := []) (wr := []) cx hw hA (a_X5_hasVariant_39 l G a0 i0 a1 a2 a3 a4 a5 a6 a7) [0] [] rfl rfl rfl rfl rfl 0 rfl (ci := 4) rfl ml_X5_103 im_X5_hasVariant se_X5_hasVariant in_X5 co_X5_hasVariant rfl hd_X5_hasVariant rfl ⟨Nat.le_of_ble_eq_true rfl, Nat.le_of_ble_eq_true rfl⟩ hl.1 rfl (Nat.le_of_ble_eq_true rfl) dX5_aboutVariant_2 ⟨Nat.le_of_ble_eq_true rfl, Nat.le_of_ble_eq_true rfl⟩ (fun r2 u1 H locs hr2 hw => ?_)
  have hw : Wd G A [(a0, ob 4 [.int 0, .int 0, .int 0, .int 0, .int 0, .int 0, .int 0, .ref a1, .ref a2, .ref a3, .ref a4, .ref a5, .ref a6, .ref a7])] s.heap _ _ := hw
  subst hr2
  refine lv_if_ne (tgt := 10) hx hb dX5_aboutVariant_5 (by decide) (fun c9 => absurd (by decide) c9) (fun _ => ?_)
  refine lv_iconst (v := (-1)) hx hb dX5_aboutVariant_8 (by decide) ?_
  have hw : Wd G A [(a0, ob 4 [.int 0, .int 0, .int 0, .int 0, .int 0, .int 0, .int 0, .ref a1, .ref a2, .ref a3, .ref a4, .ref a5, .ref a6, .ref a7])] s.heap _ _ := hw.sub [0] rfl rfl
  exact r_iret cx hr hlk () rfl hw (Nat.le_of_ble_eq_true rfl) (Nat.le_of_ble_eq_true rfl) dX5_aboutVariant_9

set_option maxHeartbeats 4000000 in
set_option maxRecDepth 100000 in
theorem xa_variant (l : Launch) (G : Gt) (h0 : Nat) (u : Nat → Nat) (a : Int32) (v : Int32) : Mt l yX11_variant cX11_variant 3 (some .int) ({ frames := 2, cells := 0, slots := 0, locals := 43 } : Room) G [.ref h0, .int a, .int v] [(h0, ob 10 [.ref (u 0), .int 0, .int (-1), .ref (u 1), .ref (u 2), .ref (u 3), .ref (u 4), .ref (u 5), .ref (u 6), .ref (u 7), .int 0, .ref (u 8), .ref (u 9), .ref (u 10), .ref (u 11), .ref (u 12), .ref (u 13), .ref (u 14), .ref (u 15), .ref (u 16)]), ((u 9), ob 4 [.int 0, .int 0, .int 0, .int 0, .int 0, .int 0, .int 0, .ref (u 45), .ref (u 46), .ref (u 47), .ref (u 48), .ref (u 49), .ref (u 50), .ref (u 51)])] (qI G (fun (r : Int32) (w : Unit) => r = (-1)) (fun w => [])) := by
  refine Mt.of (own := RX11) (cc := cX11_variant) (by decide) rfl (Nat.le_of_ble_eq_true rfl) ?_
  intro p e s m below meth c A ls cx hr hlk hmn hA hl hw
  have hx := cx.1
  have hb := cx.2.1
  have hl : lv_has ls 3 [(0, .ref h0), (1, .int a), (2, .int v)] := hl
  refine lv_aload_n hx hb dX11_variant_0 rfl (lv_at hl 0 rfl) ?_
  refine r_get cx hw inX11 (ci := 10) rfl 0 rfl 12 (by decide) fl_X11_67 rfl dX11_variant_1 ?_
  refine lv_iload_n hx hb dX11_variant_4 rfl (lv_at hl 1 rfl) ?_
  refine lv_iload_n hx hb dX11_variant_5 rfl (lv_at hl 2 rfl) ?_
  refine r_callVI (As := [.int a, .int v]) (rest := []) (wr := [(h0, ob 10 [.ref (u 0), .int 0, .int (-1), .ref (u 1), .ref (u 2), .ref (u 3), .ref (u 4), .ref (u 5), .ref (u 6), .ref (u 7), .int 0, .ref (u 8), .ref (u 9), .ref (u 10), .ref (u 11), .ref (u 12), .ref (u 13), .ref (u 14), .ref (u 15), .ref (u 16)])]) cx hw hA (a_X5_aboutVariant_40 l G (u 9) a v (u 45) (u 46) (u 47) (u 48) (u 49) (u 50) (u 51)) [1] [0] rfl rfl rfl rfl rfl 1 rfl (ci := 4) rfl ml_X11_193 im_X5_aboutVariant se_X5_aboutVariant in_X5 co_X5_aboutVariant rfl hd_X5_aboutVariant rfl ⟨Nat.le_of_ble_eq_true rfl, Nat.le_of_ble_eq_true rfl⟩ hl.1 rfl (Nat.le_of_ble_eq_true rfl) dX11_variant_6 ⟨Nat.le_of_ble_eq_true rfl, Nat.le_of_ble_eq_true rfl⟩ (fun r2 u1 H locs hr2 hw => ?_)
  have hw : Wd G A [(h0, ob 10 [.ref (u 0), .int 0, .int (-1), .ref (u 1), .ref (u 2), .ref (u 3), .ref (u 4), .ref (u 5), .ref (u 6), .ref (u 7), .int 0, .ref (u 8), .ref (u 9), .ref (u 10), .ref (u 11), .ref (u 12), .ref (u 13), .ref (u 14), .ref (u 15), .ref (u 16)]), ((u 9), ob 4 [.int 0, .int 0, .int 0, .int 0, .int 0, .int 0, .int 0, .ref (u 45), .ref (u 46), .ref (u 47), .ref (u 48), .ref (u 49), .ref (u 50), .ref (u 51)])] s.heap _ _ := hw
  subst hr2
  have hw : Wd G A [] s.heap _ _ := hw.sub [] rfl rfl
  exact r_iret cx hr hlk () rfl hw (Nat.le_of_ble_eq_true rfl) (Nat.le_of_ble_eq_true rfl) dX11_variant_9

set_option maxHeartbeats 4000000 in
set_option maxRecDepth 100000 in
theorem xa_kinds (l : Launch) (G : Gt) (h0 : Nat) (u : Nat → Nat) (a : Int32) (v : Int32) : Mt l yX11_kinds cX11_kinds 3 (some .int) ({ frames := 1, cells := 0, slots := 0, locals := 21 } : Room) G [.ref h0, .int a, .int v] [(h0, ob 10 [.ref (u 0), .int 0, .int (-1), .ref (u 1), .ref (u 2), .ref (u 3), .ref (u 4), .ref (u 5), .ref (u 6), .ref (u 7), .int 0, .ref (u 8), .ref (u 9), .ref (u 10), .ref (u 11), .ref (u 12), .ref (u 13), .ref (u 14), .ref (u 15), .ref (u 16)]), ((u 9), ob 4 [.int 0, .int 0, .int 0, .int 0, .int 0, .int 0, .int 0, .ref (u 45), .ref (u 46), .ref (u 47), .ref (u 48), .ref (u 49), .ref (u 50), .ref (u 51)])] (qI G (fun (r : Int32) (w : Unit) => r = (-1)) (fun w => [])) := by
  refine Mt.of (own := RX11) (cc := cX11_kinds) (by decide) rfl (Nat.le_of_ble_eq_true rfl) ?_
  intro p e s m below meth c A ls cx hr hlk hmn hA hl hw
  have hx := cx.1
  have hb := cx.2.1
  have hl : lv_has ls 3 [(0, .ref h0), (1, .int a), (2, .int v)] := hl
  refine lv_aload_n hx hb dX11_kinds_0 rfl (lv_at hl 0 rfl) ?_
  refine r_get cx hw inX11 (ci := 10) rfl 0 rfl 12 (by decide) fl_X11_67 rfl dX11_kinds_1 ?_
  refine lv_iload_n hx hb dX11_kinds_4 rfl (lv_at hl 1 rfl) ?_
  refine r_callVI (As := [.int a]) (rest := []) (wr := [(h0, ob 10 [.ref (u 0), .int 0, .int (-1), .ref (u 1), .ref (u 2), .ref (u 3), .ref (u 4), .ref (u 5), .ref (u 6), .ref (u 7), .int 0, .ref (u 8), .ref (u 9), .ref (u 10), .ref (u 11), .ref (u 12), .ref (u 13), .ref (u 14), .ref (u 15), .ref (u 16)])]) cx hw hA (a_X5_hasVariant_39 l G (u 9) a (u 45) (u 46) (u 47) (u 48) (u 49) (u 50) (u 51)) [1] [0] rfl rfl rfl rfl rfl 1 rfl (ci := 4) rfl ml_X11_196 im_X5_hasVariant se_X5_hasVariant in_X5 co_X5_hasVariant rfl hd_X5_hasVariant rfl ⟨Nat.le_of_ble_eq_true rfl, Nat.le_of_ble_eq_true rfl⟩ hl.1 rfl (Nat.le_of_ble_eq_true rfl) dX11_kinds_5 ⟨Nat.le_of_ble_eq_true rfl, Nat.le_of_ble_eq_true rfl⟩ (fun r2 u1 H locs hr2 hw => ?_)
  have hw : Wd G A [(h0, ob 10 [.ref (u 0), .int 0, .int (-1), .ref (u 1), .ref (u 2), .ref (u 3), .ref (u 4), .ref (u 5), .ref (u 6), .ref (u 7), .int 0, .ref (u 8), .ref (u 9), .ref (u 10), .ref (u 11), .ref (u 12), .ref (u 13), .ref (u 14), .ref (u 15), .ref (u 16)]), ((u 9), ob 4 [.int 0, .int 0, .int 0, .int 0, .int 0, .int 0, .int 0, .ref (u 45), .ref (u 46), .ref (u 47), .ref (u 48), .ref (u 49), .ref (u 50), .ref (u 51)])] s.heap _ _ := hw
  subst hr2
  refine lv_if_eq (tgt := 21) hx hb dX11_kinds_8 (by decide) (fun _ => ?_) (fun c9 => absurd (by decide) c9)
  refine lv_iconst (v := (-1)) hx hb dX11_kinds_21 (by decide) ?_
  have hw : Wd G A [] s.heap _ _ := hw.sub [] rfl rfl
  exact r_iret cx hr hlk () rfl hw (Nat.le_of_ble_eq_true rfl) (Nat.le_of_ble_eq_true rfl) dX11_kinds_22

set_option maxHeartbeats 4000000 in
set_option maxRecDepth 100000 in
theorem a_X1_clear_41 (l : Launch) (G : Gt) (a0 : Nat) (a1 : Nat) (a2 : Nat) (a3 : Nat) (a4 : Nat) (a5 : Nat) : Mt l yX1_clear cX1_clear 1 none ({ frames := 2, cells := 0, slots := 0, locals := 42 } : Room) G [.ref a0] [(a0, ob 0 [.int (-1), .int 0, .int 0, .int 0, .int 0, .int 0, .int 0, .ref a1, .ref a2, .ref a3]), (a2, aI G 8 (fun _ => 0)), (a3, ob 1 [.ref a4, .ref a5, .int 0, .int 0])] (qV G (fun (w : Unit) => True) (fun w => [(a0, ob 0 [.int (-1), .int 0, .int 0, .int 0, .int 0, .int 0, .int 0, .ref a1, .ref a2, .ref a3]), (a2, aI G 8 (fun _ => 0)), (a3, ob 1 [.ref a4, .ref a5, .int 0, .int 0])])) := by
  refine Mt.of (own := RX1) (cc := cX1_clear) (by decide) rfl (Nat.le_of_ble_eq_true rfl) ?_
  intro p e s m below meth c A ls cx hr hlk hmn hA hl hw
  have hx := cx.1
  have hb := cx.2.1
  have hl : lv_has ls 1 [(0, .ref a0)] := hl
  refine lv_aload_n hx hb dX1_clear_0 rfl (lv_at hl 0 rfl) ?_
  refine r_callVV (As := []) (rest := []) (wr := []) cx hw hA (c_Obegin l G a0 a1 a2 a3 a4 a5 0 0 (-1) 0 0 0 0 0 0) [0, 1, 2] [] rfl rfl rfl rfl rfl 0 rfl (ci := 0) rfl ml_X1_28 im_X1_begin se_X1_begin in_X1 co_X1_begin rfl hd_X1_begin rfl ⟨Nat.le_of_ble_eq_true rfl, Nat.le_of_ble_eq_true rfl⟩ hl.1 rfl (Nat.le_of_ble_eq_true rfl) dX1_clear_1 ⟨Nat.le_of_ble_eq_true rfl, Nat.le_of_ble_eq_true rfl⟩ (fun u1 H locs hr2 hw => ?_)
  have hw : Wd G A [(a0, ob 0 [.int (-1), .int 0, .int 0, .int 0, .int 0, .int 0, .int 0, .ref a1, .ref a2, .ref a3]), (a2, aI G 8 (fun _ => 0)), (a3, ob 1 [.ref a4, .ref a5, .int 0, .int 0])] s.heap _ _ := hw
  have hw : Wd G A [(a0, ob 0 [.int (-1), .int 0, .int 0, .int 0, .int 0, .int 0, .int 0, .ref a1, .ref a2, .ref a3]), (a2, aI G 8 (fun _ => 0)), (a3, ob 1 [.ref a4, .ref a5, .int 0, .int 0])] s.heap _ _ := hw.sub [0, 1, 2] rfl rfl
  exact r_vret cx hr hlk () trivial hw (Nat.le_of_ble_eq_true rfl) (Nat.le_of_ble_eq_true rfl) dX1_clear_4

set_option maxHeartbeats 4000000 in
set_option maxRecDepth 100000 in
theorem a_X8_clear_42 (l : Launch) (G : Gt) (a0 : Nat) (a1 : Nat) (a2 : Nat) (a3 : Nat) (a4 : Nat) (a5 : Nat) (a6 : Nat) (a7 : Nat) (a8 : Nat) : Mt l yX8_clear cX8_clear 1 none ({ frames := 0, cells := 0, slots := 0, locals := 0 } : Room) G [.ref a0] [(a0, ob 7 [.ref a1, .ref a2, .ref a3, .ref a4, .ref a5, .int 0, .ref a6, .int 0, .ref a7, .ref a8, .int 0])] (qV G (fun (w : Unit) => True) (fun w => [(a0, ob 7 [.ref a1, .ref a2, .ref a3, .ref a4, .ref a5, .int 0, .ref a6, .int 0, .ref a7, .ref a8, .int 0])])) := by
  refine Mt.of (own := RX8) (cc := cX8_clear) (by decide) rfl (Nat.le_of_ble_eq_true rfl) ?_
  intro p e s m below meth c A ls cx hr hlk hmn hA hl hw
  have hx := cx.1
  have hb := cx.2.1
  have hl : lv_has ls 1 [(0, .ref a0)] := hl
  refine lv_aload_n hx hb dX8_clear_0 rfl (lv_at hl 0 rfl) ?_
  refine lv_iconst (v := 0) hx hb dX8_clear_1 (by decide) ?_
  refine r_put cx hw inX8 (ci := 7) rfl tyX8_ok nmX8 0 rfl 5 (by decide) fl_X8_41 rfl rfl rfl (Nat.le_of_ble_eq_true rfl) (ws' := [(a0, ob 7 [.ref a1, .ref a2, .ref a3, .ref a4, .ref a5, .int 0, .ref a6, .int 0, .ref a7, .ref a8, .int 0])]) rfl dX8_clear_2 (fun H locs hw => ?_)
  refine lv_aload_n hx hb dX8_clear_5 rfl (lv_at hl 0 rfl) ?_
  refine lv_iconst (v := 0) hx hb dX8_clear_6 (by decide) ?_
  refine r_put cx hw inX8 (ci := 7) rfl tyX8_ok nmX8 0 rfl 7 (by decide) fl_X8_45 rfl rfl rfl (Nat.le_of_ble_eq_true rfl) (ws' := [(a0, ob 7 [.ref a1, .ref a2, .ref a3, .ref a4, .ref a5, .int 0, .ref a6, .int 0, .ref a7, .ref a8, .int 0])]) rfl dX8_clear_7 (fun H locs hw => ?_)
  refine lv_aload_n hx hb dX8_clear_10 rfl (lv_at hl 0 rfl) ?_
  refine lv_iconst (v := 0) hx hb dX8_clear_11 (by decide) ?_
  refine r_put cx hw inX8 (ci := 7) rfl tyX8_ok nmX8 0 rfl 10 (by decide) fl_X8_48 rfl rfl rfl (Nat.le_of_ble_eq_true rfl) (ws' := [(a0, ob 7 [.ref a1, .ref a2, .ref a3, .ref a4, .ref a5, .int 0, .ref a6, .int 0, .ref a7, .ref a8, .int 0])]) rfl dX8_clear_12 (fun H locs hw => ?_)
  have hw : Wd G A [(a0, ob 7 [.ref a1, .ref a2, .ref a3, .ref a4, .ref a5, .int 0, .ref a6, .int 0, .ref a7, .ref a8, .int 0])] s.heap _ _ := hw.sub [0] rfl rfl
  exact r_vret cx hr hlk () trivial hw (Nat.le_of_ble_eq_true rfl) (Nat.le_of_ble_eq_true rfl) dX8_clear_15

set_option maxHeartbeats 4000000 in
set_option maxRecDepth 100000 in
theorem a_X8_build_43 (l : Launch) (G : Gt) (a0 : Nat) (a1 : Nat) (a2 : Nat) (a3 : Nat) (a4 : Nat) : Mt l yX8_build cX8_build 9 (some .int) ({ frames := 1, cells := 0, slots := 0, locals := 22 } : Room) G [.ref a0, .ref a1, .ref a2, .ref a2] [(a1, ob 1 [.ref a3, .ref a4, .int 0, .int 0]), (a2, aJ G 8 (fun _ => 0))] (qI G (fun (r : Int32) (w : Unit) => r = 0) (fun w => [(a1, ob 1 [.ref a3, .ref a4, .int 0, .int 0]), (a2, aJ G 8 (fun _ => 0))])) := by
  refine Mt.of (own := RX8) (cc := cX8_build) (by decide) rfl (Nat.le_of_ble_eq_true rfl) ?_
  intro p e s m below meth c A ls cx hr hlk hmn hA hl hw
  have hx := cx.1
  have hb := cx.2.1
  have hl : lv_has ls 9 [(0, .ref a0), (1, .ref a1), (2, .ref a2), (3, .ref a2)] := hl
  refine lv_iconst (v := 0) hx hb dX8_build_0 (by decide) ?_
  refine lv_istore (lv' := [(4, .int 0), (0, .ref a0), (1, .ref a1), (2, .ref a2), (3, .ref a2)]) hx hb dX8_build_1 hl (by decide) rfl (fun ls hl => ?_)
  refine lv_aload_n hx hb dX8_build_3 rfl (lv_at hl 2 rfl) ?_
  refine r_callVI (As := []) (rest := []) (wr := [(a2, aJ G 8 (fun _ => 0))]) cx hw hA (a_X2_stars_1 l G a1 a3 a4) [0] [1] rfl rfl rfl rfl rfl 0 rfl (ci := 1) rfl ml_X8_98 im_X2_stars se_X2_stars in_X2 co_X2_stars rfl hd_X2_stars rfl ⟨Nat.le_of_ble_eq_true rfl, Nat.le_of_ble_eq_true rfl⟩ hl.1 rfl (Nat.le_of_ble_eq_true rfl) dX8_build_4 ⟨Nat.le_of_ble_eq_true rfl, Nat.le_of_ble_eq_true rfl⟩ (fun r2 u1 H locs hr2 hw => ?_)
  have hw : Wd G A [(a2, aJ G 8 (fun _ => 0)), (a1, ob 1 [.ref a3, .ref a4, .int 0, .int 0])] s.heap _ _ := hw
  subst hr2
  refine lv_istore (lv' := [(5, .int 0), (4, .int 0), (0, .ref a0), (1, .ref a1), (2, .ref a2), (3, .ref a2)]) hx hb dX8_build_7 hl (by decide) rfl (fun ls hl => ?_)
  refine lv_aload_n hx hb dX8_build_9 rfl (lv_at hl 3 rfl) ?_
  refine r_get cx hw inX2 (ci := 1) rfl 1 rfl 2 (by decide) fl_X8_102 rfl dX8_build_10 ?_
  refine lv_iconst (v := 1) hx hb dX8_build_13 (by decide) ?_
  refine lv_isub hx hb dX8_build_14 ?_
  refine r_topi (v := (-1)) (by decide +kernel) ?_
  refine lv_istore (lv' := [(6, .int (-1)), (5, .int 0), (4, .int 0), (0, .ref a0), (1, .ref a1), (2, .ref a2), (3, .ref a2)]) hx hb dX8_build_15 hl (by decide) rfl (fun ls hl => ?_)
  refine lv_iload hx hb dX8_build_17 (lv_at hl 0 rfl) ?_
  refine lv_if_lt (tgt := 136) hx hb dX8_build_19 (by decide) (fun _ => ?_) (fun c9 => absurd (by decide) c9)
  refine lv_iload hx hb dX8_build_136 (lv_at hl 2 rfl) ?_
  refine lv_aload_n hx hb dX8_build_138 rfl (lv_at hl 6 rfl) ?_
  refine r_alenJ cx hw 0 rfl (v := 8) (by decide +kernel) dX8_build_139 ?_
  refine r_mmin (v := 0) cx ml_X8_113 hl.1 (Nat.le_of_ble_eq_true rfl) (Nat.le_of_ble_eq_true rfl) (Nat.le_of_ble_eq_true rfl) (Nat.le_of_ble_eq_true rfl) (by decide +kernel) dX8_build_140 ?_
  refine lv_istore (lv' := [(6, .int 0), (5, .int 0), (4, .int 0), (0, .ref a0), (1, .ref a1), (2, .ref a2), (3, .ref a2)]) hx hb dX8_build_143 hl (by decide) rfl (fun ls hl => ?_)
  refine lv_iconst (v := 0) hx hb dX8_build_145 (by decide) ?_
  refine lv_istore (lv' := [(7, .int 0), (6, .int 0), (5, .int 0), (4, .int 0), (0, .ref a0), (1, .ref a1), (2, .ref a2), (3, .ref a2)]) hx hb dX8_build_146 hl (by decide) rfl (fun ls hl => ?_)
  refine lv_iload hx hb dX8_build_148 (lv_at hl 0 rfl) ?_
  refine lv_iload hx hb dX8_build_150 (lv_at hl 1 rfl) ?_
  refine lv_icmp_ge (tgt := 177) hx hb dX8_build_152 (by decide) (fun _ => ?_) (fun c9 => absurd (by decide) c9)
  refine lv_iload hx hb dX8_build_177 (lv_at hl 1 rfl) ?_
  have hw : Wd G A [(a1, ob 1 [.ref a3, .ref a4, .int 0, .int 0]), (a2, aJ G 8 (fun _ => 0))] s.heap _ _ := hw.sub [1, 0] rfl rfl
  exact r_iret cx hr hlk () rfl hw (Nat.le_of_ble_eq_true rfl) (Nat.le_of_ble_eq_true rfl) dX8_build_179

set_option maxHeartbeats 4000000 in
set_option maxRecDepth 100000 in
theorem a_X8_build_44 (l : Launch) (G : Gt) (a0 : Nat) (a1 : Nat) (a2 : Nat) (a3 : Nat) (a4 : Nat) (a5 : Nat) : Mt l yX8_build cX8_build 9 (some .int) ({ frames := 1, cells := 0, slots := 0, locals := 22 } : Room) G [.ref a0, .ref a1, .ref a2, .ref a3] [(a3, aJ G 5 (fun _ => 0)), (a1, ob 1 [.ref a4, .ref a5, .int 0, .int 0])] (qI G (fun (r : Int32) (w : Unit) => r = 0) (fun w => [(a3, aJ G 5 (fun _ => 0)), (a1, ob 1 [.ref a4, .ref a5, .int 0, .int 0])])) := by
  refine Mt.of (own := RX8) (cc := cX8_build) (by decide) rfl (Nat.le_of_ble_eq_true rfl) ?_
  intro p e s m below meth c A ls cx hr hlk hmn hA hl hw
  have hx := cx.1
  have hb := cx.2.1
  have hl : lv_has ls 9 [(0, .ref a0), (1, .ref a1), (2, .ref a2), (3, .ref a3)] := hl
  refine lv_iconst (v := 0) hx hb dX8_build_0 (by decide) ?_
  refine lv_istore (lv' := [(4, .int 0), (0, .ref a0), (1, .ref a1), (2, .ref a2), (3, .ref a3)]) hx hb dX8_build_1 hl (by decide) rfl (fun ls hl => ?_)
  refine lv_aload_n hx hb dX8_build_3 rfl (lv_at hl 2 rfl) ?_
  refine r_callVI (As := []) (rest := []) (wr := [(a3, aJ G 5 (fun _ => 0))]) cx hw hA (a_X2_stars_1 l G a1 a4 a5) [1] [0] rfl rfl rfl rfl rfl 1 rfl (ci := 1) rfl ml_X8_98 im_X2_stars se_X2_stars in_X2 co_X2_stars rfl hd_X2_stars rfl ⟨Nat.le_of_ble_eq_true rfl, Nat.le_of_ble_eq_true rfl⟩ hl.1 rfl (Nat.le_of_ble_eq_true rfl) dX8_build_4 ⟨Nat.le_of_ble_eq_true rfl, Nat.le_of_ble_eq_true rfl⟩ (fun r2 u1 H locs hr2 hw => ?_)
  have hw : Wd G A [(a3, aJ G 5 (fun _ => 0)), (a1, ob 1 [.ref a4, .ref a5, .int 0, .int 0])] s.heap _ _ := hw
  subst hr2
  refine lv_istore (lv' := [(5, .int 0), (4, .int 0), (0, .ref a0), (1, .ref a1), (2, .ref a2), (3, .ref a3)]) hx hb dX8_build_7 hl (by decide) rfl (fun ls hl => ?_)
  refine lv_aload_n hx hb dX8_build_9 rfl (lv_at hl 3 rfl) ?_
  refine r_get cx hw inX2 (ci := 1) rfl 1 rfl 2 (by decide) fl_X8_102 rfl dX8_build_10 ?_
  refine lv_iconst (v := 1) hx hb dX8_build_13 (by decide) ?_
  refine lv_isub hx hb dX8_build_14 ?_
  refine r_topi (v := (-1)) (by decide +kernel) ?_
  refine lv_istore (lv' := [(6, .int (-1)), (5, .int 0), (4, .int 0), (0, .ref a0), (1, .ref a1), (2, .ref a2), (3, .ref a3)]) hx hb dX8_build_15 hl (by decide) rfl (fun ls hl => ?_)
  refine lv_iload hx hb dX8_build_17 (lv_at hl 0 rfl) ?_
  refine lv_if_lt (tgt := 136) hx hb dX8_build_19 (by decide) (fun _ => ?_) (fun c9 => absurd (by decide) c9)
  refine lv_iload hx hb dX8_build_136 (lv_at hl 2 rfl) ?_
  refine lv_aload_n hx hb dX8_build_138 rfl (lv_at hl 6 rfl) ?_
  refine r_alenJ cx hw 0 rfl (v := 5) (by decide +kernel) dX8_build_139 ?_
  refine r_mmin (v := 0) cx ml_X8_113 hl.1 (Nat.le_of_ble_eq_true rfl) (Nat.le_of_ble_eq_true rfl) (Nat.le_of_ble_eq_true rfl) (Nat.le_of_ble_eq_true rfl) (by decide +kernel) dX8_build_140 ?_
  refine lv_istore (lv' := [(6, .int 0), (5, .int 0), (4, .int 0), (0, .ref a0), (1, .ref a1), (2, .ref a2), (3, .ref a3)]) hx hb dX8_build_143 hl (by decide) rfl (fun ls hl => ?_)
  refine lv_iconst (v := 0) hx hb dX8_build_145 (by decide) ?_
  refine lv_istore (lv' := [(7, .int 0), (6, .int 0), (5, .int 0), (4, .int 0), (0, .ref a0), (1, .ref a1), (2, .ref a2), (3, .ref a3)]) hx hb dX8_build_146 hl (by decide) rfl (fun ls hl => ?_)
  refine lv_iload hx hb dX8_build_148 (lv_at hl 0 rfl) ?_
  refine lv_iload hx hb dX8_build_150 (lv_at hl 1 rfl) ?_
  refine lv_icmp_ge (tgt := 177) hx hb dX8_build_152 (by decide) (fun _ => ?_) (fun c9 => absurd (by decide) c9)
  refine lv_iload hx hb dX8_build_177 (lv_at hl 1 rfl) ?_
  have hw : Wd G A [(a3, aJ G 5 (fun _ => 0)), (a1, ob 1 [.ref a4, .ref a5, .int 0, .int 0])] s.heap _ _ := hw.sub [0, 1] rfl rfl
  exact r_iret cx hr hlk () rfl hw (Nat.le_of_ble_eq_true rfl) (Nat.le_of_ble_eq_true rfl) dX8_build_179

set_option maxHeartbeats 4000000 in
set_option maxRecDepth 100000 in
theorem a_X7_call_45 (l : Launch) (G : Gt) (a0 : Nat) (a1 : Nat) (a2 : Nat) (a3 : Nat) (a4 : Nat) (a5 : Nat) (a6 : Nat) (a7 : Nat) (a8 : Nat) (a9 : Nat) (a10 : Nat) (a11 : Nat) (a12 : Nat) (a13 : Nat) (a14 : Nat) : Mt l yX7_call cX7_call 4 none ({ frames := 1, cells := 0, slots := 0, locals := 21 } : Room) G [.ref a0, .int 0, .int 0] [(a1, ob 2 [.int 0, .int 0, .int 0, .ref a2, .ref a3, .ref a4, .ref a5, .ref a6, .ref a7]), (a4, aI G 72 (fl_fill (-1) 0 72)), (a0, ob 6 [.ref a8, .ref a9, .ref a10, .ref a1, .ref a11, .int (-1)]), (a11, ob 0 [.int (-1), .int 0, .int 0, .int 0, .int 0, .int 0, .int 0, .ref a12, .ref a13, .ref a14])] (qV G (fun (w : Unit) => True) (fun w => [(a1, ob 2 [.int 0, .int 0, .int 0, .ref a2, .ref a3, .ref a4, .ref a5, .ref a6, .ref a7]), (a4, aI G 72 (fl_fill (-1) 0 72)), (a0, ob 6 [.ref a8, .ref a9, .ref a10, .ref a1, .ref a11, .int (-1)]), (a11, ob 0 [.int 4, .int 0, .int 0, .int 0, .int 0, .int 0, .int 0, .ref a12, .ref a13, .ref a14])])) := by
  refine Mt.of (own := RX7) (cc := cX7_call) (by decide) rfl (Nat.le_of_ble_eq_true rfl) ?_
  intro p e s m below meth c A ls cx hr hlk hmn hA hl hw
  have hx := cx.1
  have hb := cx.2.1
  have hl : lv_has ls 4 [(0, .ref a0), (1, .int 0), (2, .int 0)] := hl
  refine lv_aload_n hx hb dX7_call_0 rfl (lv_at hl 0 rfl) ?_
  refine r_get cx hw inX7 (ci := 6) rfl 2 rfl 3 (by decide) fl_X7_26 rfl dX7_call_1 ?_
  refine lv_iload_n hx hb dX7_call_4 rfl (lv_at hl 1 rfl) ?_
  refine r_callVI (As := [.int 0]) (rest := []) (wr := [(a0, ob 6 [.ref a8, .ref a9, .ref a10, .ref a1, .ref a11, .int (-1)]), (a11, ob 0 [.int (-1), .int 0, .int 0, .int 0, .int 0, .int 0, .int 0, .ref a12, .ref a13, .ref a14])]) cx hw hA (a_X3_startOf_32 l G a1 a2 a3 a4 a5 a6 a7) [0, 1] [2, 3] rfl rfl rfl rfl rfl 0 rfl (ci := 2) rfl ml_X7_160 im_X3_startOf se_X3_startOf in_X3 co_X3_startOf rfl hd_X3_startOf rfl ⟨Nat.le_of_ble_eq_true rfl, Nat.le_of_ble_eq_true rfl⟩ hl.1 rfl (Nat.le_of_ble_eq_true rfl) dX7_call_5 ⟨Nat.le_of_ble_eq_true rfl, Nat.le_of_ble_eq_true rfl⟩ (fun r2 u1 H locs hr2 hw => ?_)
  have hw : Wd G A [(a0, ob 6 [.ref a8, .ref a9, .ref a10, .ref a1, .ref a11, .int (-1)]), (a11, ob 0 [.int (-1), .int 0, .int 0, .int 0, .int 0, .int 0, .int 0, .ref a12, .ref a13, .ref a14]), (a1, ob 2 [.int 0, .int 0, .int 0, .ref a2, .ref a3, .ref a4, .ref a5, .ref a6, .ref a7]), (a4, aI G 72 (fl_fill (-1) 0 72))] s.heap _ _ := hw
  subst hr2
  refine lv_istore_n (lv' := [(3, .int (-1)), (0, .ref a0), (1, .int 0), (2, .int 0)]) hx hb dX7_call_8 rfl hl (by decide) rfl (fun ls hl => ?_)
  refine lv_iload_n hx hb dX7_call_9 rfl (lv_at hl 0 rfl) ?_
  refine lv_iconst (v := (-1)) hx hb dX7_call_10 (by decide) ?_
  refine lv_icmp_ne (tgt := 25) hx hb dX7_call_11 (by decide) (fun c9 => absurd (by decide) c9) (fun _ => ?_)
  refine lv_aload_n hx hb dX7_call_14 rfl (lv_at hl 1 rfl) ?_
  refine r_get cx hw inX7 (ci := 6) rfl 0 rfl 4 (by decide) fl_X7_30 rfl dX7_call_15 ?_
  refine lv_iconst (v := 4) hx hb dX7_call_18 (by decide) ?_
  refine r_put cx hw inX1 (ci := 0) rfl tyX1_ok nmX1 1 rfl 0 (by decide) fl_X7_54 rfl rfl rfl (Nat.le_of_ble_eq_true rfl) (ws' := [(a0, ob 6 [.ref a8, .ref a9, .ref a10, .ref a1, .ref a11, .int (-1)]), (a11, ob 0 [.int 4, .int 0, .int 0, .int 0, .int 0, .int 0, .int 0, .ref a12, .ref a13, .ref a14]), (a1, ob 2 [.int 0, .int 0, .int 0, .ref a2, .ref a3, .ref a4, .ref a5, .ref a6, .ref a7]), (a4, aI G 72 (fl_fill (-1) 0 72))]) rfl dX7_call_19 (fun H locs hw => ?_)
  refine lv_goto (tgt := 52) hx hb dX7_call_22 (by decide) ?_
  have hw : Wd G A [(a1, ob 2 [.int 0, .int 0, .int 0, .ref a2, .ref a3, .ref a4, .ref a5, .ref a6, .ref a7]), (a4, aI G 72 (fl_fill (-1) 0 72)), (a0, ob 6 [.ref a8, .ref a9, .ref a10, .ref a1, .ref a11, .int (-1)]), (a11, ob 0 [.int 4, .int 0, .int 0, .int 0, .int 0, .int 0, .int 0, .ref a12, .ref a13, .ref a14])] s.heap _ _ := hw.sub [2, 3, 0, 1] rfl rfl
  exact r_vret cx hr hlk () trivial hw (Nat.le_of_ble_eq_true rfl) (Nat.le_of_ble_eq_true rfl) dX7_call_52

set_option maxHeartbeats 4000000 in
set_option maxRecDepth 100000 in
theorem a_X1_isRunning_46 (l : Launch) (G : Gt) (a0 : Nat) (a1 : Nat) (a2 : Nat) (a3 : Nat) : Mt l yX1_isRunning cX1_isRunning 1 (some .boolean) ({ frames := 0, cells := 0, slots := 0, locals := 0 } : Room) G [.ref a0] [(a0, ob 0 [.int 4, .int 0, .int 0, .int 0, .int 0, .int 0, .int 0, .ref a1, .ref a2, .ref a3])] (qI G (fun (r : Int32) (w : Unit) => r = 0) (fun w => [(a0, ob 0 [.int 4, .int 0, .int 0, .int 0, .int 0, .int 0, .int 0, .ref a1, .ref a2, .ref a3])])) := by
  refine Mt.of (own := RX1) (cc := cX1_isRunning) (by decide) rfl (Nat.le_of_ble_eq_true rfl) ?_
  intro p e s m below meth c A ls cx hr hlk hmn hA hl hw
  have hx := cx.1
  have hb := cx.2.1
  have hl : lv_has ls 1 [(0, .ref a0)] := hl
  refine lv_aload_n hx hb dX1_isRunning_0 rfl (lv_at hl 0 rfl) ?_
  refine r_get cx hw inX1 (ci := 0) rfl 0 rfl 0 (by decide) fl_X1_31 rfl dX1_isRunning_1 ?_
  refine lv_iconst (v := (-1)) hx hb dX1_isRunning_4 (by decide) ?_
  refine lv_icmp_ne (tgt := 12) hx hb dX1_isRunning_5 (by decide) (fun _ => ?_) (fun c9 => absurd c9 (by decide))
  refine lv_iconst (v := 0) hx hb dX1_isRunning_12 (by decide) ?_
  have hw : Wd G A [(a0, ob 0 [.int 4, .int 0, .int 0, .int 0, .int 0, .int 0, .int 0, .ref a1, .ref a2, .ref a3])] s.heap _ _ := hw.sub [0] rfl rfl
  exact r_zret cx hr rfl hlk () rfl hw (Nat.le_of_ble_eq_true rfl) (Nat.le_of_ble_eq_true rfl) dX1_isRunning_13

set_option maxHeartbeats 4000000 in
set_option maxRecDepth 100000 in
theorem a_X7_runTask_47 (l : Launch) (G : Gt) (a0 : Nat) (a1 : Nat) (a2 : Nat) (a3 : Nat) (a4 : Nat) (a5 : Nat) (a6 : Nat) (a7 : Nat) (a8 : Nat) (a9 : Nat) (a10 : Nat) (a11 : Nat) (a12 : Nat) (a13 : Nat) (a14 : Nat) (a15 : Nat) (a16 : Nat) (a17 : Nat) (a18 : Nat) (a19 : Nat) (a20 : Nat) (a21 : Nat) (a22 : Nat) (a23 : Nat) (a24 : Nat) (a25 : Nat) (a26 : Nat) (a27 : Nat) (a28 : Nat) (a29 : Nat) (a30 : Nat) : Mt l yX7_runTask cX7_runTask 7 none ({ frames := 3, cells := 0, slots := 0, locals := 62 } : Room) G [.ref a0, .ref a1, .ref a2, .ref a3, .ref a4] [(a1, ob 2 [.int 0, .int 0, .int 0, .ref a5, .ref a6, .ref a7, .ref a8, .ref a9, .ref a10]), (a7, aI G 72 (fl_fill (-1) 0 72)), (a3, ob 1 [.ref a11, .ref a12, .int 0, .int 0]), (a0, ob 6 [.ref a13, .ref a14, .ref a15, .ref a1, .ref a4, .int (-1)]), (a15, aJ G 5 (fun _ => 0)), (a14, aJ G 8 (fun _ => 0)), (a4, ob 0 [.int (-1), .int 0, .int 0, .int 0, .int 0, .int 0, .int 0, .ref a16, .ref a17, .ref a18]), (a17, aI G 8 (fun _ => 0)), (a18, ob 1 [.ref a19, .ref a20, .int 0, .int 0]), (a13, ob 7 [.ref a21, .ref a22, .ref a23, .ref a24, .ref a25, .int 0, .ref a26, .int 0, .ref a27, .ref a28, .int 0]), (a2, ob 1 [.ref a29, .ref a30, .int 0, .int 0])] (qV G (fun (w : Unit) => True) (fun w => [(a1, ob 2 [.int 0, .int 0, .int 0, .ref a5, .ref a6, .ref a7, .ref a8, .ref a9, .ref a10]), (a7, aI G 72 (fl_fill (-1) 0 72)), (a3, ob 1 [.ref a11, .ref a12, .int 0, .int 0]), (a0, ob 6 [.ref a13, .ref a14, .ref a15, .ref a1, .ref a4, .int (-1)]), (a15, aJ G 5 (fun _ => 0)), (a14, aJ G 8 (fun _ => 0)), (a4, ob 0 [.int 4, .int 0, .int 0, .int 0, .int 0, .int 0, .int 0, .ref a16, .ref a17, .ref a18]), (a17, aI G 8 (fun _ => 0)), (a18, ob 1 [.ref a19, .ref a20, .int 0, .int 0]), (a13, ob 7 [.ref a21, .ref a22, .ref a23, .ref a24, .ref a25, .int 0, .ref a26, .int 0, .ref a27, .ref a28, .int 0]), (a2, ob 1 [.ref a29, .ref a30, .int 0, .int 0])])) := by
  refine Mt.of (own := RX7) (cc := cX7_runTask) (by decide) rfl (Nat.le_of_ble_eq_true rfl) ?_
  intro p e s m below meth c A ls cx hr hlk hmn hA hl hw
  have hx := cx.1
  have hb := cx.2.1
  have hl : lv_has ls 7 [(0, .ref a0), (1, .ref a1), (2, .ref a2), (3, .ref a3), (4, .ref a4)] := hl
  refine lv_aload_n hx hb dX7_runTask_0 rfl (lv_at hl 0 rfl) ?_
  refine lv_aload_n hx hb dX7_runTask_1 rfl (lv_at hl 1 rfl) ?_
  refine r_put cx hw inX7 (ci := 6) rfl tyX7_ok nmX7 3 rfl 3 (by decide) fl_X7_26 rfl rfl rfl (Nat.le_of_ble_eq_true rfl) (ws' := [(a1, ob 2 [.int 0, .int 0, .int 0, .ref a5, .ref a6, .ref a7, .ref a8, .ref a9, .ref a10]), (a7, aI G 72 (fl_fill (-1) 0 72)), (a3, ob 1 [.ref a11, .ref a12, .int 0, .int 0]), (a0, ob 6 [.ref a13, .ref a14, .ref a15, .ref a1, .ref a4, .int (-1)]), (a15, aJ G 5 (fun _ => 0)), (a14, aJ G 8 (fun _ => 0)), (a4, ob 0 [.int (-1), .int 0, .int 0, .int 0, .int 0, .int 0, .int 0, .ref a16, .ref a17, .ref a18]), (a17, aI G 8 (fun _ => 0)), (a18, ob 1 [.ref a19, .ref a20, .int 0, .int 0]), (a13, ob 7 [.ref a21, .ref a22, .ref a23, .ref a24, .ref a25, .int 0, .ref a26, .int 0, .ref a27, .ref a28, .int 0]), (a2, ob 1 [.ref a29, .ref a30, .int 0, .int 0])]) rfl dX7_runTask_2 (fun H locs hw => ?_)
  refine lv_aload_n hx hb dX7_runTask_5 rfl (lv_at hl 0 rfl) ?_
  refine lv_aload hx hb dX7_runTask_6 (lv_at hl 4 rfl) ?_
  refine r_put cx hw inX7 (ci := 6) rfl tyX7_ok nmX7 3 rfl 4 (by decide) fl_X7_30 rfl rfl rfl (Nat.le_of_ble_eq_true rfl) (ws' := [(a1, ob 2 [.int 0, .int 0, .int 0, .ref a5, .ref a6, .ref a7, .ref a8, .ref a9, .ref a10]), (a7, aI G 72 (fl_fill (-1) 0 72)), (a3, ob 1 [.ref a11, .ref a12, .int 0, .int 0]), (a0, ob 6 [.ref a13, .ref a14, .ref a15, .ref a1, .ref a4, .int (-1)]), (a15, aJ G 5 (fun _ => 0)), (a14, aJ G 8 (fun _ => 0)), (a4, ob 0 [.int (-1), .int 0, .int 0, .int 0, .int 0, .int 0, .int 0, .ref a16, .ref a17, .ref a18]), (a17, aI G 8 (fun _ => 0)), (a18, ob 1 [.ref a19, .ref a20, .int 0, .int 0]), (a13, ob 7 [.ref a21, .ref a22, .ref a23, .ref a24, .ref a25, .int 0, .ref a26, .int 0, .ref a27, .ref a28, .int 0]), (a2, ob 1 [.ref a29, .ref a30, .int 0, .int 0])]) rfl dX7_runTask_8 (fun H locs hw => ?_)
  refine lv_aload_n hx hb dX7_runTask_11 rfl (lv_at hl 0 rfl) ?_
  refine r_get cx hw inX7 (ci := 6) rfl 3 rfl 4 (by decide) fl_X7_30 rfl dX7_runTask_12 ?_
  refine r_callVV (As := []) (rest := []) (wr := [(a1, ob 2 [.int 0, .int 0, .int 0, .ref a5, .ref a6, .ref a7, .ref a8, .ref a9, .ref a10]), (a7, aI G 72 (fl_fill (-1) 0 72)), (a3, ob 1 [.ref a11, .ref a12, .int 0, .int 0]), (a0, ob 6 [.ref a13, .ref a14, .ref a15, .ref a1, .ref a4, .int (-1)]), (a15, aJ G 5 (fun _ => 0)), (a14, aJ G 8 (fun _ => 0)), (a13, ob 7 [.ref a21, .ref a22, .ref a23, .ref a24, .ref a25, .int 0, .ref a26, .int 0, .ref a27, .ref a28, .int 0]), (a2, ob 1 [.ref a29, .ref a30, .int 0, .int 0])]) cx hw hA (a_X1_clear_41 l G a4 a16 a17 a18 a19 a20) [6, 7, 8] [0, 1, 2, 3, 4, 5, 9, 10] rfl rfl rfl rfl rfl 6 rfl (ci := 0) rfl ml_X7_38 im_X1_clear se_X1_clear in_X1 co_X1_clear rfl hd_X1_clear rfl ⟨Nat.le_of_ble_eq_true rfl, Nat.le_of_ble_eq_true rfl⟩ hl.1 rfl (Nat.le_of_ble_eq_true rfl) dX7_runTask_15 ⟨Nat.le_of_ble_eq_true rfl, Nat.le_of_ble_eq_true rfl⟩ (fun u1 H locs hr2 hw => ?_)
  have hw : Wd G A [(a1, ob 2 [.int 0, .int 0, .int 0, .ref a5, .ref a6, .ref a7, .ref a8, .ref a9, .ref a10]), (a7, aI G 72 (fl_fill (-1) 0 72)), (a3, ob 1 [.ref a11, .ref a12, .int 0, .int 0]), (a0, ob 6 [.ref a13, .ref a14, .ref a15, .ref a1, .ref a4, .int (-1)]), (a15, aJ G 5 (fun _ => 0)), (a14, aJ G 8 (fun _ => 0)), (a13, ob 7 [.ref a21, .ref a22, .ref a23, .ref a24, .ref a25, .int 0, .ref a26, .int 0, .ref a27, .ref a28, .int 0]), (a2, ob 1 [.ref a29, .ref a30, .int 0, .int 0]), (a4, ob 0 [.int (-1), .int 0, .int 0, .int 0, .int 0, .int 0, .int 0, .ref a16, .ref a17, .ref a18]), (a17, aI G 8 (fun _ => 0)), (a18, ob 1 [.ref a19, .ref a20, .int 0, .int 0])] s.heap _ _ := hw
  refine lv_aload_n hx hb dX7_runTask_18 rfl (lv_at hl 0 rfl) ?_
  refine r_get cx hw inX7 (ci := 6) rfl 3 rfl 0 (by decide) fl_X7_9 rfl dX7_runTask_19 ?_
  refine r_callVV (As := []) (rest := []) (wr := [(a1, ob 2 [.int 0, .int 0, .int 0, .ref a5, .ref a6, .ref a7, .ref a8, .ref a9, .ref a10]), (a7, aI G 72 (fl_fill (-1) 0 72)), (a3, ob 1 [.ref a11, .ref a12, .int 0, .int 0]), (a0, ob 6 [.ref a13, .ref a14, .ref a15, .ref a1, .ref a4, .int (-1)]), (a15, aJ G 5 (fun _ => 0)), (a14, aJ G 8 (fun _ => 0)), (a2, ob 1 [.ref a29, .ref a30, .int 0, .int 0]), (a4, ob 0 [.int (-1), .int 0, .int 0, .int 0, .int 0, .int 0, .int 0, .ref a16, .ref a17, .ref a18]), (a17, aI G 8 (fun _ => 0)), (a18, ob 1 [.ref a19, .ref a20, .int 0, .int 0])]) cx hw hA (a_X8_clear_42 l G a13 a21 a22 a23 a24 a25 a26 a27 a28) [6] [0, 1, 2, 3, 4, 5, 7, 8, 9, 10] rfl rfl rfl rfl rfl 6 rfl (ci := 7) rfl ml_X7_43 im_X8_clear se_X8_clear in_X8 co_X8_clear rfl hd_X8_clear rfl ⟨Nat.le_of_ble_eq_true rfl, Nat.le_of_ble_eq_true rfl⟩ hl.1 rfl (Nat.le_of_ble_eq_true rfl) dX7_runTask_22 ⟨Nat.le_of_ble_eq_true rfl, Nat.le_of_ble_eq_true rfl⟩ (fun u3 H locs hr4 hw => ?_)
  have hw : Wd G A [(a1, ob 2 [.int 0, .int 0, .int 0, .ref a5, .ref a6, .ref a7, .ref a8, .ref a9, .ref a10]), (a7, aI G 72 (fl_fill (-1) 0 72)), (a3, ob 1 [.ref a11, .ref a12, .int 0, .int 0]), (a0, ob 6 [.ref a13, .ref a14, .ref a15, .ref a1, .ref a4, .int (-1)]), (a15, aJ G 5 (fun _ => 0)), (a14, aJ G 8 (fun _ => 0)), (a2, ob 1 [.ref a29, .ref a30, .int 0, .int 0]), (a4, ob 0 [.int (-1), .int 0, .int 0, .int 0, .int 0, .int 0, .int 0, .ref a16, .ref a17, .ref a18]), (a17, aI G 8 (fun _ => 0)), (a18, ob 1 [.ref a19, .ref a20, .int 0, .int 0]), (a13, ob 7 [.ref a21, .ref a22, .ref a23, .ref a24, .ref a25, .int 0, .ref a26, .int 0, .ref a27, .ref a28, .int 0])] s.heap _ _ := hw
  refine lv_aload_n hx hb dX7_runTask_25 rfl (lv_at hl 0 rfl) ?_
  refine r_get cx hw inX7 (ci := 6) rfl 3 rfl 0 (by decide) fl_X7_9 rfl dX7_runTask_26 ?_
  refine lv_aload_n hx hb dX7_runTask_29 rfl (lv_at hl 3 rfl) ?_
  refine lv_aload_n hx hb dX7_runTask_30 rfl (lv_at hl 0 rfl) ?_
  refine r_get cx hw inX7 (ci := 6) rfl 3 rfl 1 (by decide) fl_X7_17 rfl dX7_runTask_31 ?_
  refine lv_aload_n hx hb dX7_runTask_34 rfl (lv_at hl 0 rfl) ?_
  refine r_get cx hw inX7 (ci := 6) rfl 3 rfl 1 (by decide) fl_X7_17 rfl dX7_runTask_35 ?_
  refine r_callVI (As := [.ref a3, .ref a14, .ref a14]) (rest := []) (wr := [(a1, ob 2 [.int 0, .int 0, .int 0, .ref a5, .ref a6, .ref a7, .ref a8, .ref a9, .ref a10]), (a7, aI G 72 (fl_fill (-1) 0 72)), (a0, ob 6 [.ref a13, .ref a14, .ref a15, .ref a1, .ref a4, .int (-1)]), (a15, aJ G 5 (fun _ => 0)), (a2, ob 1 [.ref a29, .ref a30, .int 0, .int 0]), (a4, ob 0 [.int (-1), .int 0, .int 0, .int 0, .int 0, .int 0, .int 0, .ref a16, .ref a17, .ref a18]), (a17, aI G 8 (fun _ => 0)), (a18, ob 1 [.ref a19, .ref a20, .int 0, .int 0]), (a13, ob 7 [.ref a21, .ref a22, .ref a23, .ref a24, .ref a25, .int 0, .ref a26, .int 0, .ref a27, .ref a28, .int 0])]) cx hw hA (a_X8_build_43 l G a13 a3 a14 a11 a12) [2, 5] [0, 1, 3, 4, 6, 7, 8, 9, 10] rfl rfl rfl rfl rfl 10 rfl (ci := 7) rfl ml_X7_46 im_X8_build se_X8_build in_X8 co_X8_build rfl hd_X8_build rfl ⟨Nat.le_of_ble_eq_true rfl, Nat.le_of_ble_eq_true rfl⟩ hl.1 rfl (Nat.le_of_ble_eq_true rfl) dX7_runTask_38 ⟨Nat.le_of_ble_eq_true rfl, Nat.le_of_ble_eq_true rfl⟩ (fun r6 u5 H locs hr6 hw => ?_)
  have hw : Wd G A [(a1, ob 2 [.int 0, .int 0, .int 0, .ref a5, .ref a6, .ref a7, .ref a8, .ref a9, .ref a10]), (a7, aI G 72 (fl_fill (-1) 0 72)), (a0, ob 6 [.ref a13, .ref a14, .ref a15, .ref a1, .ref a4, .int (-1)]), (a15, aJ G 5 (fun _ => 0)), (a2, ob 1 [.ref a29, .ref a30, .int 0, .int 0]), (a4, ob 0 [.int (-1), .int 0, .int 0, .int 0, .int 0, .int 0, .int 0, .ref a16, .ref a17, .ref a18]), (a17, aI G 8 (fun _ => 0)), (a18, ob 1 [.ref a19, .ref a20, .int 0, .int 0]), (a13, ob 7 [.ref a21, .ref a22, .ref a23, .ref a24, .ref a25, .int 0, .ref a26, .int 0, .ref a27, .ref a28, .int 0]), (a3, ob 1 [.ref a11, .ref a12, .int 0, .int 0]), (a14, aJ G 8 (fun _ => 0))] s.heap _ _ := hw
  subst hr6
  refine lv_pop hx hb dX7_runTask_41 rfl ?_
  refine lv_aload_n hx hb dX7_runTask_42 rfl (lv_at hl 0 rfl) ?_
  refine r_get cx hw inX7 (ci := 6) rfl 2 rfl 0 (by decide) fl_X7_9 rfl dX7_runTask_43 ?_
  refine lv_aload_n hx hb dX7_runTask_46 rfl (lv_at hl 2 rfl) ?_
  refine lv_aload_n hx hb dX7_runTask_47 rfl (lv_at hl 0 rfl) ?_
  refine r_get cx hw inX7 (ci := 6) rfl 2 rfl 1 (by decide) fl_X7_17 rfl dX7_runTask_48 ?_
  refine lv_aload_n hx hb dX7_runTask_51 rfl (lv_at hl 0 rfl) ?_
  refine r_get cx hw inX7 (ci := 6) rfl 2 rfl 2 (by decide) fl_X7_23 rfl dX7_runTask_52 ?_
  refine r_callVI (As := [.ref a2, .ref a14, .ref a15]) (rest := []) (wr := [(a1, ob 2 [.int 0, .int 0, .int 0, .ref a5, .ref a6, .ref a7, .ref a8, .ref a9, .ref a10]), (a7, aI G 72 (fl_fill (-1) 0 72)), (a0, ob 6 [.ref a13, .ref a14, .ref a15, .ref a1, .ref a4, .int (-1)]), (a4, ob 0 [.int (-1), .int 0, .int 0, .int 0, .int 0, .int 0, .int 0, .ref a16, .ref a17, .ref a18]), (a17, aI G 8 (fun _ => 0)), (a18, ob 1 [.ref a19, .ref a20, .int 0, .int 0]), (a13, ob 7 [.ref a21, .ref a22, .ref a23, .ref a24, .ref a25, .int 0, .ref a26, .int 0, .ref a27, .ref a28, .int 0]), (a3, ob 1 [.ref a11, .ref a12, .int 0, .int 0]), (a14, aJ G 8 (fun _ => 0))]) cx hw hA (a_X8_build_44 l G a13 a2 a14 a15 a29 a30) [3, 4] [0, 1, 2, 5, 6, 7, 8, 9, 10] rfl rfl rfl rfl rfl 8 rfl (ci := 7) rfl ml_X7_46 im_X8_build se_X8_build in_X8 co_X8_build rfl hd_X8_build rfl ⟨Nat.le_of_ble_eq_true rfl, Nat.le_of_ble_eq_true rfl⟩ hl.1 rfl (Nat.le_of_ble_eq_true rfl) dX7_runTask_55 ⟨Nat.le_of_ble_eq_true rfl, Nat.le_of_ble_eq_true rfl⟩ (fun r8 u7 H locs hr8 hw => ?_)
  have hw : Wd G A [(a1, ob 2 [.int 0, .int 0, .int 0, .ref a5, .ref a6, .ref a7, .ref a8, .ref a9, .ref a10]), (a7, aI G 72 (fl_fill (-1) 0 72)), (a0, ob 6 [.ref a13, .ref a14, .ref a15, .ref a1, .ref a4, .int (-1)]), (a4, ob 0 [.int (-1), .int 0, .int 0, .int 0, .int 0, .int 0, .int 0, .ref a16, .ref a17, .ref a18]), (a17, aI G 8 (fun _ => 0)), (a18, ob 1 [.ref a19, .ref a20, .int 0, .int 0]), (a13, ob 7 [.ref a21, .ref a22, .ref a23, .ref a24, .ref a25, .int 0, .ref a26, .int 0, .ref a27, .ref a28, .int 0]), (a3, ob 1 [.ref a11, .ref a12, .int 0, .int 0]), (a14, aJ G 8 (fun _ => 0)), (a15, aJ G 5 (fun _ => 0)), (a2, ob 1 [.ref a29, .ref a30, .int 0, .int 0])] s.heap _ _ := hw
  subst hr8
  refine lv_istore (lv' := [(5, .int 0), (0, .ref a0), (1, .ref a1), (2, .ref a2), (3, .ref a3), (4, .ref a4)]) hx hb dX7_runTask_58 hl (by decide) rfl (fun ls hl => ?_)
  refine lv_iconst (v := 0) hx hb dX7_runTask_60 (by decide) ?_
  refine lv_istore (lv' := [(6, .int 0), (5, .int 0), (0, .ref a0), (1, .ref a1), (2, .ref a2), (3, .ref a3), (4, .ref a4)]) hx hb dX7_runTask_61 hl (by decide) rfl (fun ls hl => ?_)
  refine lv_iload hx hb dX7_runTask_63 (lv_at hl 0 rfl) ?_
  refine lv_iload hx hb dX7_runTask_65 (lv_at hl 1 rfl) ?_
  refine lv_icmp_ge (tgt := 118) hx hb dX7_runTask_67 (by decide) (fun _ => ?_) (fun c9 => absurd (by decide) c9)
  refine lv_aload_n hx hb dX7_runTask_118 rfl (lv_at hl 2 rfl) ?_
  refine lv_aload_n hx hb dX7_runTask_119 rfl (lv_at hl 4 rfl) ?_
  refine r_get cx hw inX2 (ci := 1) rfl 10 rfl 3 (by decide) fl_X7_61 rfl dX7_runTask_120 ?_
  refine lv_iload hx hb dX7_runTask_123 (lv_at hl 1 rfl) ?_
  refine r_callVV (As := [.int 0, .int 0]) (rest := []) (wr := [(a17, aI G 8 (fun _ => 0)), (a18, ob 1 [.ref a19, .ref a20, .int 0, .int 0]), (a13, ob 7 [.ref a21, .ref a22, .ref a23, .ref a24, .ref a25, .int 0, .ref a26, .int 0, .ref a27, .ref a28, .int 0]), (a3, ob 1 [.ref a11, .ref a12, .int 0, .int 0]), (a14, aJ G 8 (fun _ => 0)), (a15, aJ G 5 (fun _ => 0)), (a2, ob 1 [.ref a29, .ref a30, .int 0, .int 0])]) cx hw hA (a_X7_call_45 l G a0 a1 a5 a6 a7 a8 a9 a10 a13 a14 a15 a4 a16 a17 a18) [0, 1, 2, 3] [4, 5, 6, 7, 8, 9, 10] rfl rfl rfl rfl rfl 2 rfl (ci := 6) rfl ml_X7_64 im_X7_call se_X7_call in_X7 co_X7_call rfl hd_X7_call rfl ⟨Nat.le_of_ble_eq_true rfl, Nat.le_of_ble_eq_true rfl⟩ hl.1 rfl (Nat.le_of_ble_eq_true rfl) dX7_runTask_125 ⟨Nat.le_of_ble_eq_true rfl, Nat.le_of_ble_eq_true rfl⟩ (fun u9 H locs hr10 hw => ?_)
  have hw : Wd G A [(a17, aI G 8 (fun _ => 0)), (a18, ob 1 [.ref a19, .ref a20, .int 0, .int 0]), (a13, ob 7 [.ref a21, .ref a22, .ref a23, .ref a24, .ref a25, .int 0, .ref a26, .int 0, .ref a27, .ref a28, .int 0]), (a3, ob 1 [.ref a11, .ref a12, .int 0, .int 0]), (a14, aJ G 8 (fun _ => 0)), (a15, aJ G 5 (fun _ => 0)), (a2, ob 1 [.ref a29, .ref a30, .int 0, .int 0]), (a1, ob 2 [.int 0, .int 0, .int 0, .ref a5, .ref a6, .ref a7, .ref a8, .ref a9, .ref a10]), (a7, aI G 72 (fl_fill (-1) 0 72)), (a0, ob 6 [.ref a13, .ref a14, .ref a15, .ref a1, .ref a4, .int (-1)]), (a4, ob 0 [.int 4, .int 0, .int 0, .int 0, .int 0, .int 0, .int 0, .ref a16, .ref a17, .ref a18])] s.heap _ _ := hw
  refine lv_iconst (v := 0) hx hb dX7_runTask_128 (by decide) ?_
  refine lv_istore (lv' := [(6, .int 0), (5, .int 0), (0, .ref a0), (1, .ref a1), (2, .ref a2), (3, .ref a3), (4, .ref a4)]) hx hb dX7_runTask_129 hl (by decide) rfl (fun ls hl => ?_)
  refine lv_iload hx hb dX7_runTask_131 (lv_at hl 0 rfl) ?_
  refine lv_ldc hx hb cx.2.2.2.1 (cx.2.2.2.2.1 _ cs_X7_68) dX7_runTask_133 ?_
  refine lv_icmp_ge (tgt := 158) hx hb dX7_runTask_135 (by decide) (fun c9 => absurd c9 (by decide)) (fun _ => ?_)
  refine lv_aload_n hx hb dX7_runTask_138 rfl (lv_at hl 2 rfl) ?_
  refine r_get cx hw inX7 (ci := 6) rfl 9 rfl 4 (by decide) fl_X7_30 rfl dX7_runTask_139 ?_
  refine r_callVI (As := []) (rest := []) (wr := [(a17, aI G 8 (fun _ => 0)), (a18, ob 1 [.ref a19, .ref a20, .int 0, .int 0]), (a13, ob 7 [.ref a21, .ref a22, .ref a23, .ref a24, .ref a25, .int 0, .ref a26, .int 0, .ref a27, .ref a28, .int 0]), (a3, ob 1 [.ref a11, .ref a12, .int 0, .int 0]), (a14, aJ G 8 (fun _ => 0)), (a15, aJ G 5 (fun _ => 0)), (a2, ob 1 [.ref a29, .ref a30, .int 0, .int 0]), (a1, ob 2 [.int 0, .int 0, .int 0, .ref a5, .ref a6, .ref a7, .ref a8, .ref a9, .ref a10]), (a7, aI G 72 (fl_fill (-1) 0 72)), (a0, ob 6 [.ref a13, .ref a14, .ref a15, .ref a1, .ref a4, .int (-1)])]) cx hw hA (a_X1_isRunning_46 l G a4 a16 a17 a18) [10] [0, 1, 2, 3, 4, 5, 6, 7, 8, 9] rfl rfl rfl rfl rfl 10 rfl (ci := 0) rfl ml_X7_69 im_X1_isRunning se_X1_isRunning in_X1 co_X1_isRunning rfl hd_X1_isRunning rfl ⟨Nat.le_of_ble_eq_true rfl, Nat.le_of_ble_eq_true rfl⟩ hl.1 rfl (Nat.le_of_ble_eq_true rfl) dX7_runTask_142 ⟨Nat.le_of_ble_eq_true rfl, Nat.le_of_ble_eq_true rfl⟩ (fun r12 u11 H locs hr12 hw => ?_)
  have hw : Wd G A [(a17, aI G 8 (fun _ => 0)), (a18, ob 1 [.ref a19, .ref a20, .int 0, .int 0]), (a13, ob 7 [.ref a21, .ref a22, .ref a23, .ref a24, .ref a25, .int 0, .ref a26, .int 0, .ref a27, .ref a28, .int 0]), (a3, ob 1 [.ref a11, .ref a12, .int 0, .int 0]), (a14, aJ G 8 (fun _ => 0)), (a15, aJ G 5 (fun _ => 0)), (a2, ob 1 [.ref a29, .ref a30, .int 0, .int 0]), (a1, ob 2 [.int 0, .int 0, .int 0, .ref a5, .ref a6, .ref a7, .ref a8, .ref a9, .ref a10]), (a7, aI G 72 (fl_fill (-1) 0 72)), (a0, ob 6 [.ref a13, .ref a14, .ref a15, .ref a1, .ref a4, .int (-1)]), (a4, ob 0 [.int 4, .int 0, .int 0, .int 0, .int 0, .int 0, .int 0, .ref a16, .ref a17, .ref a18])] s.heap _ _ := hw
  subst hr12
  refine lv_if_eq (tgt := 158) hx hb dX7_runTask_145 (by decide) (fun _ => ?_) (fun c9 => absurd (by decide) c9)
  have hw : Wd G A [(a1, ob 2 [.int 0, .int 0, .int 0, .ref a5, .ref a6, .ref a7, .ref a8, .ref a9, .ref a10]), (a7, aI G 72 (fl_fill (-1) 0 72)), (a3, ob 1 [.ref a11, .ref a12, .int 0, .int 0]), (a0, ob 6 [.ref a13, .ref a14, .ref a15, .ref a1, .ref a4, .int (-1)]), (a15, aJ G 5 (fun _ => 0)), (a14, aJ G 8 (fun _ => 0)), (a4, ob 0 [.int 4, .int 0, .int 0, .int 0, .int 0, .int 0, .int 0, .ref a16, .ref a17, .ref a18]), (a17, aI G 8 (fun _ => 0)), (a18, ob 1 [.ref a19, .ref a20, .int 0, .int 0]), (a13, ob 7 [.ref a21, .ref a22, .ref a23, .ref a24, .ref a25, .int 0, .ref a26, .int 0, .ref a27, .ref a28, .int 0]), (a2, ob 1 [.ref a29, .ref a30, .int 0, .int 0])] s.heap _ _ := hw.sub [7, 8, 3, 9, 5, 4, 10, 0, 1, 2, 6] rfl rfl
  exact r_vret cx hr hlk () trivial hw (Nat.le_of_ble_eq_true rfl) (Nat.le_of_ble_eq_true rfl) dX7_runTask_158

set_option maxHeartbeats 4000000 in
set_option maxRecDepth 100000 in
theorem xa_run (l : Launch) (G : Gt) (h0 : Nat) (u : Nat → Nat) (a : Int32) (v : Int32) : Mt l yX11_run cX11_run 3 (some .int) ({ frames := 4, cells := 0, slots := 0, locals := 88 } : Room) G [.ref h0, .int a, .int v] [(h0, ob 10 [.ref (u 0), .int 0, .int (-1), .ref (u 1), .ref (u 2), .ref (u 3), .ref (u 4), .ref (u 5), .ref (u 6), .ref (u 7), .int 0, .ref (u 8), .ref (u 9), .ref (u 10), .ref (u 11), .ref (u 12), .ref (u 13), .ref (u 14), .ref (u 15), .ref (u 16)]), ((u 2), ob 2 [.int 0, .int 0, .int 0, .ref (u 17), .ref (u 18), .ref (u 19), .ref (u 20), .ref (u 21), .ref (u 22)]), ((u 19), aI G 72 (fl_fill (-1) 0 72)), ((u 4), ob 1 [.ref (u 30), .ref (u 31), .int 0, .int 0]), ((u 6), ob 1 [.ref (u 34), .ref (u 35), .int 0, .int 0]), ((u 9), ob 4 [.int 0, .int 0, .int 0, .int 0, .int 0, .int 0, .int 0, .ref (u 45), .ref (u 46), .ref (u 47), .ref (u 48), .ref (u 49), .ref (u 50), .ref (u 51)]), ((u 10), ob 6 [.ref (u 38), .ref (u 52), .ref (u 53), .ref (u 2), .ref (u 12), .int (-1)]), ((u 53), aJ G 5 (fun _ => 0)), ((u 52), aJ G 8 (fun _ => 0)), ((u 12), ob 0 [.int (-1), .int 0, .int 0, .int 0, .int 0, .int 0, .int 0, .ref (u 54), .ref (u 55), .ref (u 56)]), ((u 55), aI G 8 (fun _ => 0)), ((u 56), ob 1 [.ref (u 57), .ref (u 58), .int 0, .int 0]), ((u 38), ob 7 [.ref (u 59), .ref (u 60), .ref (u 61), .ref (u 62), .ref (u 63), .int 0, .ref (u 64), .int 0, .ref (u 65), .ref (u 66), .int 0])] (qI G (fun (r : Int32) (w : Unit) => (a.toInt = 0 ∧ v.toInt = 0 ∧ r.toInt = 4) ∨ (a.toInt = 0 ∧ 1 ≤ v.toInt ∧ v.toInt ≤ 5 ∧ r.toInt = 0) ∨ ((a.toInt ≠ 0 ∨ v.toInt < 0 ∨ 5 < v.toInt) ∧ r.toInt = -1)) (fun w => [])) := by
  refine Mt.of (own := RX11) (cc := cX11_run) (by decide) rfl (Nat.le_of_ble_eq_true rfl) ?_
  intro p e s m below meth c A ls cx hr hlk hmn hA hl hw
  have hx := cx.1
  have hb := cx.2.1
  have hl : lv_has ls 3 [(0, .ref h0), (1, .int a), (2, .int v)] := hl
  refine lv_iload_n hx hb dX11_run_0 rfl (lv_at hl 2 rfl) ?_
  refine lv_if_lt (tgt := 18) hx hb dX11_run_1 (by decide) (fun c1 => ?_) (fun c1 => ?_)
  · refine lv_iconst (v := (-1)) hx hb dX11_run_18 (by decide) ?_
    have hw : Wd G A [] s.heap _ _ := hw.sub [] rfl rfl
    exact r_iret cx hr hlk () (by simp only [fa_lt, fa_le, fa_eq] at c1; have : (-1 : Int32).toInt = -1 := (by decide); have : (0 : Int32).toInt = 0 := (by decide); have : (1 : Int32).toInt = 1 := (by decide); omega) hw (Nat.le_of_ble_eq_true rfl) (Nat.le_of_ble_eq_true rfl) dX11_run_19
  · refine lv_iload_n hx hb dX11_run_4 rfl (lv_at hl 2 rfl) ?_
    refine lv_bipush (v := 6) hx hb dX11_run_5 (by decide) ?_
    refine lv_icmp_ge (tgt := 18) hx hb dX11_run_7 (by decide) (fun c2 => ?_) (fun c2 => ?_)
    · refine lv_iconst (v := (-1)) hx hb dX11_run_18 (by decide) ?_
      have hw : Wd G A [] s.heap _ _ := hw.sub [] rfl rfl
      exact r_iret cx hr hlk () (by simp only [fa_lt, fa_le, fa_eq] at c1 c2; have : (-1 : Int32).toInt = -1 := (by decide); have : (0 : Int32).toInt = 0 := (by decide); have : (1 : Int32).toInt = 1 := (by decide); have : (6 : Int32).toInt = 6 := (by decide); omega) hw (Nat.le_of_ble_eq_true rfl) (Nat.le_of_ble_eq_true rfl) dX11_run_19
    · refine lv_aload_n hx hb dX11_run_10 rfl (lv_at hl 0 rfl) ?_
      refine lv_iload_n hx hb dX11_run_11 rfl (lv_at hl 1 rfl) ?_
      refine r_callVI (As := [.int a]) (rest := []) (wr := [((u 2), ob 2 [.int 0, .int 0, .int 0, .ref (u 17), .ref (u 18), .ref (u 19), .ref (u 20), .ref (u 21), .ref (u 22)]), ((u 19), aI G 72 (fl_fill (-1) 0 72)), ((u 6), ob 1 [.ref (u 34), .ref (u 35), .int 0, .int 0]), ((u 10), ob 6 [.ref (u 38), .ref (u 52), .ref (u 53), .ref (u 2), .ref (u 12), .int (-1)]), ((u 53), aJ G 5 (fun _ => 0)), ((u 52), aJ G 8 (fun _ => 0)), ((u 12), ob 0 [.int (-1), .int 0, .int 0, .int 0, .int 0, .int 0, .int 0, .ref (u 54), .ref (u 55), .ref (u 56)]), ((u 55), aI G 8 (fun _ => 0)), ((u 56), ob 1 [.ref (u 57), .ref (u 58), .int 0, .int 0]), ((u 38), ob 7 [.ref (u 59), .ref (u 60), .ref (u 61), .ref (u 62), .ref (u 63), .int 0, .ref (u 64), .int 0, .ref (u 65), .ref (u 66), .int 0])]) cx hw hA (k_canRun l G h0 u a) [0, 3, 5] [1, 2, 4, 6, 7, 8, 9, 10, 11, 12] rfl rfl rfl rfl rfl 0 rfl (ci := 10) rfl ml_X11_203 im_X11_canRun se_X11_canRun in_X11 co_X11_canRun rfl hd_X11_canRun rfl ⟨Nat.le_of_ble_eq_true rfl, Nat.le_of_ble_eq_true rfl⟩ hl.1 rfl (Nat.le_of_ble_eq_true rfl) dX11_run_12 ⟨Nat.le_of_ble_eq_true rfl, Nat.le_of_ble_eq_true rfl⟩ (fun r4 u3 H locs hr4 hw => ?_)
      have hw : Wd G A [((u 2), ob 2 [.int 0, .int 0, .int 0, .ref (u 17), .ref (u 18), .ref (u 19), .ref (u 20), .ref (u 21), .ref (u 22)]), ((u 19), aI G 72 (fl_fill (-1) 0 72)), ((u 6), ob 1 [.ref (u 34), .ref (u 35), .int 0, .int 0]), ((u 10), ob 6 [.ref (u 38), .ref (u 52), .ref (u 53), .ref (u 2), .ref (u 12), .int (-1)]), ((u 53), aJ G 5 (fun _ => 0)), ((u 52), aJ G 8 (fun _ => 0)), ((u 12), ob 0 [.int (-1), .int 0, .int 0, .int 0, .int 0, .int 0, .int 0, .ref (u 54), .ref (u 55), .ref (u 56)]), ((u 55), aI G 8 (fun _ => 0)), ((u 56), ob 1 [.ref (u 57), .ref (u 58), .int 0, .int 0]), ((u 38), ob 7 [.ref (u 59), .ref (u 60), .ref (u 61), .ref (u 62), .ref (u 63), .int 0, .ref (u 64), .int 0, .ref (u 65), .ref (u 66), .int 0]), (h0, ob 10 [.ref (u 0), .int 0, .int (-1), .ref (u 1), .ref (u 2), .ref (u 3), .ref (u 4), .ref (u 5), .ref (u 6), .ref (u 7), .int 0, .ref (u 8), .ref (u 9), .ref (u 10), .ref (u 11), .ref (u 12), .ref (u 13), .ref (u 14), .ref (u 15), .ref (u 16)]), ((u 4), ob 1 [.ref (u 30), .ref (u 31), .int 0, .int 0]), ((u 9), ob 4 [.int 0, .int 0, .int 0, .int 0, .int 0, .int 0, .int 0, .ref (u 45), .ref (u 46), .ref (u 47), .ref (u 48), .ref (u 49), .ref (u 50), .ref (u 51)])] s.heap _ _ := hw
      rcases hr4 with hr4 | hr4
      · obtain ⟨c5, hr4⟩ := hr4
        subst hr4
        subst c5
        refine lv_if_ne (tgt := 20) hx hb dX11_run_15 (by decide) (fun _ => ?_) (fun c9 => absurd c9 (by decide))
        refine lv_iload_n hx hb dX11_run_20 rfl (lv_at hl 1 rfl) ?_
        refine lv_if_ne (tgt := 50) hx hb dX11_run_21 (by decide) (fun c9 => absurd (by decide) c9) (fun _ => ?_)
        refine lv_aload_n hx hb dX11_run_24 rfl (lv_at hl 0 rfl) ?_
        refine r_get cx hw inX11 (ci := 10) rfl 10 rfl 13 (by decide) fl_X11_92 rfl dX11_run_25 ?_
        refine lv_aload_n hx hb dX11_run_28 rfl (lv_at hl 0 rfl) ?_
        refine r_get cx hw inX11 (ci := 10) rfl 10 rfl 4 (by decide) fl_X11_23 rfl dX11_run_29 ?_
        refine lv_aload_n hx hb dX11_run_32 rfl (lv_at hl 0 rfl) ?_
        refine r_get cx hw inX11 (ci := 10) rfl 10 rfl 6 (by decide) fl_X11_44 rfl dX11_run_33 ?_
        refine lv_aload_n hx hb dX11_run_36 rfl (lv_at hl 0 rfl) ?_
        refine r_get cx hw inX11 (ci := 10) rfl 10 rfl 8 (by decide) fl_X11_51 rfl dX11_run_37 ?_
        refine lv_aload_n hx hb dX11_run_40 rfl (lv_at hl 0 rfl) ?_
        refine r_get cx hw inX11 (ci := 10) rfl 10 rfl 15 (by decide) fl_X11_74 rfl dX11_run_41 ?_
        refine r_callVV (As := [.ref (u 2), .ref (u 4), .ref (u 6), .ref (u 12)]) (rest := []) (wr := [(h0, ob 10 [.ref (u 0), .int 0, .int (-1), .ref (u 1), .ref (u 2), .ref (u 3), .ref (u 4), .ref (u 5), .ref (u 6), .ref (u 7), .int 0, .ref (u 8), .ref (u 9), .ref (u 10), .ref (u 11), .ref (u 12), .ref (u 13), .ref (u 14), .ref (u 15), .ref (u 16)]), ((u 9), ob 4 [.int 0, .int 0, .int 0, .int 0, .int 0, .int 0, .int 0, .ref (u 45), .ref (u 46), .ref (u 47), .ref (u 48), .ref (u 49), .ref (u 50), .ref (u 51)])]) cx hw hA (a_X7_runTask_47 l G (u 10) (u 2) (u 4) (u 6) (u 12) (u 17) (u 18) (u 19) (u 20) (u 21) (u 22) (u 34) (u 35) (u 38) (u 52) (u 53) (u 54) (u 55) (u 56) (u 57) (u 58) (u 59) (u 60) (u 61) (u 62) (u 63) (u 64) (u 65) (u 66) (u 30) (u 31)) [0, 1, 2, 3, 4, 5, 6, 7, 8, 9, 11] [10, 12] rfl rfl rfl rfl rfl 3 rfl (ci := 6) rfl ml_X11_206 im_X7_runTask se_X7_runTask in_X7 co_X7_runTask rfl hd_X7_runTask rfl ⟨Nat.le_of_ble_eq_true rfl, Nat.le_of_ble_eq_true rfl⟩ hl.1 rfl (Nat.le_of_ble_eq_true rfl) dX11_run_44 ⟨Nat.le_of_ble_eq_true rfl, Nat.le_of_ble_eq_true rfl⟩ (fun u6 H locs hr7 hw => ?_)
        have hw : Wd G A [(h0, ob 10 [.ref (u 0), .int 0, .int (-1), .ref (u 1), .ref (u 2), .ref (u 3), .ref (u 4), .ref (u 5), .ref (u 6), .ref (u 7), .int 0, .ref (u 8), .ref (u 9), .ref (u 10), .ref (u 11), .ref (u 12), .ref (u 13), .ref (u 14), .ref (u 15), .ref (u 16)]), ((u 9), ob 4 [.int 0, .int 0, .int 0, .int 0, .int 0, .int 0, .int 0, .ref (u 45), .ref (u 46), .ref (u 47), .ref (u 48), .ref (u 49), .ref (u 50), .ref (u 51)]), ((u 2), ob 2 [.int 0, .int 0, .int 0, .ref (u 17), .ref (u 18), .ref (u 19), .ref (u 20), .ref (u 21), .ref (u 22)]), ((u 19), aI G 72 (fl_fill (-1) 0 72)), ((u 6), ob 1 [.ref (u 34), .ref (u 35), .int 0, .int 0]), ((u 10), ob 6 [.ref (u 38), .ref (u 52), .ref (u 53), .ref (u 2), .ref (u 12), .int (-1)]), ((u 53), aJ G 5 (fun _ => 0)), ((u 52), aJ G 8 (fun _ => 0)), ((u 12), ob 0 [.int 4, .int 0, .int 0, .int 0, .int 0, .int 0, .int 0, .ref (u 54), .ref (u 55), .ref (u 56)]), ((u 55), aI G 8 (fun _ => 0)), ((u 56), ob 1 [.ref (u 57), .ref (u 58), .int 0, .int 0]), ((u 38), ob 7 [.ref (u 59), .ref (u 60), .ref (u 61), .ref (u 62), .ref (u 63), .int 0, .ref (u 64), .int 0, .ref (u 65), .ref (u 66), .int 0]), ((u 4), ob 1 [.ref (u 30), .ref (u 31), .int 0, .int 0])] s.heap _ _ := hw
        refine lv_goto (tgt := 69) hx hb dX11_run_47 (by decide) ?_
        refine lv_aload_n hx hb dX11_run_69 rfl (lv_at hl 0 rfl) ?_
        refine r_get cx hw inX11 (ci := 10) rfl 0 rfl 15 (by decide) fl_X11_74 rfl dX11_run_70 ?_
        refine r_get cx hw inX1 (ci := 0) rfl 8 rfl 0 (by decide) fl_X11_214 rfl dX11_run_73 ?_
        refine lv_if_ne (tgt := 93) hx hb dX11_run_76 (by decide) (fun _ => ?_) (fun c9 => absurd c9 (by decide))
        refine lv_aload_n hx hb dX11_run_93 rfl (lv_at hl 0 rfl) ?_
        refine r_get cx hw inX11 (ci := 10) rfl 0 rfl 15 (by decide) fl_X11_74 rfl dX11_run_94 ?_
        refine lv_iload_n hx hb dX11_run_97 rfl (lv_at hl 2 rfl) ?_
        refine r_callVI (As := [.int v]) (rest := []) (wr := [(h0, ob 10 [.ref (u 0), .int 0, .int (-1), .ref (u 1), .ref (u 2), .ref (u 3), .ref (u 4), .ref (u 5), .ref (u 6), .ref (u 7), .int 0, .ref (u 8), .ref (u 9), .ref (u 10), .ref (u 11), .ref (u 12), .ref (u 13), .ref (u 14), .ref (u 15), .ref (u 16)]), ((u 9), ob 4 [.int 0, .int 0, .int 0, .int 0, .int 0, .int 0, .int 0, .ref (u 45), .ref (u 46), .ref (u 47), .ref (u 48), .ref (u 49), .ref (u 50), .ref (u 51)]), ((u 2), ob 2 [.int 0, .int 0, .int 0, .ref (u 17), .ref (u 18), .ref (u 19), .ref (u 20), .ref (u 21), .ref (u 22)]), ((u 19), aI G 72 (fl_fill (-1) 0 72)), ((u 6), ob 1 [.ref (u 34), .ref (u 35), .int 0, .int 0]), ((u 10), ob 6 [.ref (u 38), .ref (u 52), .ref (u 53), .ref (u 2), .ref (u 12), .int (-1)]), ((u 53), aJ G 5 (fun _ => 0)), ((u 52), aJ G 8 (fun _ => 0)), ((u 55), aI G 8 (fun _ => 0)), ((u 56), ob 1 [.ref (u 57), .ref (u 58), .int 0, .int 0]), ((u 38), ob 7 [.ref (u 59), .ref (u 60), .ref (u 61), .ref (u 62), .ref (u 63), .int 0, .ref (u 64), .int 0, .ref (u 65), .ref (u 66), .int 0]), ((u 4), ob 1 [.ref (u 30), .ref (u 31), .int 0, .int 0])]) cx hw hA (k_about l G (u 12) (u 54) (u 55) (u 56) v) [8] [0, 1, 2, 3, 4, 5, 6, 7, 9, 10, 11, 12] rfl rfl rfl rfl rfl 8 rfl (ci := 0) rfl ml_X11_223 im_X1_about se_X1_about in_X1 co_X1_about rfl hd_X1_about rfl ⟨Nat.le_of_ble_eq_true rfl, Nat.le_of_ble_eq_true rfl⟩ hl.1 rfl (Nat.le_of_ble_eq_true rfl) dX11_run_98 ⟨Nat.le_of_ble_eq_true rfl, Nat.le_of_ble_eq_true rfl⟩ (fun r9 u8 H locs hr9 hw => ?_)
        have hw : Wd G A [(h0, ob 10 [.ref (u 0), .int 0, .int (-1), .ref (u 1), .ref (u 2), .ref (u 3), .ref (u 4), .ref (u 5), .ref (u 6), .ref (u 7), .int 0, .ref (u 8), .ref (u 9), .ref (u 10), .ref (u 11), .ref (u 12), .ref (u 13), .ref (u 14), .ref (u 15), .ref (u 16)]), ((u 9), ob 4 [.int 0, .int 0, .int 0, .int 0, .int 0, .int 0, .int 0, .ref (u 45), .ref (u 46), .ref (u 47), .ref (u 48), .ref (u 49), .ref (u 50), .ref (u 51)]), ((u 2), ob 2 [.int 0, .int 0, .int 0, .ref (u 17), .ref (u 18), .ref (u 19), .ref (u 20), .ref (u 21), .ref (u 22)]), ((u 19), aI G 72 (fl_fill (-1) 0 72)), ((u 6), ob 1 [.ref (u 34), .ref (u 35), .int 0, .int 0]), ((u 10), ob 6 [.ref (u 38), .ref (u 52), .ref (u 53), .ref (u 2), .ref (u 12), .int (-1)]), ((u 53), aJ G 5 (fun _ => 0)), ((u 52), aJ G 8 (fun _ => 0)), ((u 55), aI G 8 (fun _ => 0)), ((u 56), ob 1 [.ref (u 57), .ref (u 58), .int 0, .int 0]), ((u 38), ob 7 [.ref (u 59), .ref (u 60), .ref (u 61), .ref (u 62), .ref (u 63), .int 0, .ref (u 64), .int 0, .ref (u 65), .ref (u 66), .int 0]), ((u 4), ob 1 [.ref (u 30), .ref (u 31), .int 0, .int 0]), ((u 12), ob 0 [.int 4, .int 0, .int 0, .int 0, .int 0, .int 0, .int 0, .ref (u 54), .ref (u 55), .ref (u 56)])] s.heap _ _ := hw
        have hw : Wd G A [] s.heap _ _ := hw.sub [] rfl rfl
        exact r_iret cx hr hlk () (by simp only [fa_lt, fa_le, fa_eq] at c1 c2; have : (-1 : Int32).toInt = -1 := (by decide); have : (0 : Int32).toInt = 0 := (by decide); have : (1 : Int32).toInt = 1 := (by decide); have : (6 : Int32).toInt = 6 := (by decide); omega) hw (Nat.le_of_ble_eq_true rfl) (Nat.le_of_ble_eq_true rfl) dX11_run_101
      obtain ⟨c10, hr4⟩ := hr4
      subst hr4
      refine lv_if_ne (tgt := 20) hx hb dX11_run_15 (by decide) (fun c9 => absurd (by decide) c9) (fun _ => ?_)
      refine lv_iconst (v := (-1)) hx hb dX11_run_18 (by decide) ?_
      have hw : Wd G A [] s.heap _ _ := hw.sub [] rfl rfl
      exact r_iret cx hr hlk () (by simp only [fa_lt, fa_le, fa_eq] at c1 c2 c10; have : (-1 : Int32).toInt = -1 := (by decide); have : (0 : Int32).toInt = 0 := (by decide); have : (1 : Int32).toInt = 1 := (by decide); have : (6 : Int32).toInt = 6 := (by decide); omega) hw (Nat.le_of_ble_eq_true rfl) (Nat.le_of_ble_eq_true rfl) dX11_run_19

set_option maxHeartbeats 4000000 in
set_option maxRecDepth 100000 in
theorem a_X1_keptCount_48 (l : Launch) (G : Gt) (a0 : Nat) (a1 : Nat) (a2 : Nat) (a3 : Nat) : Mt l yX1_keptCount cX1_keptCount 1 (some .int) ({ frames := 1, cells := 0, slots := 0, locals := 14 } : Room) G [.ref a0] [(a0, ob 0 [.int (-1), .int 0, .int 0, .int 0, .int 0, .int 0, .int 0, .ref a1, .ref a2, .ref a3])] (qI G (fun (r : Int32) (w : Unit) => r = 0) (fun w => [(a0, ob 0 [.int (-1), .int 0, .int 0, .int 0, .int 0, .int 0, .int 0, .ref a1, .ref a2, .ref a3])])) := by
  refine Mt.of (own := RX1) (cc := cX1_keptCount) (by decide) rfl (Nat.le_of_ble_eq_true rfl) ?_
  intro p e s m below meth c A ls cx hr hlk hmn hA hl hw
  have hx := cx.1
  have hb := cx.2.1
  have hl : lv_has ls 1 [(0, .ref a0)] := hl
  refine lv_aload_n hx hb dX1_keptCount_0 rfl (lv_at hl 0 rfl) ?_
  refine r_get cx hw inX1 (ci := 0) rfl 0 rfl 4 (by decide) fl_X1_44 rfl dX1_keptCount_1 ?_
  refine lv_bipush (v := 60) hx hb dX1_keptCount_4 (by decide) ?_
  refine r_mmin (v := 0) cx ml_X1_91 hl.1 (Nat.le_of_ble_eq_true rfl) (Nat.le_of_ble_eq_true rfl) (Nat.le_of_ble_eq_true rfl) (Nat.le_of_ble_eq_true rfl) (by decide +kernel) dX1_keptCount_6 ?_
  have hw : Wd G A [(a0, ob 0 [.int (-1), .int 0, .int 0, .int 0, .int 0, .int 0, .int 0, .ref a1, .ref a2, .ref a3])] s.heap _ _ := hw.sub [0] rfl rfl
  exact r_iret cx hr hlk () rfl hw (Nat.le_of_ble_eq_true rfl) (Nat.le_of_ble_eq_true rfl) dX1_keptCount_9

set_option maxHeartbeats 4000000 in
set_option maxRecDepth 100000 in
theorem a_X1_aboutOutput_49 (l : Launch) (G : Gt) (a0 : Nat) (i0 : Int32) (i1 : Int32) (a1 : Nat) (a2 : Nat) (a3 : Nat) : Mt l yX1_aboutOutput cX1_aboutOutput 3 (some .int) ({ frames := 2, cells := 0, slots := 0, locals := 34 } : Room) G [.ref a0, .int i0, .int i1] [(a0, ob 0 [.int (-1), .int 0, .int 0, .int 0, .int 0, .int 0, .int 0, .ref a1, .ref a2, .ref a3])] (qI G (fun (r : Int32) (w : Unit) => r = (-1)) (fun w => [(a0, ob 0 [.int (-1), .int 0, .int 0, .int 0, .int 0, .int 0, .int 0, .ref a1, .ref a2, .ref a3])])) := by
  refine Mt.of (own := RX1) (cc := cX1_aboutOutput) (by decide) rfl (Nat.le_of_ble_eq_true rfl) ?_
  intro p e s m below meth c A ls cx hr hlk hmn hA hl hw
  have hx := cx.1
  have hb := cx.2.1
  have hl : lv_has ls 3 [(0, .ref a0), (1, .int i0), (2, .int i1)] := hl
  refine lv_iload_n hx hb dX1_aboutOutput_0 rfl (lv_at hl 1 rfl) ?_
  refine lv_if_lt (tgt := 21) hx hb dX1_aboutOutput_1 (by decide) (fun c1 => ?_) (fun c1 => ?_)
  · refine lv_iconst (v := (-1)) hx hb dX1_aboutOutput_21 (by decide) ?_
    have hw : Wd G A [(a0, ob 0 [.int (-1), .int 0, .int 0, .int 0, .int 0, .int 0, .int 0, .ref a1, .ref a2, .ref a3])] s.heap _ _ := hw.sub [0] rfl rfl
    exact r_iret cx hr hlk () rfl hw (Nat.le_of_ble_eq_true rfl) (Nat.le_of_ble_eq_true rfl) dX1_aboutOutput_22
  · refine lv_iload_n hx hb dX1_aboutOutput_4 rfl (lv_at hl 1 rfl) ?_
    refine lv_aload_n hx hb dX1_aboutOutput_5 rfl (lv_at hl 0 rfl) ?_
    refine r_callVI (As := []) (rest := [.int i0]) (wr := []) cx hw hA (a_X1_keptCount_48 l G a0 a1 a2 a3) [0] [] rfl rfl rfl rfl rfl 0 rfl (ci := 0) rfl ml_X1_94 im_X1_keptCount se_X1_keptCount in_X1 co_X1_keptCount rfl hd_X1_keptCount rfl ⟨Nat.le_of_ble_eq_true rfl, Nat.le_of_ble_eq_true rfl⟩ hl.1 rfl (Nat.le_of_ble_eq_true rfl) dX1_aboutOutput_6 ⟨Nat.le_of_ble_eq_true rfl, Nat.le_of_ble_eq_true rfl⟩ (fun r3 u2 H locs hr3 hw => ?_)
    have hw : Wd G A [(a0, ob 0 [.int (-1), .int 0, .int 0, .int 0, .int 0, .int 0, .int 0, .ref a1, .ref a2, .ref a3])] s.heap _ _ := hw
    subst hr3
    refine lv_icmp_ge (tgt := 21) hx hb dX1_aboutOutput_9 (by decide) (fun c4 => ?_) (fun c4 => ?_)
    · refine lv_iconst (v := (-1)) hx hb dX1_aboutOutput_21 (by decide) ?_
      have hw : Wd G A [(a0, ob 0 [.int (-1), .int 0, .int 0, .int 0, .int 0, .int 0, .int 0, .ref a1, .ref a2, .ref a3])] s.heap _ _ := hw.sub [0] rfl rfl
      exact r_iret cx hr hlk () rfl hw (Nat.le_of_ble_eq_true rfl) (Nat.le_of_ble_eq_true rfl) dX1_aboutOutput_22
    · exfalso
      simp only [fa_lt, fa_le, fa_eq] at c1 c4; have : (-1 : Int32).toInt = -1 := (by decide); have : (0 : Int32).toInt = 0 := (by decide); have : (1 : Int32).toInt = 1 := (by decide); omega

set_option maxHeartbeats 4000000 in
set_option maxRecDepth 100000 in
theorem xa_output (l : Launch) (G : Gt) (h0 : Nat) (u : Nat → Nat) (a : Int32) (v : Int32) : Mt l yX11_output cX11_output 3 (some .int) ({ frames := 3, cells := 0, slots := 0, locals := 56 } : Room) G [.ref h0, .int a, .int v] [(h0, ob 10 [.ref (u 0), .int 0, .int (-1), .ref (u 1), .ref (u 2), .ref (u 3), .ref (u 4), .ref (u 5), .ref (u 6), .ref (u 7), .int 0, .ref (u 8), .ref (u 9), .ref (u 10), .ref (u 11), .ref (u 12), .ref (u 13), .ref (u 14), .ref (u 15), .ref (u 16)]), ((u 12), ob 0 [.int (-1), .int 0, .int 0, .int 0, .int 0, .int 0, .int 0, .ref (u 54), .ref (u 55), .ref (u 56)])] (qI G (fun (r : Int32) (w : Unit) => r = (-1)) (fun w => [])) := by
  refine Mt.of (own := RX11) (cc := cX11_output) (by decide) rfl (Nat.le_of_ble_eq_true rfl) ?_
  intro p e s m below meth c A ls cx hr hlk hmn hA hl hw
  have hx := cx.1
  have hb := cx.2.1
  have hl : lv_has ls 3 [(0, .ref h0), (1, .int a), (2, .int v)] := hl
  refine lv_aload_n hx hb dX11_output_0 rfl (lv_at hl 0 rfl) ?_
  refine r_get cx hw inX11 (ci := 10) rfl 0 rfl 15 (by decide) fl_X11_74 rfl dX11_output_1 ?_
  refine lv_iload_n hx hb dX11_output_4 rfl (lv_at hl 1 rfl) ?_
  refine lv_iload_n hx hb dX11_output_5 rfl (lv_at hl 2 rfl) ?_
  refine r_callVI (As := [.int a, .int v]) (rest := []) (wr := [(h0, ob 10 [.ref (u 0), .int 0, .int (-1), .ref (u 1), .ref (u 2), .ref (u 3), .ref (u 4), .ref (u 5), .ref (u 6), .ref (u 7), .int 0, .ref (u 8), .ref (u 9), .ref (u 10), .ref (u 11), .ref (u 12), .ref (u 13), .ref (u 14), .ref (u 15), .ref (u 16)])]) cx hw hA (a_X1_aboutOutput_49 l G (u 12) a v (u 54) (u 55) (u 56)) [1] [0] rfl rfl rfl rfl rfl 1 rfl (ci := 0) rfl ml_X11_227 im_X1_aboutOutput se_X1_aboutOutput in_X1 co_X1_aboutOutput rfl hd_X1_aboutOutput rfl ⟨Nat.le_of_ble_eq_true rfl, Nat.le_of_ble_eq_true rfl⟩ hl.1 rfl (Nat.le_of_ble_eq_true rfl) dX11_output_6 ⟨Nat.le_of_ble_eq_true rfl, Nat.le_of_ble_eq_true rfl⟩ (fun r2 u1 H locs hr2 hw => ?_)
  have hw : Wd G A [(h0, ob 10 [.ref (u 0), .int 0, .int (-1), .ref (u 1), .ref (u 2), .ref (u 3), .ref (u 4), .ref (u 5), .ref (u 6), .ref (u 7), .int 0, .ref (u 8), .ref (u 9), .ref (u 10), .ref (u 11), .ref (u 12), .ref (u 13), .ref (u 14), .ref (u 15), .ref (u 16)]), ((u 12), ob 0 [.int (-1), .int 0, .int 0, .int 0, .int 0, .int 0, .int 0, .ref (u 54), .ref (u 55), .ref (u 56)])] s.heap _ _ := hw
  subst hr2
  have hw : Wd G A [] s.heap _ _ := hw.sub [] rfl rfl
  exact r_iret cx hr hlk () rfl hw (Nat.le_of_ble_eq_true rfl) (Nat.le_of_ble_eq_true rfl) dX11_output_9

set_option maxHeartbeats 4000000 in
set_option maxRecDepth 100000 in
theorem a_X1_placeBits_50 (l : Launch) (G : Gt) (a0 : Nat) (i0 : Int32) (a1 : Nat) (a2 : Nat) (a3 : Nat) : Mt l yX1_placeBits cX1_placeBits 2 (some .int) ({ frames := 0, cells := 0, slots := 0, locals := 0 } : Room) G [.ref a0, .int i0] [(a0, ob 0 [.int (-1), .int 0, .int 0, .int 0, .int 0, .int 0, .int 0, .ref a1, .ref a2, .ref a3]), (a2, aI G 8 (fun _ => 0))] (qI G (fun (r : Int32) (w : Unit) => r = 0) (fun w => [(a0, ob 0 [.int (-1), .int 0, .int 0, .int 0, .int 0, .int 0, .int 0, .ref a1, .ref a2, .ref a3]), (a2, aI G 8 (fun _ => 0))])) := by
  refine Mt.of (own := RX1) (cc := cX1_placeBits) (by decide) rfl (Nat.le_of_ble_eq_true rfl) ?_
  intro p e s m below meth c A ls cx hr hlk hmn hA hl hw
  have hx := cx.1
  have hb := cx.2.1
  have hl : lv_has ls 2 [(0, .ref a0), (1, .int i0)] := hl
  refine lv_iload_n hx hb dX1_placeBits_0 rfl (lv_at hl 1 rfl) ?_
  refine lv_if_lt (tgt := 19) hx hb dX1_placeBits_1 (by decide) (fun c1 => ?_) (fun c1 => ?_)
  · refine lv_iconst (v := 0) hx hb dX1_placeBits_19 (by decide) ?_
    have hw : Wd G A [(a0, ob 0 [.int (-1), .int 0, .int 0, .int 0, .int 0, .int 0, .int 0, .ref a1, .ref a2, .ref a3]), (a2, aI G 8 (fun _ => 0))] s.heap _ _ := hw.sub [0, 1] rfl rfl
    exact r_iret cx hr hlk () rfl hw (Nat.le_of_ble_eq_true rfl) (Nat.le_of_ble_eq_true rfl) dX1_placeBits_20
  · refine lv_iload_n hx hb dX1_placeBits_4 rfl (lv_at hl 1 rfl) ?_
    refine lv_bipush (v := 8) hx hb dX1_placeBits_5 (by decide) ?_
    refine lv_icmp_ge (tgt := 19) hx hb dX1_placeBits_7 (by decide) (fun c2 => ?_) (fun c2 => ?_)
    · refine lv_iconst (v := 0) hx hb dX1_placeBits_19 (by decide) ?_
      have hw : Wd G A [(a0, ob 0 [.int (-1), .int 0, .int 0, .int 0, .int 0, .int 0, .int 0, .ref a1, .ref a2, .ref a3]), (a2, aI G 8 (fun _ => 0))] s.heap _ _ := hw.sub [0, 1] rfl rfl
      exact r_iret cx hr hlk () rfl hw (Nat.le_of_ble_eq_true rfl) (Nat.le_of_ble_eq_true rfl) dX1_placeBits_20
    · refine lv_aload_n hx hb dX1_placeBits_10 rfl (lv_at hl 0 rfl) ?_
      refine r_get cx hw inX1 (ci := 0) rfl 0 rfl 8 (by decide) fl_X1_15 rfl dX1_placeBits_11 ?_
      refine lv_iload_n hx hb dX1_placeBits_14 rfl (lv_at hl 1 rfl) ?_
      refine r_iald cx hw 1 rfl (v := 0) (vp_in_iff.mpr (by simp only [fa_lt, fa_le, fa_eq] at c1 c2; have : (-1 : Int32).toInt = -1 := (by decide); have : (0 : Int32).toInt = 0 := (by decide); have : (1 : Int32).toInt = 1 := (by decide); have : (8 : Int32).toInt = 8 := (by decide); omega)) rfl dX1_placeBits_15 ?_
      refine lv_goto (tgt := 20) hx hb dX1_placeBits_16 (by decide) ?_
      have hw : Wd G A [(a0, ob 0 [.int (-1), .int 0, .int 0, .int 0, .int 0, .int 0, .int 0, .ref a1, .ref a2, .ref a3]), (a2, aI G 8 (fun _ => 0))] s.heap _ _ := hw.sub [0, 1] rfl rfl
      exact r_iret cx hr hlk () rfl hw (Nat.le_of_ble_eq_true rfl) (Nat.le_of_ble_eq_true rfl) dX1_placeBits_20

set_option maxHeartbeats 4000000 in
set_option maxRecDepth 100000 in
theorem xa_place (l : Launch) (G : Gt) (h0 : Nat) (u : Nat → Nat) (a : Int32) : Mt l yX11_place cX11_place 2 (some .int) ({ frames := 1, cells := 0, slots := 0, locals := 21 } : Room) G [.ref h0, .int a] [(h0, ob 10 [.ref (u 0), .int 0, .int (-1), .ref (u 1), .ref (u 2), .ref (u 3), .ref (u 4), .ref (u 5), .ref (u 6), .ref (u 7), .int 0, .ref (u 8), .ref (u 9), .ref (u 10), .ref (u 11), .ref (u 12), .ref (u 13), .ref (u 14), .ref (u 15), .ref (u 16)]), ((u 12), ob 0 [.int (-1), .int 0, .int 0, .int 0, .int 0, .int 0, .int 0, .ref (u 54), .ref (u 55), .ref (u 56)]), ((u 55), aI G 8 (fun _ => 0))] (qI G (fun (r : Int32) (w : Unit) => r = 0) (fun w => [])) := by
  refine Mt.of (own := RX11) (cc := cX11_place) (by decide) rfl (Nat.le_of_ble_eq_true rfl) ?_
  intro p e s m below meth c A ls cx hr hlk hmn hA hl hw
  have hx := cx.1
  have hb := cx.2.1
  have hl : lv_has ls 2 [(0, .ref h0), (1, .int a)] := hl
  refine lv_aload_n hx hb dX11_place_0 rfl (lv_at hl 0 rfl) ?_
  refine r_get cx hw inX11 (ci := 10) rfl 0 rfl 15 (by decide) fl_X11_74 rfl dX11_place_1 ?_
  refine lv_iload_n hx hb dX11_place_4 rfl (lv_at hl 1 rfl) ?_
  refine r_callVI (As := [.int a]) (rest := []) (wr := [(h0, ob 10 [.ref (u 0), .int 0, .int (-1), .ref (u 1), .ref (u 2), .ref (u 3), .ref (u 4), .ref (u 5), .ref (u 6), .ref (u 7), .int 0, .ref (u 8), .ref (u 9), .ref (u 10), .ref (u 11), .ref (u 12), .ref (u 13), .ref (u 14), .ref (u 15), .ref (u 16)])]) cx hw hA (a_X1_placeBits_50 l G (u 12) a (u 54) (u 55) (u 56)) [1, 2] [0] rfl rfl rfl rfl rfl 1 rfl (ci := 0) rfl ml_X11_230 im_X1_placeBits se_X1_placeBits in_X1 co_X1_placeBits rfl hd_X1_placeBits rfl ⟨Nat.le_of_ble_eq_true rfl, Nat.le_of_ble_eq_true rfl⟩ hl.1 rfl (Nat.le_of_ble_eq_true rfl) dX11_place_5 ⟨Nat.le_of_ble_eq_true rfl, Nat.le_of_ble_eq_true rfl⟩ (fun r2 u1 H locs hr2 hw => ?_)
  have hw : Wd G A [(h0, ob 10 [.ref (u 0), .int 0, .int (-1), .ref (u 1), .ref (u 2), .ref (u 3), .ref (u 4), .ref (u 5), .ref (u 6), .ref (u 7), .int 0, .ref (u 8), .ref (u 9), .ref (u 10), .ref (u 11), .ref (u 12), .ref (u 13), .ref (u 14), .ref (u 15), .ref (u 16)]), ((u 12), ob 0 [.int (-1), .int 0, .int 0, .int 0, .int 0, .int 0, .int 0, .ref (u 54), .ref (u 55), .ref (u 56)]), ((u 55), aI G 8 (fun _ => 0))] s.heap _ _ := hw
  subst hr2
  have hw : Wd G A [] s.heap _ _ := hw.sub [] rfl rfl
  exact r_iret cx hr hlk () rfl hw (Nat.le_of_ble_eq_true rfl) (Nat.le_of_ble_eq_true rfl) dX11_place_8

set_option maxHeartbeats 4000000 in
set_option maxRecDepth 100000 in
theorem xa_value (l : Launch) (G : Gt) (h0 : Nat) (u : Nat → Nat) : Mt l yX11_value cX11_value 1 (some .int) ({ frames := 0, cells := 0, slots := 0, locals := 0 } : Room) G [.ref h0] [(h0, ob 10 [.ref (u 0), .int 0, .int (-1), .ref (u 1), .ref (u 2), .ref (u 3), .ref (u 4), .ref (u 5), .ref (u 6), .ref (u 7), .int 0, .ref (u 8), .ref (u 9), .ref (u 10), .ref (u 11), .ref (u 12), .ref (u 13), .ref (u 14), .ref (u 15), .ref (u 16)]), ((u 15), ob 1 [.ref (u 67), .ref (u 68), .int 0, .int 0])] (qI G (fun (r : Int32) (w : Unit) => r = (-1)) (fun w => [])) := by
  refine Mt.of (own := RX11) (cc := cX11_value) (by decide) rfl (Nat.le_of_ble_eq_true rfl) ?_
  intro p e s m below meth c A ls cx hr hlk hmn hA hl hw
  have hx := cx.1
  have hb := cx.2.1
  have hl : lv_has ls 1 [(0, .ref h0)] := hl
  refine lv_aload_n hx hb dX11_value_0 rfl (lv_at hl 0 rfl) ?_
  refine r_get cx hw inX11 (ci := 10) rfl 0 rfl 18 (by decide) fl_X11_111 rfl dX11_value_1 ?_
  refine r_get cx hw inX2 (ci := 1) rfl 1 rfl 2 (by decide) fl_X11_233 rfl dX11_value_4 ?_
  refine lv_if_ne (tgt := 12) hx hb dX11_value_7 (by decide) (fun c9 => absurd (by decide) c9) (fun _ => ?_)
  refine lv_iconst (v := (-1)) hx hb dX11_value_10 (by decide) ?_
  have hw : Wd G A [] s.heap _ _ := hw.sub [] rfl rfl
  exact r_iret cx hr hlk () rfl hw (Nat.le_of_ble_eq_true rfl) (Nat.le_of_ble_eq_true rfl) dX11_value_11

set_option maxHeartbeats 4000000 in
set_option maxRecDepth 100000 in
theorem xa_write (l : Launch) (G : Gt) (h0 : Nat) (u : Nat → Nat) (a : Int32) : Mt l yX11_write cX11_write 2 (some .int) ({ frames := 1, cells := 0, slots := 0, locals := 21 } : Room) G [.ref h0, .int a] [(h0, ob 10 [.ref (u 0), .int 0, .int (-1), .ref (u 1), .ref (u 2), .ref (u 3), .ref (u 4), .ref (u 5), .ref (u 6), .ref (u 7), .int 0, .ref (u 8), .ref (u 9), .ref (u 10), .ref (u 11), .ref (u 12), .ref (u 13), .ref (u 14), .ref (u 15), .ref (u 16)]), ((u 9), ob 4 [.int 0, .int 0, .int 0, .int 0, .int 0, .int 0, .int 0, .ref (u 45), .ref (u 46), .ref (u 47), .ref (u 48), .ref (u 49), .ref (u 50), .ref (u 51)])] (qI G (fun (r : Int32) (w : Unit) => r = (-1)) (fun w => [])) := by
  refine Mt.of (own := RX11) (cc := cX11_write) (by decide) rfl (Nat.le_of_ble_eq_true rfl) ?_
  intro p e s m below meth c A ls cx hr hlk hmn hA hl hw
  have hx := cx.1
  have hb := cx.2.1
  have hl : lv_has ls 2 [(0, .ref h0), (1, .int a)] := hl
  refine lv_aload_n hx hb dX11_write_0 rfl (lv_at hl 0 rfl) ?_
  refine r_get cx hw inX11 (ci := 10) rfl 0 rfl 12 (by decide) fl_X11_67 rfl dX11_write_1 ?_
  refine lv_iload_n hx hb dX11_write_4 rfl (lv_at hl 1 rfl) ?_
  refine r_callVI (As := [.int a]) (rest := []) (wr := [(h0, ob 10 [.ref (u 0), .int 0, .int (-1), .ref (u 1), .ref (u 2), .ref (u 3), .ref (u 4), .ref (u 5), .ref (u 6), .ref (u 7), .int 0, .ref (u 8), .ref (u 9), .ref (u 10), .ref (u 11), .ref (u 12), .ref (u 13), .ref (u 14), .ref (u 15), .ref (u 16)])]) cx hw hA (a_X5_hasVariant_39 l G (u 9) a (u 45) (u 46) (u 47) (u 48) (u 49) (u 50) (u 51)) [1] [0] rfl rfl rfl rfl rfl 1 rfl (ci := 4) rfl ml_X11_196 im_X5_hasVariant se_X5_hasVariant in_X5 co_X5_hasVariant rfl hd_X5_hasVariant rfl ⟨Nat.le_of_ble_eq_true rfl, Nat.le_of_ble_eq_true rfl⟩ hl.1 rfl (Nat.le_of_ble_eq_true rfl) dX11_write_5 ⟨Nat.le_of_ble_eq_true rfl, Nat.le_of_ble_eq_true rfl⟩ (fun r2 u1 H locs hr2 hw => ?_)
  have hw : Wd G A [(h0, ob 10 [.ref (u 0), .int 0, .int (-1), .ref (u 1), .ref (u 2), .ref (u 3), .ref (u 4), .ref (u 5), .ref (u 6), .ref (u 7), .int 0, .ref (u 8), .ref (u 9), .ref (u 10), .ref (u 11), .ref (u 12), .ref (u 13), .ref (u 14), .ref (u 15), .ref (u 16)]), ((u 9), ob 4 [.int 0, .int 0, .int 0, .int 0, .int 0, .int 0, .int 0, .ref (u 45), .ref (u 46), .ref (u 47), .ref (u 48), .ref (u 49), .ref (u 50), .ref (u 51)])] s.heap _ _ := hw
  subst hr2
  refine lv_if_ne (tgt := 13) hx hb dX11_write_8 (by decide) (fun c9 => absurd (by decide) c9) (fun _ => ?_)
  refine lv_iconst (v := (-1)) hx hb dX11_write_11 (by decide) ?_
  have hw : Wd G A [] s.heap _ _ := hw.sub [] rfl rfl
  exact r_iret cx hr hlk () rfl hw (Nat.le_of_ble_eq_true rfl) (Nat.le_of_ble_eq_true rfl) dX11_write_12

set_option maxHeartbeats 4000000 in
set_option maxRecDepth 100000 in
theorem a_X9_byteAt_51 (l : Launch) (G : Gt) (a0 : Nat) (i0 : Int32) (a1 : Nat) : Mt l yX9_byteAt cX9_byteAt 2 (some .int) ({ frames := 0, cells := 0, slots := 0, locals := 0 } : Room) G [.ref a0, .int i0] [(a0, ob 8 [.ref a1, .int 0])] (qI G (fun (r : Int32) (w : Unit) => r = (-1)) (fun w => [(a0, ob 8 [.ref a1, .int 0])])) := by
  refine Mt.of (own := RX9) (cc := cX9_byteAt) (by decide) rfl (Nat.le_of_ble_eq_true rfl) ?_
  intro p e s m below meth c A ls cx hr hlk hmn hA hl hw
  have hx := cx.1
  have hb := cx.2.1
  have hl : lv_has ls 2 [(0, .ref a0), (1, .int i0)] := hl
  refine lv_iload_n hx hb dX9_byteAt_0 rfl (lv_at hl 1 rfl) ?_
  refine lv_if_lt (tgt := 21) hx hb dX9_byteAt_1 (by decide) (fun c1 => ?_) (fun c1 => ?_)
  · refine lv_iconst (v := (-1)) hx hb dX9_byteAt_21 (by decide) ?_
    have hw : Wd G A [(a0, ob 8 [.ref a1, .int 0])] s.heap _ _ := hw.sub [0] rfl rfl
    exact r_iret cx hr hlk () rfl hw (Nat.le_of_ble_eq_true rfl) (Nat.le_of_ble_eq_true rfl) dX9_byteAt_22
  · refine lv_iload_n hx hb dX9_byteAt_4 rfl (lv_at hl 1 rfl) ?_
    refine lv_aload_n hx hb dX9_byteAt_5 rfl (lv_at hl 0 rfl) ?_
    refine r_get cx hw inX9 (ci := 8) rfl 0 rfl 1 (by decide) fl_X9_16 rfl dX9_byteAt_6 ?_
    refine lv_icmp_ge (tgt := 21) hx hb dX9_byteAt_9 (by decide) (fun c2 => ?_) (fun c2 => ?_)
    · refine lv_iconst (v := (-1)) hx hb dX9_byteAt_21 (by decide) ?_
      have hw : Wd G A [(a0, ob 8 [.ref a1, .int 0])] s.heap _ _ := hw.sub [0] rfl rfl
      exact r_iret cx hr hlk () rfl hw (Nat.le_of_ble_eq_true rfl) (Nat.le_of_ble_eq_true rfl) dX9_byteAt_22
    · exfalso
      simp only [fa_lt, fa_le, fa_eq] at c1 c2; have : (-1 : Int32).toInt = -1 := (by decide); have : (0 : Int32).toInt = 0 := (by decide); have : (1 : Int32).toInt = 1 := (by decide); omega

set_option maxHeartbeats 4000000 in
set_option maxRecDepth 100000 in
theorem xa_octet (l : Launch) (G : Gt) (h0 : Nat) (u : Nat → Nat) (a : Int32) : Mt l yX11_octet cX11_octet 2 (some .int) ({ frames := 1, cells := 0, slots := 0, locals := 21 } : Room) G [.ref h0, .int a] [(h0, ob 10 [.ref (u 0), .int 0, .int (-1), .ref (u 1), .ref (u 2), .ref (u 3), .ref (u 4), .ref (u 5), .ref (u 6), .ref (u 7), .int 0, .ref (u 8), .ref (u 9), .ref (u 10), .ref (u 11), .ref (u 12), .ref (u 13), .ref (u 14), .ref (u 15), .ref (u 16)]), ((u 16), ob 8 [.ref (u 69), .int 0])] (qI G (fun (r : Int32) (w : Unit) => r = (-1)) (fun w => [])) := by
  refine Mt.of (own := RX11) (cc := cX11_octet) (by decide) rfl (Nat.le_of_ble_eq_true rfl) ?_
  intro p e s m below meth c A ls cx hr hlk hmn hA hl hw
  have hx := cx.1
  have hb := cx.2.1
  have hl : lv_has ls 2 [(0, .ref h0), (1, .int a)] := hl
  refine lv_aload_n hx hb dX11_octet_0 rfl (lv_at hl 0 rfl) ?_
  refine r_get cx hw inX11 (ci := 10) rfl 0 rfl 19 (by decide) fl_X11_117 rfl dX11_octet_1 ?_
  refine lv_iload_n hx hb dX11_octet_4 rfl (lv_at hl 1 rfl) ?_
  refine r_callVI (As := [.int a]) (rest := []) (wr := [(h0, ob 10 [.ref (u 0), .int 0, .int (-1), .ref (u 1), .ref (u 2), .ref (u 3), .ref (u 4), .ref (u 5), .ref (u 6), .ref (u 7), .int 0, .ref (u 8), .ref (u 9), .ref (u 10), .ref (u 11), .ref (u 12), .ref (u 13), .ref (u 14), .ref (u 15), .ref (u 16)])]) cx hw hA (a_X9_byteAt_51 l G (u 16) a (u 69)) [1] [0] rfl rfl rfl rfl rfl 1 rfl (ci := 8) rfl ml_X11_242 im_X9_byteAt se_X9_byteAt in_X9 co_X9_byteAt rfl hd_X9_byteAt rfl ⟨Nat.le_of_ble_eq_true rfl, Nat.le_of_ble_eq_true rfl⟩ hl.1 rfl (Nat.le_of_ble_eq_true rfl) dX11_octet_5 ⟨Nat.le_of_ble_eq_true rfl, Nat.le_of_ble_eq_true rfl⟩ (fun r2 u1 H locs hr2 hw => ?_)
  have hw : Wd G A [(h0, ob 10 [.ref (u 0), .int 0, .int (-1), .ref (u 1), .ref (u 2), .ref (u 3), .ref (u 4), .ref (u 5), .ref (u 6), .ref (u 7), .int 0, .ref (u 8), .ref (u 9), .ref (u 10), .ref (u 11), .ref (u 12), .ref (u 13), .ref (u 14), .ref (u 15), .ref (u 16)]), ((u 16), ob 8 [.ref (u 69), .int 0])] s.heap _ _ := hw
  subst hr2
  have hw : Wd G A [] s.heap _ _ := hw.sub [] rfl rfl
  exact r_iret cx hr hlk () rfl hw (Nat.le_of_ble_eq_true rfl) (Nat.le_of_ble_eq_true rfl) dX11_octet_8

set_option maxHeartbeats 4000000 in
set_option maxRecDepth 100000 in
theorem a_X11_canRun_52 (l : Launch) (G : Gt) (a0 : Nat) (a1 : Nat) (a2 : Nat) (a3 : Nat) (a4 : Nat) (a5 : Nat) (a6 : Nat) (a7 : Nat) (a8 : Nat) (a9 : Nat) (a10 : Nat) (a11 : Nat) (a12 : Nat) (a13 : Nat) (a14 : Nat) (a15 : Nat) (a16 : Nat) (a17 : Nat) (a18 : Nat) (a19 : Nat) : Mt l yX11_canRun cX11_canRun 2 (some .boolean) ({ frames := 1, cells := 0, slots := 0, locals := 22 } : Room) G [.ref a0, .int 0] [(a0, ob 10 [.ref a1, .int 0, .int (-1), .ref a2, .ref a3, .ref a4, .ref a5, .ref a6, .ref a7, .ref a8, .int 0, .ref a9, .ref a10, .ref a11, .ref a12, .ref a13, .ref a14, .ref a15, .ref a16, .ref a17]), (a5, ob 1 [.ref a18, .ref a19, .int 0, .int 0])] (qI G (fun (r : Int32) (w : Unit) => r = 1) (fun w => [(a0, ob 10 [.ref a1, .int 0, .int (-1), .ref a2, .ref a3, .ref a4, .ref a5, .ref a6, .ref a7, .ref a8, .int 0, .ref a9, .ref a10, .ref a11, .ref a12, .ref a13, .ref a14, .ref a15, .ref a16, .ref a17]), (a5, ob 1 [.ref a18, .ref a19, .int 0, .int 0])])) := by
  refine Mt.of (own := RX11) (cc := cX11_canRun) (by decide) rfl (Nat.le_of_ble_eq_true rfl) ?_
  intro p e s m below meth c A ls cx hr hlk hmn hA hl hw
  have hx := cx.1
  have hb := cx.2.1
  have hl : lv_has ls 2 [(0, .ref a0), (1, .int 0)] := hl
  refine lv_iload_n hx hb dX11_canRun_0 rfl (lv_at hl 1 rfl) ?_
  refine lv_if_eq (tgt := 11) hx hb dX11_canRun_1 (by decide) (fun _ => ?_) (fun c9 => absurd (by decide) c9)
  refine lv_iload_n hx hb dX11_canRun_11 rfl (lv_at hl 1 rfl) ?_
  refine lv_if_eq (tgt := 25) hx hb dX11_canRun_12 (by decide) (fun _ => ?_) (fun c9 => absurd (by decide) c9)
  refine lv_aload_n hx hb dX11_canRun_25 rfl (lv_at hl 0 rfl) ?_
  refine r_get cx hw inX11 (ci := 10) rfl 0 rfl 10 (by decide) fl_X11_57 rfl dX11_canRun_26 ?_
  refine lv_if_ne (tgt := 42) hx hb dX11_canRun_29 (by decide) (fun c9 => absurd (by decide) c9) (fun _ => ?_)
  refine lv_aload_n hx hb dX11_canRun_32 rfl (lv_at hl 0 rfl) ?_
  refine r_get cx hw inX11 (ci := 10) rfl 0 rfl 6 (by decide) fl_X11_44 rfl dX11_canRun_33 ?_
  refine r_callVI (As := []) (rest := []) (wr := [(a0, ob 10 [.ref a1, .int 0, .int (-1), .ref a2, .ref a3, .ref a4, .ref a5, .ref a6, .ref a7, .ref a8, .int 0, .ref a9, .ref a10, .ref a11, .ref a12, .ref a13, .ref a14, .ref a15, .ref a16, .ref a17])]) cx hw hA (a_X2_stars_1 l G a5 a18 a19) [1] [0] rfl rfl rfl rfl rfl 1 rfl (ci := 1) rfl ml_X11_148 im_X2_stars se_X2_stars in_X2 co_X2_stars rfl hd_X2_stars rfl ⟨Nat.le_of_ble_eq_true rfl, Nat.le_of_ble_eq_true rfl⟩ hl.1 rfl (Nat.le_of_ble_eq_true rfl) dX11_canRun_36 ⟨Nat.le_of_ble_eq_true rfl, Nat.le_of_ble_eq_true rfl⟩ (fun r2 u1 H locs hr2 hw => ?_)
  have hw : Wd G A [(a0, ob 10 [.ref a1, .int 0, .int (-1), .ref a2, .ref a3, .ref a4, .ref a5, .ref a6, .ref a7, .ref a8, .int 0, .ref a9, .ref a10, .ref a11, .ref a12, .ref a13, .ref a14, .ref a15, .ref a16, .ref a17]), (a5, ob 1 [.ref a18, .ref a19, .int 0, .int 0])] s.heap _ _ := hw
  subst hr2
  refine lv_if_ne (tgt := 46) hx hb dX11_canRun_39 (by decide) (fun c9 => absurd (by decide) c9) (fun _ => ?_)
  refine lv_iconst (v := 1) hx hb dX11_canRun_42 (by decide) ?_
  refine lv_goto (tgt := 47) hx hb dX11_canRun_43 (by decide) ?_
  have hw : Wd G A [(a0, ob 10 [.ref a1, .int 0, .int (-1), .ref a2, .ref a3, .ref a4, .ref a5, .ref a6, .ref a7, .ref a8, .int 0, .ref a9, .ref a10, .ref a11, .ref a12, .ref a13, .ref a14, .ref a15, .ref a16, .ref a17]), (a5, ob 1 [.ref a18, .ref a19, .int 0, .int 0])] s.heap _ _ := hw.sub [0, 1] rfl rfl
  exact r_zret cx hr rfl hlk () rfl hw (Nat.le_of_ble_eq_true rfl) (Nat.le_of_ble_eq_true rfl) dX11_canRun_47

set_option maxHeartbeats 4000000 in
set_option maxRecDepth 100000 in
theorem a_X11_canRun_53 (l : Launch) (G : Gt) (a0 : Nat) (a1 : Nat) (a2 : Nat) (a3 : Nat) (a4 : Nat) (a5 : Nat) (a6 : Nat) (a7 : Nat) (a8 : Nat) (a9 : Nat) (a10 : Nat) (a11 : Nat) (a12 : Nat) (a13 : Nat) (a14 : Nat) (a15 : Nat) (a16 : Nat) (a17 : Nat) (a18 : Nat) (a19 : Nat) (a20 : Nat) (a21 : Nat) (a22 : Nat) (a23 : Nat) (a24 : Nat) : Mt l yX11_canRun cX11_canRun 2 (some .boolean) ({ frames := 0, cells := 0, slots := 0, locals := 0 } : Room) G [.ref a0, .int 1] [(a1, ob 4 [.int 0, .int 0, .int 0, .int 0, .int 0, .int 0, .int 0, .ref a2, .ref a3, .ref a4, .ref a5, .ref a6, .ref a7, .ref a8]), (a0, ob 10 [.ref a9, .int 0, .int (-1), .ref a10, .ref a11, .ref a12, .ref a13, .ref a14, .ref a15, .ref a16, .int 0, .ref a17, .ref a1, .ref a18, .ref a19, .ref a20, .ref a21, .ref a22, .ref a23, .ref a24])] (qI G (fun (r : Int32) (w : Unit) => r = 0) (fun w => [(a1, ob 4 [.int 0, .int 0, .int 0, .int 0, .int 0, .int 0, .int 0, .ref a2, .ref a3, .ref a4, .ref a5, .ref a6, .ref a7, .ref a8]), (a0, ob 10 [.ref a9, .int 0, .int (-1), .ref a10, .ref a11, .ref a12, .ref a13, .ref a14, .ref a15, .ref a16, .int 0, .ref a17, .ref a1, .ref a18, .ref a19, .ref a20, .ref a21, .ref a22, .ref a23, .ref a24])])) := by
  refine Mt.of (own := RX11) (cc := cX11_canRun) (by decide) rfl (Nat.le_of_ble_eq_true rfl) ?_
  intro p e s m below meth c A ls cx hr hlk hmn hA hl hw
  have hx := cx.1
  have hb := cx.2.1
  have hl : lv_has ls 2 [(0, .ref a0), (1, .int 1)] := hl
  refine lv_iload_n hx hb dX11_canRun_0 rfl (lv_at hl 1 rfl) ?_
  refine lv_if_eq (tgt := 11) hx hb dX11_canRun_1 (by decide) (fun c9 => absurd c9 (by decide)) (fun _ => ?_)
  refine lv_iload_n hx hb dX11_canRun_4 rfl (lv_at hl 1 rfl) ?_
  refine lv_iconst (v := 1) hx hb dX11_canRun_5 (by decide) ?_
  refine lv_icmp_eq (tgt := 11) hx hb dX11_canRun_6 (by decide) (fun _ => ?_) (fun c9 => absurd (by decide) c9)
  refine lv_iload_n hx hb dX11_canRun_11 rfl (lv_at hl 1 rfl) ?_
  refine lv_if_eq (tgt := 25) hx hb dX11_canRun_12 (by decide) (fun c9 => absurd c9 (by decide)) (fun _ => ?_)
  refine lv_aload_n hx hb dX11_canRun_15 rfl (lv_at hl 0 rfl) ?_
  refine r_get cx hw inX11 (ci := 10) rfl 1 rfl 12 (by decide) fl_X11_67 rfl dX11_canRun_16 ?_
  refine r_get cx hw inX5 (ci := 4) rfl 0 rfl 0 (by decide) fl_X11_224 rfl dX11_canRun_19 ?_
  refine lv_if_eq (tgt := 46) hx hb dX11_canRun_22 (by decide) (fun _ => ?_) (fun c9 => absurd (by decide) c9)
  refine lv_iconst (v := 0) hx hb dX11_canRun_46 (by decide) ?_
  have hw : Wd G A [(a1, ob 4 [.int 0, .int 0, .int 0, .int 0, .int 0, .int 0, .int 0, .ref a2, .ref a3, .ref a4, .ref a5, .ref a6, .ref a7, .ref a8]), (a0, ob 10 [.ref a9, .int 0, .int (-1), .ref a10, .ref a11, .ref a12, .ref a13, .ref a14, .ref a15, .ref a16, .int 0, .ref a17, .ref a1, .ref a18, .ref a19, .ref a20, .ref a21, .ref a22, .ref a23, .ref a24])] s.heap _ _ := hw.sub [0, 1] rfl rfl
  exact r_zret cx hr rfl hlk () rfl hw (Nat.le_of_ble_eq_true rfl) (Nat.le_of_ble_eq_true rfl) dX11_canRun_47

set_option maxHeartbeats 4000000 in
set_option maxRecDepth 100000 in
theorem a_X11_canRun_55 (l : Launch) (G : Gt) (a0 : Nat) (a1 : Nat) (a2 : Nat) (a3 : Nat) (a4 : Nat) (a5 : Nat) (a6 : Nat) (a7 : Nat) (a8 : Nat) (a9 : Nat) (a10 : Nat) (a11 : Nat) (a12 : Nat) (a13 : Nat) (a14 : Nat) (a15 : Nat) (a16 : Nat) (a17 : Nat) (a18 : Nat) (a19 : Nat) (a20 : Nat) (a21 : Nat) (a22 : Nat) (a23 : Nat) (a24 : Nat) : Mt l yX11_canRun cX11_canRun 2 (some .boolean) ({ frames := 0, cells := 0, slots := 0, locals := 0 } : Room) G [.ref a0, .int 1] [(a1, ob 4 [.int 0, .int 0, .int 0, .int 0, .int 0, .int 0, .int 0, .ref a2, .ref a3, .ref a4, .ref a5, .ref a6, .ref a7, .ref a8]), (a0, ob 10 [.ref a9, .int 0, .int (-1), .ref a10, .ref a11, .ref a12, .ref a13, .ref a14, .ref a15, .ref a16, .int 0, .ref a17, .ref a1, .ref a18, .ref a19, .ref a20, .ref a21, .ref a22, .ref a23, .ref a24])] (qI G (fun (r : Int32) (w : Unit) => r = 0) (fun w => [(a1, ob 4 [.int 0, .int 0, .int 0, .int 0, .int 0, .int 0, .int 0, .ref a2, .ref a3, .ref a4, .ref a5, .ref a6, .ref a7, .ref a8]), (a0, ob 10 [.ref a9, .int 0, .int (-1), .ref a10, .ref a11, .ref a12, .ref a13, .ref a14, .ref a15, .ref a16, .int 0, .ref a17, .ref a1, .ref a18, .ref a19, .ref a20, .ref a21, .ref a22, .ref a23, .ref a24])])) := by
  refine Mt.of (own := RX11) (cc := cX11_canRun) (by decide) rfl (Nat.le_of_ble_eq_true rfl) ?_
  intro p e s m below meth c A ls cx hr hlk hmn hA hl hw
  have hx := cx.1
  have hb := cx.2.1
  have hl : lv_has ls 2 [(0, .ref a0), (1, .int 1)] := hl
  refine lv_iload_n hx hb dX11_canRun_0 rfl (lv_at hl 1 rfl) ?_
  refine lv_if_eq (tgt := 11) hx hb dX11_canRun_1 (by decide) (fun c9 => absurd c9 (by decide)) (fun _ => ?_)
  refine lv_iload_n hx hb dX11_canRun_4 rfl (lv_at hl 1 rfl) ?_
  refine lv_iconst (v := 1) hx hb dX11_canRun_5 (by decide) ?_
  refine lv_icmp_eq (tgt := 11) hx hb dX11_canRun_6 (by decide) (fun _ => ?_) (fun c9 => absurd (by decide) c9)
  refine lv_iload_n hx hb dX11_canRun_11 rfl (lv_at hl 1 rfl) ?_
  refine lv_if_eq (tgt := 25) hx hb dX11_canRun_12 (by decide) (fun c9 => absurd c9 (by decide)) (fun _ => ?_)
  refine lv_aload_n hx hb dX11_canRun_15 rfl (lv_at hl 0 rfl) ?_
  refine r_get cx hw inX11 (ci := 10) rfl 1 rfl 12 (by decide) fl_X11_67 rfl dX11_canRun_16 ?_
  refine r_get cx hw inX5 (ci := 4) rfl 0 rfl 0 (by decide) fl_X11_224 rfl dX11_canRun_19 ?_
  refine lv_if_eq (tgt := 46) hx hb dX11_canRun_22 (by decide) (fun _ => ?_) (fun c9 => absurd (by decide) c9)
  refine lv_iconst (v := 0) hx hb dX11_canRun_46 (by decide) ?_
  have hw : Wd G A [(a1, ob 4 [.int 0, .int 0, .int 0, .int 0, .int 0, .int 0, .int 0, .ref a2, .ref a3, .ref a4, .ref a5, .ref a6, .ref a7, .ref a8]), (a0, ob 10 [.ref a9, .int 0, .int (-1), .ref a10, .ref a11, .ref a12, .ref a13, .ref a14, .ref a15, .ref a16, .int 0, .ref a17, .ref a1, .ref a18, .ref a19, .ref a20, .ref a21, .ref a22, .ref a23, .ref a24])] s.heap _ _ := hw.sub [0, 1] rfl rfl
  exact r_zret cx hr rfl hlk () rfl hw (Nat.le_of_ble_eq_true rfl) (Nat.le_of_ble_eq_true rfl) dX11_canRun_47

set_option maxHeartbeats 4000000 in
set_option maxRecDepth 100000 in
theorem a_X11_canRun_56 (l : Launch) (G : Gt) (a0 : Nat) (a1 : Nat) (a2 : Nat) (a3 : Nat) (a4 : Nat) (a5 : Nat) (a6 : Nat) (a7 : Nat) (a8 : Nat) (a9 : Nat) (a10 : Nat) (a11 : Nat) (a12 : Nat) (a13 : Nat) (a14 : Nat) (a15 : Nat) (a16 : Nat) (a17 : Nat) (a18 : Nat) (a19 : Nat) (a20 : Nat) (a21 : Nat) (a22 : Nat) (a23 : Nat) (a24 : Nat) : Mt l yX11_canRun cX11_canRun 2 (some .boolean) ({ frames := 0, cells := 0, slots := 0, locals := 0 } : Room) G [.ref a0, .int 1] [(a1, ob 4 [.int 0, .int 0, .int 0, .int 0, .int 0, .int 0, .int 0, .ref a2, .ref a3, .ref a4, .ref a5, .ref a6, .ref a7, .ref a8]), (a0, ob 10 [.ref a9, .int 0, .int (-1), .ref a10, .ref a11, .ref a12, .ref a13, .ref a14, .ref a15, .ref a16, .int 0, .ref a17, .ref a1, .ref a18, .ref a19, .ref a20, .ref a21, .ref a22, .ref a23, .ref a24])] (qI G (fun (r : Int32) (w : Unit) => r = 0) (fun w => [(a1, ob 4 [.int 0, .int 0, .int 0, .int 0, .int 0, .int 0, .int 0, .ref a2, .ref a3, .ref a4, .ref a5, .ref a6, .ref a7, .ref a8]), (a0, ob 10 [.ref a9, .int 0, .int (-1), .ref a10, .ref a11, .ref a12, .ref a13, .ref a14, .ref a15, .ref a16, .int 0, .ref a17, .ref a1, .ref a18, .ref a19, .ref a20, .ref a21, .ref a22, .ref a23, .ref a24])])) := by
  refine Mt.of (own := RX11) (cc := cX11_canRun) (by decide) rfl (Nat.le_of_ble_eq_true rfl) ?_
  intro p e s m below meth c A ls cx hr hlk hmn hA hl hw
  have hx := cx.1
  have hb := cx.2.1
  have hl : lv_has ls 2 [(0, .ref a0), (1, .int 1)] := hl
  refine lv_iload_n hx hb dX11_canRun_0 rfl (lv_at hl 1 rfl) ?_
  refine lv_if_eq (tgt := 11) hx hb dX11_canRun_1 (by decide) (fun c9 => absurd c9 (by decide)) (fun _ => ?_)
  refine lv_iload_n hx hb dX11_canRun_4 rfl (lv_at hl 1 rfl) ?_
  refine lv_iconst (v := 1) hx hb dX11_canRun_5 (by decide) ?_
  refine lv_icmp_eq (tgt := 11) hx hb dX11_canRun_6 (by decide) (fun _ => ?_) (fun c9 => absurd (by decide) c9)
  refine lv_iload_n hx hb dX11_canRun_11 rfl (lv_at hl 1 rfl) ?_
  refine lv_if_eq (tgt := 25) hx hb dX11_canRun_12 (by decide) (fun c9 => absurd c9 (by decide)) (fun _ => ?_)
  refine lv_aload_n hx hb dX11_canRun_15 rfl (lv_at hl 0 rfl) ?_
  refine r_get cx hw inX11 (ci := 10) rfl 1 rfl 12 (by decide) fl_X11_67 rfl dX11_canRun_16 ?_
  refine r_get cx hw inX5 (ci := 4) rfl 0 rfl 0 (by decide) fl_X11_224 rfl dX11_canRun_19 ?_
  refine lv_if_eq (tgt := 46) hx hb dX11_canRun_22 (by decide) (fun _ => ?_) (fun c9 => absurd (by decide) c9)
  refine lv_iconst (v := 0) hx hb dX11_canRun_46 (by decide) ?_
  have hw : Wd G A [(a1, ob 4 [.int 0, .int 0, .int 0, .int 0, .int 0, .int 0, .int 0, .ref a2, .ref a3, .ref a4, .ref a5, .ref a6, .ref a7, .ref a8]), (a0, ob 10 [.ref a9, .int 0, .int (-1), .ref a10, .ref a11, .ref a12, .ref a13, .ref a14, .ref a15, .ref a16, .int 0, .ref a17, .ref a1, .ref a18, .ref a19, .ref a20, .ref a21, .ref a22, .ref a23, .ref a24])] s.heap _ _ := hw.sub [0, 1] rfl rfl
  exact r_zret cx hr rfl hlk () rfl hw (Nat.le_of_ble_eq_true rfl) (Nat.le_of_ble_eq_true rfl) dX11_canRun_47

set_option maxHeartbeats 4000000 in
set_option maxRecDepth 100000 in
theorem a_X11_runBoth_54 (l : Launch) (G : Gt) (a0 : Nat) (a1 : Nat) (a2 : Nat) (a3 : Nat) (a4 : Nat) (a5 : Nat) (a6 : Nat) (a7 : Nat) (a8 : Nat) (a9 : Nat) (a10 : Nat) (a11 : Nat) (a12 : Nat) (a13 : Nat) (a14 : Nat) (a15 : Nat) (a16 : Nat) (a17 : Nat) (a18 : Nat) (a19 : Nat) (a20 : Nat) (a21 : Nat) (a22 : Nat) (a23 : Nat) (a24 : Nat) (a25 : Nat) (a26 : Nat) : Mt l yX11_runBoth cX11_runBoth 1 (some .boolean) ({ frames := 2, cells := 0, slots := 0, locals := 43 } : Room) G [.ref a0] [(a0, ob 10 [.ref a1, .int 0, .int (-1), .ref a2, .ref a3, .ref a4, .ref a5, .ref a6, .ref a7, .ref a8, .int 0, .ref a9, .ref a10, .ref a11, .ref a12, .ref a13, .ref a14, .ref a15, .ref a16, .ref a17]), (a5, ob 1 [.ref a18, .ref a19, .int 0, .int 0]), (a10, ob 4 [.int 0, .int 0, .int 0, .int 0, .int 0, .int 0, .int 0, .ref a20, .ref a21, .ref a22, .ref a23, .ref a24, .ref a25, .ref a26])] (qI G (fun (r : Int32) (w : Unit) => r = 0) (fun w => [(a0, ob 10 [.ref a1, .int 0, .int (-1), .ref a2, .ref a3, .ref a4, .ref a5, .ref a6, .ref a7, .ref a8, .int 0, .ref a9, .ref a10, .ref a11, .ref a12, .ref a13, .ref a14, .ref a15, .ref a16, .ref a17]), (a5, ob 1 [.ref a18, .ref a19, .int 0, .int 0]), (a10, ob 4 [.int 0, .int 0, .int 0, .int 0, .int 0, .int 0, .int 0, .ref a20, .ref a21, .ref a22, .ref a23, .ref a24, .ref a25, .ref a26])])) := by
  refine Mt.of (own := RX11) (cc := cX11_runBoth) (by decide) rfl (Nat.le_of_ble_eq_true rfl) ?_
  intro p e s m below meth c A ls cx hr hlk hmn hA hl hw
  have hx := cx.1
  have hb := cx.2.1
  have hl : lv_has ls 1 [(0, .ref a0)] := hl
  refine lv_aload_n hx hb dX11_runBoth_0 rfl (lv_at hl 0 rfl) ?_
  refine lv_iconst (v := 0) hx hb dX11_runBoth_1 (by decide) ?_
  refine r_callVI (As := [.int 0]) (rest := []) (wr := [(a10, ob 4 [.int 0, .int 0, .int 0, .int 0, .int 0, .int 0, .int 0, .ref a20, .ref a21, .ref a22, .ref a23, .ref a24, .ref a25, .ref a26])]) cx hw hA (a_X11_canRun_52 l G a0 a1 a2 a3 a4 a5 a6 a7 a8 a9 a10 a11 a12 a13 a14 a15 a16 a17 a18 a19) [0, 1] [2] rfl rfl rfl rfl rfl 0 rfl (ci := 10) rfl ml_X11_203 im_X11_canRun se_X11_canRun in_X11 co_X11_canRun rfl hd_X11_canRun rfl ⟨Nat.le_of_ble_eq_true rfl, Nat.le_of_ble_eq_true rfl⟩ hl.1 rfl (Nat.le_of_ble_eq_true rfl) dX11_runBoth_2 ⟨Nat.le_of_ble_eq_true rfl, Nat.le_of_ble_eq_true rfl⟩ (fun r2 u1 H locs hr2 hw => ?_)
  have hw : Wd G A [(a10, ob 4 [.int 0, .int 0, .int 0, .int 0, .int 0, .int 0, .int 0, .ref a20, .ref a21, .ref a22, .ref a23, .ref a24, .ref a25, .ref a26]), (a0, ob 10 [.ref a1, .int 0, .int (-1), .ref a2, .ref a3, .ref a4, .ref a5, .ref a6, .ref a7, .ref a8, .int 0, .ref a9, .ref a10, .ref a11, .ref a12, .ref a13, .ref a14, .ref a15, .ref a16, .ref a17]), (a5, ob 1 [.ref a18, .ref a19, .int 0, .int 0])] s.heap _ _ := hw
  subst hr2
  refine lv_if_eq (tgt := 16) hx hb dX11_runBoth_5 (by decide) (fun c9 => absurd c9 (by decide)) (fun _ => ?_)
  refine lv_aload_n hx hb dX11_runBoth_8 rfl (lv_at hl 0 rfl) ?_
  refine lv_iconst (v := 1) hx hb dX11_runBoth_9 (by decide) ?_
  refine r_callVI (As := [.int 1]) (rest := []) (wr := [(a5, ob 1 [.ref a18, .ref a19, .int 0, .int 0])]) cx hw hA (a_X11_canRun_56 l G a0 a10 a20 a21 a22 a23 a24 a25 a26 a1 a2 a3 a4 a5 a6 a7 a8 a9 a11 a12 a13 a14 a15 a16 a17) [0, 1] [2] rfl rfl rfl rfl rfl 1 rfl (ci := 10) rfl ml_X11_203 im_X11_canRun se_X11_canRun in_X11 co_X11_canRun rfl hd_X11_canRun rfl ⟨Nat.le_of_ble_eq_true rfl, Nat.le_of_ble_eq_true rfl⟩ hl.1 rfl (Nat.le_of_ble_eq_true rfl) dX11_runBoth_10 ⟨Nat.le_of_ble_eq_true rfl, Nat.le_of_ble_eq_true rfl⟩ (fun r4 u3 H locs hr4 hw => ?_)
  have hw : Wd G A [(a5, ob 1 [.ref a18, .ref a19, .int 0, .int 0]), (a10, ob 4 [.int 0, .int 0, .int 0, .int 0, .int 0, .int 0, .int 0, .ref a20, .ref a21, .ref a22, .ref a23, .ref a24, .ref a25, .ref a26]), (a0, ob 10 [.ref a1, .int 0, .int (-1), .ref a2, .ref a3, .ref a4, .ref a5, .ref a6, .ref a7, .ref a8, .int 0, .ref a9, .ref a10, .ref a11, .ref a12, .ref a13, .ref a14, .ref a15, .ref a16, .ref a17])] s.heap _ _ := hw
  subst hr4
  refine lv_if_ne (tgt := 18) hx hb dX11_runBoth_13 (by decide) (fun c9 => absurd (by decide) c9) (fun _ => ?_)
  refine lv_iconst (v := 0) hx hb dX11_runBoth_16 (by decide) ?_
  have hw : Wd G A [(a0, ob 10 [.ref a1, .int 0, .int (-1), .ref a2, .ref a3, .ref a4, .ref a5, .ref a6, .ref a7, .ref a8, .int 0, .ref a9, .ref a10, .ref a11, .ref a12, .ref a13, .ref a14, .ref a15, .ref a16, .ref a17]), (a5, ob 1 [.ref a18, .ref a19, .int 0, .int 0]), (a10, ob 4 [.int 0, .int 0, .int 0, .int 0, .int 0, .int 0, .int 0, .ref a20, .ref a21, .ref a22, .ref a23, .ref a24, .ref a25, .ref a26])] s.heap _ _ := hw.sub [2, 0, 1] rfl rfl
  exact r_zret cx hr rfl hlk () rfl hw (Nat.le_of_ble_eq_true rfl) (Nat.le_of_ble_eq_true rfl) dX11_runBoth_17

set_option maxHeartbeats 4000000 in
set_option maxRecDepth 100000 in
theorem xa_agree (l : Launch) (G : Gt) (h0 : Nat) (u : Nat → Nat) : Mt l yX11_agree cX11_agree 1 (some .int) ({ frames := 3, cells := 0, slots := 0, locals := 63 } : Room) G [.ref h0] [(h0, ob 10 [.ref (u 0), .int 0, .int (-1), .ref (u 1), .ref (u 2), .ref (u 3), .ref (u 4), .ref (u 5), .ref (u 6), .ref (u 7), .int 0, .ref (u 8), .ref (u 9), .ref (u 10), .ref (u 11), .ref (u 12), .ref (u 13), .ref (u 14), .ref (u 15), .ref (u 16)]), ((u 4), ob 1 [.ref (u 30), .ref (u 31), .int 0, .int 0]), ((u 9), ob 4 [.int 0, .int 0, .int 0, .int 0, .int 0, .int 0, .int 0, .ref (u 45), .ref (u 46), .ref (u 47), .ref (u 48), .ref (u 49), .ref (u 50), .ref (u 51)])] (qI G (fun (r : Int32) (w : Unit) => r = (-1)) (fun w => [])) := by
  refine Mt.of (own := RX11) (cc := cX11_agree) (by decide) rfl (Nat.le_of_ble_eq_true rfl) ?_
  intro p e s m below meth c A ls cx hr hlk hmn hA hl hw
  have hx := cx.1
  have hb := cx.2.1
  have hl : lv_has ls 1 [(0, .ref h0)] := hl
  refine lv_aload_n hx hb dX11_agree_0 rfl (lv_at hl 0 rfl) ?_
  refine r_callVI (As := []) (rest := []) (wr := []) cx hw hA (a_X11_runBoth_54 l G h0 (u 0) (u 1) (u 2) (u 3) (u 4) (u 5) (u 6) (u 7) (u 8) (u 9) (u 10) (u 11) (u 12) (u 13) (u 14) (u 15) (u 16) (u 30) (u 31) (u 45) (u 46) (u 47) (u 48) (u 49) (u 50) (u 51)) [0, 1, 2] [] rfl rfl rfl rfl rfl 0 rfl (ci := 10) rfl ml_X11_245 im_X11_runBoth se_X11_runBoth in_X11 co_X11_runBoth rfl hd_X11_runBoth rfl ⟨Nat.le_of_ble_eq_true rfl, Nat.le_of_ble_eq_true rfl⟩ hl.1 rfl (Nat.le_of_ble_eq_true rfl) dX11_agree_1 ⟨Nat.le_of_ble_eq_true rfl, Nat.le_of_ble_eq_true rfl⟩ (fun r2 u1 H locs hr2 hw => ?_)
  have hw : Wd G A [(h0, ob 10 [.ref (u 0), .int 0, .int (-1), .ref (u 1), .ref (u 2), .ref (u 3), .ref (u 4), .ref (u 5), .ref (u 6), .ref (u 7), .int 0, .ref (u 8), .ref (u 9), .ref (u 10), .ref (u 11), .ref (u 12), .ref (u 13), .ref (u 14), .ref (u 15), .ref (u 16)]), ((u 4), ob 1 [.ref (u 30), .ref (u 31), .int 0, .int 0]), ((u 9), ob 4 [.int 0, .int 0, .int 0, .int 0, .int 0, .int 0, .int 0, .ref (u 45), .ref (u 46), .ref (u 47), .ref (u 48), .ref (u 49), .ref (u 50), .ref (u 51)])] s.heap _ _ := hw
  subst hr2
  refine lv_if_ne (tgt := 9) hx hb dX11_agree_4 (by decide) (fun c9 => absurd (by decide) c9) (fun _ => ?_)
  refine lv_iconst (v := (-1)) hx hb dX11_agree_7 (by decide) ?_
  have hw : Wd G A [] s.heap _ _ := hw.sub [] rfl rfl
  exact r_iret cx hr hlk () rfl hw (Nat.le_of_ble_eq_true rfl) (Nat.le_of_ble_eq_true rfl) dX11_agree_8

set_option maxHeartbeats 4000000 in
set_option maxRecDepth 100000 in
theorem xa_saved (l : Launch) (G : Gt) (h0 : Nat) (u : Nat → Nat) : Mt l yX11_saved cX11_saved 1 (some .int) ({ frames := 3, cells := 0, slots := 0, locals := 63 } : Room) G [.ref h0] [(h0, ob 10 [.ref (u 0), .int 0, .int (-1), .ref (u 1), .ref (u 2), .ref (u 3), .ref (u 4), .ref (u 5), .ref (u 6), .ref (u 7), .int 0, .ref (u 8), .ref (u 9), .ref (u 10), .ref (u 11), .ref (u 12), .ref (u 13), .ref (u 14), .ref (u 15), .ref (u 16)]), ((u 4), ob 1 [.ref (u 30), .ref (u 31), .int 0, .int 0]), ((u 9), ob 4 [.int 0, .int 0, .int 0, .int 0, .int 0, .int 0, .int 0, .ref (u 45), .ref (u 46), .ref (u 47), .ref (u 48), .ref (u 49), .ref (u 50), .ref (u 51)])] (qI G (fun (r : Int32) (w : Unit) => r = (-1000)) (fun w => [])) := by
  refine Mt.of (own := RX11) (cc := cX11_saved) (by decide) rfl (Nat.le_of_ble_eq_true rfl) ?_
  intro p e s m below meth c A ls cx hr hlk hmn hA hl hw
  have hx := cx.1
  have hb := cx.2.1
  have hl : lv_has ls 1 [(0, .ref h0)] := hl
  refine lv_aload_n hx hb dX11_saved_0 rfl (lv_at hl 0 rfl) ?_
  refine r_callVI (As := []) (rest := []) (wr := []) cx hw hA (a_X11_runBoth_54 l G h0 (u 0) (u 1) (u 2) (u 3) (u 4) (u 5) (u 6) (u 7) (u 8) (u 9) (u 10) (u 11) (u 12) (u 13) (u 14) (u 15) (u 16) (u 30) (u 31) (u 45) (u 46) (u 47) (u 48) (u 49) (u 50) (u 51)) [0, 1, 2] [] rfl rfl rfl rfl rfl 0 rfl (ci := 10) rfl ml_X11_245 im_X11_runBoth se_X11_runBoth in_X11 co_X11_runBoth rfl hd_X11_runBoth rfl ⟨Nat.le_of_ble_eq_true rfl, Nat.le_of_ble_eq_true rfl⟩ hl.1 rfl (Nat.le_of_ble_eq_true rfl) dX11_saved_1 ⟨Nat.le_of_ble_eq_true rfl, Nat.le_of_ble_eq_true rfl⟩ (fun r2 u1 H locs hr2 hw => ?_)
  have hw : Wd G A [(h0, ob 10 [.ref (u 0), .int 0, .int (-1), .ref (u 1), .ref (u 2), .ref (u 3), .ref (u 4), .ref (u 5), .ref (u 6), .ref (u 7), .int 0, .ref (u 8), .ref (u 9), .ref (u 10), .ref (u 11), .ref (u 12), .ref (u 13), .ref (u 14), .ref (u 15), .ref (u 16)]), ((u 4), ob 1 [.ref (u 30), .ref (u 31), .int 0, .int 0]), ((u 9), ob 4 [.int 0, .int 0, .int 0, .int 0, .int 0, .int 0, .int 0, .ref (u 45), .ref (u 46), .ref (u 47), .ref (u 48), .ref (u 49), .ref (u 50), .ref (u 51)])] s.heap _ _ := hw
  subst hr2
  refine lv_if_eq (tgt := 27) hx hb dX11_saved_4 (by decide) (fun _ => ?_) (fun c9 => absurd (by decide) c9)
  refine lv_sipush (v := (-1000)) hx hb dX11_saved_27 (by decide) ?_
  have hw : Wd G A [] s.heap _ _ := hw.sub [] rfl rfl
  exact r_iret cx hr hlk () rfl hw (Nat.le_of_ble_eq_true rfl) (Nat.le_of_ble_eq_true rfl) dX11_saved_30
