theorem x_ap43_ex : ∃ f : Int32 → Int32 → Int32, ∀ (a : Int32) (d : Int32), f a d = (if (x_isNan (x_floatBits a)) = (0 : Int32) then (if (x_isNan (x_floatBits d)) = (0 : Int32) then ((x_add (x_floatBits a) (x_floatBits d))) else (2143289344)) else (2143289344)) := ⟨fun (a : Int32) (d : Int32) => (if (x_isNan (x_floatBits a)) = (0 : Int32) then (if (x_isNan (x_floatBits d)) = (0 : Int32) then ((x_add (x_floatBits a) (x_floatBits d))) else (2143289344)) else (2143289344)), fun _ _ => rfl⟩
noncomputable def x_ap43 : Int32 → Int32 → Int32 := Classical.choose x_ap43_ex
theorem x_ap43_eq (a : Int32) (d : Int32) : x_ap43 a d = (if (x_isNan (x_floatBits a)) = (0 : Int32) then (if (x_isNan (x_floatBits d)) = (0 : Int32) then ((x_add (x_floatBits a) (x_floatBits d))) else (2143289344)) else (2143289344)) := Classical.choose_spec x_ap43_ex a d
set_option maxHeartbeats 4000000 in
set_option maxRecDepth 100000 in
theorem f_ap43 (l : Launch) (G : Gt) (a : Int32) (d : Int32) : Mt l yX0_apply cX0_apply 8 (some .long) ({ frames := 4, cells := 0, slots := 0, locals := 102 } : Room) G [.int 43, .long (x_make 1 a), .long (x_make 1 d)] [] (qL G (fun (r : Int64) (w : Unit) => r = x_make 1 (x_ap43 a d)) (fun w => [])) := by
  refine Mt.of (own := RX0) (cc := cX0_apply) (by decide) rfl (Nat.le_of_ble_eq_true rfl) ?_
  intro p e s m below meth c A ls cx hr hlk hmn hA hl hw
  have hx := cx.1
  have hb := cx.2.1
  have hl : lv_has ls 8 [(0, .int 43), (1, .long (x_make 1 a)), (3, .long (x_make 1 d))] := hl
  refine lv_iload_n hx hb dX0_apply_0 rfl (lv_at hl 0 rfl) ?_
  refine lv_bipush (v := 37) hx hb dX0_apply_1 (by decide) ?_
  refine lv_icmp_ne (tgt := 22) hx hb dX0_apply_3 (by decide) (fun _ => ?_) (fun c9 => absurd c9 (by decide))
  refine lv_lload_n hx hb dX0_apply_22 rfl (lv_at hl 1 rfl) ?_
  refine r_callS0I (As := [.long (x_make 1 a)]) (rest := []) cx hw hA (f_kindF l G a) ml_X0_23 st_X0_kind in_X0 co_X0_kind hd_X0_kind rfl ⟨Nat.le_of_ble_eq_true rfl, Nat.le_of_ble_eq_true rfl⟩ hl.1 rfl (Nat.le_of_ble_eq_true rfl) dX0_apply_23 ⟨Nat.le_of_ble_eq_true rfl, Nat.le_of_ble_eq_true rfl⟩ (fun r2 H locs hr2 hw => ?_)
  subst hr2
  refine lv_if_ne (tgt := 53) hx hb dX0_apply_26 (by decide) (fun _ => ?_) (fun c9 => absurd c9 (by decide))
  refine lv_lload_n hx hb dX0_apply_53 rfl (lv_at hl 1 rfl) ?_
  refine r_callS0I (As := [.long (x_make 1 a)]) (rest := []) cx hw hA (f_floatBits l G a) ml_X0_33 st_X0_floatBits in_X0 co_X0_floatBits hd_X0_floatBits rfl ⟨Nat.le_of_ble_eq_true rfl, Nat.le_of_ble_eq_true rfl⟩ hl.1 rfl (Nat.le_of_ble_eq_true rfl) dX0_apply_54 ⟨Nat.le_of_ble_eq_true rfl, Nat.le_of_ble_eq_true rfl⟩ (fun r4 H locs hr4 hw => ?_)
  refine lv_istore (lv' := [(5, .int r4), (0, .int 43), (1, .long (x_make 1 a)), (3, .long (x_make 1 d))]) hx hb dX0_apply_57 hl (by decide) rfl (fun ls hl => ?_)
  refine lv_lload_n hx hb dX0_apply_59 rfl (lv_at hl 3 rfl) ?_
  refine r_callS0I (As := [.long (x_make 1 d)]) (rest := []) cx hw hA (f_floatBits l G d) ml_X0_33 st_X0_floatBits in_X0 co_X0_floatBits hd_X0_floatBits rfl ⟨Nat.le_of_ble_eq_true rfl, Nat.le_of_ble_eq_true rfl⟩ hl.1 rfl (Nat.le_of_ble_eq_true rfl) dX0_apply_60 ⟨Nat.le_of_ble_eq_true rfl, Nat.le_of_ble_eq_true rfl⟩ (fun r6 H locs hr6 hw => ?_)
  refine lv_istore (lv' := [(6, .int r6), (5, .int r4), (0, .int 43), (1, .long (x_make 1 a)), (3, .long (x_make 1 d))]) hx hb dX0_apply_63 hl (by decide) rfl (fun ls hl => ?_)
  refine lv_iload hx hb dX0_apply_65 (lv_at hl 1 rfl) ?_
  refine r_callS0I (As := [.int r4]) (rest := []) cx hw hA (f_isNan l G r4) ml_X0_36 st_X0_isNan in_X0 co_X0_isNan hd_X0_isNan rfl ⟨Nat.le_of_ble_eq_true rfl, Nat.le_of_ble_eq_true rfl⟩ hl.1 rfl (Nat.le_of_ble_eq_true rfl) dX0_apply_67 ⟨Nat.le_of_ble_eq_true rfl, Nat.le_of_ble_eq_true rfl⟩ (fun r8 H locs hr8 hw => ?_)
  refine lv_if_ne (tgt := 81) hx hb dX0_apply_70 (by decide) (fun c9 => ?_) (fun c9 => ?_)
  · refine lv_iconst (v := 1) hx hb dX0_apply_81 (by decide) ?_
    refine lv_goto (tgt := 86) hx hb dX0_apply_82 (by decide) ?_
    refine lv_istore (lv' := [(7, .int 1), (6, .int r6), (5, .int r4), (0, .int 43), (1, .long (x_make 1 a)), (3, .long (x_make 1 d))]) hx hb dX0_apply_86 hl (by decide) rfl (fun ls hl => ?_)
    refine lv_iload_n hx hb dX0_apply_88 rfl (lv_at hl 3 rfl) ?_
    refine lv_lookup (tgt := 180) hx hb dX0_apply_89 (by decide +kernel) rfl (by decide) ?_
    refine lv_iconst (v := 1) hx hb dX0_apply_180 (by decide) ?_
    refine lv_iload hx hb dX0_apply_181 (lv_at hl 0 rfl) ?_
    refine lv_if_eq (tgt := 191) hx hb dX0_apply_183 (by decide) (fun c9 => absurd c9 (by decide)) (fun _ => ?_)
    refine lv_ldc hx hb cx.2.2.2.1 (cx.2.2.2.2.1 _ cs_X0_47) dX0_apply_186 ?_
    refine lv_goto (tgt := 198) hx hb dX0_apply_188 (by decide) ?_
    refine r_callS0L (As := [.int 1, .int 2143289344]) (rest := []) cx hw hA (c_make l G 1 2143289344) ml_X0_19 st_X0_make in_X0 co_X0_make hd_X0_make rfl ⟨Nat.le_of_ble_eq_true rfl, Nat.le_of_ble_eq_true rfl⟩ hl.1 rfl (Nat.le_of_ble_eq_true rfl) dX0_apply_198 ⟨Nat.le_of_ble_eq_true rfl, Nat.le_of_ble_eq_true rfl⟩ (fun r11 H locs hr11 hw => ?_)
    have h9 := Eq.symm hr11
    subst h9
    have hw : Wd G A [] s.heap _ _ := hw.sub [] rfl rfl
    exact r_lret cx hr hlk () (congrArg (x_make 1) (by subst hr4 hr6 hr8; rw [x_ap43_eq, if_neg c9])) hw (Nat.le_of_ble_eq_true rfl) (Nat.le_of_ble_eq_true rfl) dX0_apply_201
  · refine lv_iload hx hb dX0_apply_73 (lv_at hl 0 rfl) ?_
    refine r_callS0I (As := [.int r6]) (rest := []) cx hw hA (f_isNan l G r6) ml_X0_36 st_X0_isNan in_X0 co_X0_isNan hd_X0_isNan rfl ⟨Nat.le_of_ble_eq_true rfl, Nat.le_of_ble_eq_true rfl⟩ hl.1 rfl (Nat.le_of_ble_eq_true rfl) dX0_apply_75 ⟨Nat.le_of_ble_eq_true rfl, Nat.le_of_ble_eq_true rfl⟩ (fun r13 H locs hr13 hw => ?_)
    refine lv_if_eq (tgt := 85) hx hb dX0_apply_78 (by decide) (fun c14 => ?_) (fun c14 => ?_)
    · refine lv_iconst (v := 0) hx hb dX0_apply_85 (by decide) ?_
      refine lv_istore (lv' := [(7, .int 0), (6, .int r6), (5, .int r4), (0, .int 43), (1, .long (x_make 1 a)), (3, .long (x_make 1 d))]) hx hb dX0_apply_86 hl (by decide) rfl (fun ls hl => ?_)
      refine lv_iload_n hx hb dX0_apply_88 rfl (lv_at hl 3 rfl) ?_
      refine lv_lookup (tgt := 180) hx hb dX0_apply_89 (by decide +kernel) rfl (by decide) ?_
      refine lv_iconst (v := 1) hx hb dX0_apply_180 (by decide) ?_
      refine lv_iload hx hb dX0_apply_181 (lv_at hl 0 rfl) ?_
      refine lv_if_eq (tgt := 191) hx hb dX0_apply_183 (by decide) (fun _ => ?_) (fun c9 => absurd (by decide) c9)
      refine lv_iload hx hb dX0_apply_191 (lv_at hl 2 rfl) ?_
      refine lv_iload hx hb dX0_apply_193 (lv_at hl 1 rfl) ?_
      refine r_callS0I (As := [.int r4, .int r6]) (rest := [.int 1]) cx hw hA (f_add l G r4 r6) ml_X0_48 st_X0_add in_X0 co_X0_add hd_X0_add rfl ⟨Nat.le_of_ble_eq_true rfl, Nat.le_of_ble_eq_true rfl⟩ hl.1 rfl (Nat.le_of_ble_eq_true rfl) dX0_apply_195 ⟨Nat.le_of_ble_eq_true rfl, Nat.le_of_ble_eq_true rfl⟩ (fun r16 H locs hr16 hw => ?_)
      refine r_callS0L (As := [.int 1, .int r16]) (rest := []) cx hw hA (c_make l G 1 r16) ml_X0_19 st_X0_make in_X0 co_X0_make hd_X0_make rfl ⟨Nat.le_of_ble_eq_true rfl, Nat.le_of_ble_eq_true rfl⟩ hl.1 rfl (Nat.le_of_ble_eq_true rfl) dX0_apply_198 ⟨Nat.le_of_ble_eq_true rfl, Nat.le_of_ble_eq_true rfl⟩ (fun r18 H locs hr18 hw => ?_)
      have h9 := Eq.symm hr18
      subst h9
      have hw : Wd G A [] s.heap _ _ := hw.sub [] rfl rfl
      exact r_lret cx hr hlk () (congrArg (x_make 1) (by subst hr4 hr6 hr8 hr13 hr16; rw [x_ap43_eq, if_pos c9, if_pos c14])) hw (Nat.le_of_ble_eq_true rfl) (Nat.le_of_ble_eq_true rfl) dX0_apply_201
    · refine lv_iconst (v := 1) hx hb dX0_apply_81 (by decide) ?_
      refine lv_goto (tgt := 86) hx hb dX0_apply_82 (by decide) ?_
      refine lv_istore (lv' := [(7, .int 1), (6, .int r6), (5, .int r4), (0, .int 43), (1, .long (x_make 1 a)), (3, .long (x_make 1 d))]) hx hb dX0_apply_86 hl (by decide) rfl (fun ls hl => ?_)
      refine lv_iload_n hx hb dX0_apply_88 rfl (lv_at hl 3 rfl) ?_
      refine lv_lookup (tgt := 180) hx hb dX0_apply_89 (by decide +kernel) rfl (by decide) ?_
      refine lv_iconst (v := 1) hx hb dX0_apply_180 (by decide) ?_
      refine lv_iload hx hb dX0_apply_181 (lv_at hl 0 rfl) ?_
      refine lv_if_eq (tgt := 191) hx hb dX0_apply_183 (by decide) (fun c9 => absurd c9 (by decide)) (fun _ => ?_)
      refine lv_ldc hx hb cx.2.2.2.1 (cx.2.2.2.2.1 _ cs_X0_47) dX0_apply_186 ?_
      refine lv_goto (tgt := 198) hx hb dX0_apply_188 (by decide) ?_
      refine r_callS0L (As := [.int 1, .int 2143289344]) (rest := []) cx hw hA (c_make l G 1 2143289344) ml_X0_19 st_X0_make in_X0 co_X0_make hd_X0_make rfl ⟨Nat.le_of_ble_eq_true rfl, Nat.le_of_ble_eq_true rfl⟩ hl.1 rfl (Nat.le_of_ble_eq_true rfl) dX0_apply_198 ⟨Nat.le_of_ble_eq_true rfl, Nat.le_of_ble_eq_true rfl⟩ (fun r20 H locs hr20 hw => ?_)
      have h9 := Eq.symm hr20
      subst h9
      have hw : Wd G A [] s.heap _ _ := hw.sub [] rfl rfl
      exact r_lret cx hr hlk () (congrArg (x_make 1) (by subst hr4 hr6 hr8 hr13; rw [x_ap43_eq, if_pos c9, if_neg c14])) hw (Nat.le_of_ble_eq_true rfl) (Nat.le_of_ble_eq_true rfl) dX0_apply_201

theorem x_ap45_ex : ∃ f : Int32 → Int32 → Int32, ∀ (a : Int32) (d : Int32), f a d = (if (x_isNan (x_floatBits a)) = (0 : Int32) then (if (x_isNan (x_floatBits d)) = (0 : Int32) then ((x_add (x_floatBits a) ((x_floatBits d) ^^^ (-2147483648 : Int32)))) else (2143289344)) else (2143289344)) := ⟨fun (a : Int32) (d : Int32) => (if (x_isNan (x_floatBits a)) = (0 : Int32) then (if (x_isNan (x_floatBits d)) = (0 : Int32) then ((x_add (x_floatBits a) ((x_floatBits d) ^^^ (-2147483648 : Int32)))) else (2143289344)) else (2143289344)), fun _ _ => rfl⟩
noncomputable def x_ap45 : Int32 → Int32 → Int32 := Classical.choose x_ap45_ex
theorem x_ap45_eq (a : Int32) (d : Int32) : x_ap45 a d = (if (x_isNan (x_floatBits a)) = (0 : Int32) then (if (x_isNan (x_floatBits d)) = (0 : Int32) then ((x_add (x_floatBits a) ((x_floatBits d) ^^^ (-2147483648 : Int32)))) else (2143289344)) else (2143289344)) := Classical.choose_spec x_ap45_ex a d
set_option maxHeartbeats 4000000 in
set_option maxRecDepth 100000 in
theorem f_ap45 (l : Launch) (G : Gt) (a : Int32) (d : Int32) : Mt l yX0_apply cX0_apply 8 (some .long) ({ frames := 4, cells := 0, slots := 0, locals := 102 } : Room) G [.int 45, .long (x_make 1 a), .long (x_make 1 d)] [] (qL G (fun (r : Int64) (w : Unit) => r = x_make 1 (x_ap45 a d)) (fun w => [])) := by
  refine Mt.of (own := RX0) (cc := cX0_apply) (by decide) rfl (Nat.le_of_ble_eq_true rfl) ?_
  intro p e s m below meth c A ls cx hr hlk hmn hA hl hw
  have hx := cx.1
  have hb := cx.2.1
  have hl : lv_has ls 8 [(0, .int 45), (1, .long (x_make 1 a)), (3, .long (x_make 1 d))] := hl
  refine lv_iload_n hx hb dX0_apply_0 rfl (lv_at hl 0 rfl) ?_
  refine lv_bipush (v := 37) hx hb dX0_apply_1 (by decide) ?_
  refine lv_icmp_ne (tgt := 22) hx hb dX0_apply_3 (by decide) (fun _ => ?_) (fun c9 => absurd c9 (by decide))
  refine lv_lload_n hx hb dX0_apply_22 rfl (lv_at hl 1 rfl) ?_
  refine r_callS0I (As := [.long (x_make 1 a)]) (rest := []) cx hw hA (f_kindF l G a) ml_X0_23 st_X0_kind in_X0 co_X0_kind hd_X0_kind rfl ⟨Nat.le_of_ble_eq_true rfl, Nat.le_of_ble_eq_true rfl⟩ hl.1 rfl (Nat.le_of_ble_eq_true rfl) dX0_apply_23 ⟨Nat.le_of_ble_eq_true rfl, Nat.le_of_ble_eq_true rfl⟩ (fun r2 H locs hr2 hw => ?_)
  subst hr2
  refine lv_if_ne (tgt := 53) hx hb dX0_apply_26 (by decide) (fun _ => ?_) (fun c9 => absurd c9 (by decide))
  refine lv_lload_n hx hb dX0_apply_53 rfl (lv_at hl 1 rfl) ?_
  refine r_callS0I (As := [.long (x_make 1 a)]) (rest := []) cx hw hA (f_floatBits l G a) ml_X0_33 st_X0_floatBits in_X0 co_X0_floatBits hd_X0_floatBits rfl ⟨Nat.le_of_ble_eq_true rfl, Nat.le_of_ble_eq_true rfl⟩ hl.1 rfl (Nat.le_of_ble_eq_true rfl) dX0_apply_54 ⟨Nat.le_of_ble_eq_true rfl, Nat.le_of_ble_eq_true rfl⟩ (fun r4 H locs hr4 hw => ?_)
  refine lv_istore (lv' := [(5, .int r4), (0, .int 45), (1, .long (x_make 1 a)), (3, .long (x_make 1 d))]) hx hb dX0_apply_57 hl (by decide) rfl (fun ls hl => ?_)
  refine lv_lload_n hx hb dX0_apply_59 rfl (lv_at hl 3 rfl) ?_
  refine r_callS0I (As := [.long (x_make 1 d)]) (rest := []) cx hw hA (f_floatBits l G d) ml_X0_33 st_X0_floatBits in_X0 co_X0_floatBits hd_X0_floatBits rfl ⟨Nat.le_of_ble_eq_true rfl, Nat.le_of_ble_eq_true rfl⟩ hl.1 rfl (Nat.le_of_ble_eq_true rfl) dX0_apply_60 ⟨Nat.le_of_ble_eq_true rfl, Nat.le_of_ble_eq_true rfl⟩ (fun r6 H locs hr6 hw => ?_)
  refine lv_istore (lv' := [(6, .int r6), (5, .int r4), (0, .int 45), (1, .long (x_make 1 a)), (3, .long (x_make 1 d))]) hx hb dX0_apply_63 hl (by decide) rfl (fun ls hl => ?_)
  refine lv_iload hx hb dX0_apply_65 (lv_at hl 1 rfl) ?_
  refine r_callS0I (As := [.int r4]) (rest := []) cx hw hA (f_isNan l G r4) ml_X0_36 st_X0_isNan in_X0 co_X0_isNan hd_X0_isNan rfl ⟨Nat.le_of_ble_eq_true rfl, Nat.le_of_ble_eq_true rfl⟩ hl.1 rfl (Nat.le_of_ble_eq_true rfl) dX0_apply_67 ⟨Nat.le_of_ble_eq_true rfl, Nat.le_of_ble_eq_true rfl⟩ (fun r8 H locs hr8 hw => ?_)
  refine lv_if_ne (tgt := 81) hx hb dX0_apply_70 (by decide) (fun c9 => ?_) (fun c9 => ?_)
  · refine lv_iconst (v := 1) hx hb dX0_apply_81 (by decide) ?_
    refine lv_goto (tgt := 86) hx hb dX0_apply_82 (by decide) ?_
    refine lv_istore (lv' := [(7, .int 1), (6, .int r6), (5, .int r4), (0, .int 45), (1, .long (x_make 1 a)), (3, .long (x_make 1 d))]) hx hb dX0_apply_86 hl (by decide) rfl (fun ls hl => ?_)
    refine lv_iload_n hx hb dX0_apply_88 rfl (lv_at hl 3 rfl) ?_
    refine lv_lookup (tgt := 202) hx hb dX0_apply_89 (by decide +kernel) rfl (by decide) ?_
    refine lv_iconst (v := 1) hx hb dX0_apply_202 (by decide) ?_
    refine lv_iload hx hb dX0_apply_203 (lv_at hl 0 rfl) ?_
    refine lv_if_eq (tgt := 213) hx hb dX0_apply_205 (by decide) (fun c9 => absurd c9 (by decide)) (fun _ => ?_)
    refine lv_ldc hx hb cx.2.2.2.1 (cx.2.2.2.2.1 _ cs_X0_47) dX0_apply_208 ?_
    refine lv_goto (tgt := 223) hx hb dX0_apply_210 (by decide) ?_
    refine r_callS0L (As := [.int 1, .int 2143289344]) (rest := []) cx hw hA (c_make l G 1 2143289344) ml_X0_19 st_X0_make in_X0 co_X0_make hd_X0_make rfl ⟨Nat.le_of_ble_eq_true rfl, Nat.le_of_ble_eq_true rfl⟩ hl.1 rfl (Nat.le_of_ble_eq_true rfl) dX0_apply_223 ⟨Nat.le_of_ble_eq_true rfl, Nat.le_of_ble_eq_true rfl⟩ (fun r11 H locs hr11 hw => ?_)
    have h9 := Eq.symm hr11
    subst h9
    have hw : Wd G A [] s.heap _ _ := hw.sub [] rfl rfl
    exact r_lret cx hr hlk () (congrArg (x_make 1) (by subst hr4 hr6 hr8; rw [x_ap45_eq, if_neg c9])) hw (Nat.le_of_ble_eq_true rfl) (Nat.le_of_ble_eq_true rfl) dX0_apply_226
  · refine lv_iload hx hb dX0_apply_73 (lv_at hl 0 rfl) ?_
    refine r_callS0I (As := [.int r6]) (rest := []) cx hw hA (f_isNan l G r6) ml_X0_36 st_X0_isNan in_X0 co_X0_isNan hd_X0_isNan rfl ⟨Nat.le_of_ble_eq_true rfl, Nat.le_of_ble_eq_true rfl⟩ hl.1 rfl (Nat.le_of_ble_eq_true rfl) dX0_apply_75 ⟨Nat.le_of_ble_eq_true rfl, Nat.le_of_ble_eq_true rfl⟩ (fun r13 H locs hr13 hw => ?_)
    refine lv_if_eq (tgt := 85) hx hb dX0_apply_78 (by decide) (fun c14 => ?_) (fun c14 => ?_)
    · refine lv_iconst (v := 0) hx hb dX0_apply_85 (by decide) ?_
      refine lv_istore (lv' := [(7, .int 0), (6, .int r6), (5, .int r4), (0, .int 45), (1, .long (x_make 1 a)), (3, .long (x_make 1 d))]) hx hb dX0_apply_86 hl (by decide) rfl (fun ls hl => ?_)
      refine lv_iload_n hx hb dX0_apply_88 rfl (lv_at hl 3 rfl) ?_
      refine lv_lookup (tgt := 202) hx hb dX0_apply_89 (by decide +kernel) rfl (by decide) ?_
      refine lv_iconst (v := 1) hx hb dX0_apply_202 (by decide) ?_
      refine lv_iload hx hb dX0_apply_203 (lv_at hl 0 rfl) ?_
      refine lv_if_eq (tgt := 213) hx hb dX0_apply_205 (by decide) (fun _ => ?_) (fun c9 => absurd (by decide) c9)
      refine lv_iload hx hb dX0_apply_213 (lv_at hl 2 rfl) ?_
      refine lv_iload hx hb dX0_apply_215 (lv_at hl 1 rfl) ?_
      refine lv_ldc hx hb cx.2.2.2.1 (cx.2.2.2.2.1 _ cs_X0_51) dX0_apply_217 ?_
      refine lv_ixor hx hb dX0_apply_219 ?_
      refine lv_topi (fun v15 ev15 => ?_)
      refine r_callS0I (As := [.int r4, .int v15]) (rest := [.int 1]) cx hw hA (f_add l G r4 v15) ml_X0_48 st_X0_add in_X0 co_X0_add hd_X0_add rfl ⟨Nat.le_of_ble_eq_true rfl, Nat.le_of_ble_eq_true rfl⟩ hl.1 rfl (Nat.le_of_ble_eq_true rfl) dX0_apply_220 ⟨Nat.le_of_ble_eq_true rfl, Nat.le_of_ble_eq_true rfl⟩ (fun r17 H locs hr17 hw => ?_)
      refine r_callS0L (As := [.int 1, .int r17]) (rest := []) cx hw hA (c_make l G 1 r17) ml_X0_19 st_X0_make in_X0 co_X0_make hd_X0_make rfl ⟨Nat.le_of_ble_eq_true rfl, Nat.le_of_ble_eq_true rfl⟩ hl.1 rfl (Nat.le_of_ble_eq_true rfl) dX0_apply_223 ⟨Nat.le_of_ble_eq_true rfl, Nat.le_of_ble_eq_true rfl⟩ (fun r19 H locs hr19 hw => ?_)
      have h9 := Eq.symm hr19
      subst h9
      have hw : Wd G A [] s.heap _ _ := hw.sub [] rfl rfl
      exact r_lret cx hr hlk () (congrArg (x_make 1) (by subst hr4 hr6 hr8 hr13 ev15 hr17; rw [x_ap45_eq, if_pos c9, if_pos c14])) hw (Nat.le_of_ble_eq_true rfl) (Nat.le_of_ble_eq_true rfl) dX0_apply_226
    · refine lv_iconst (v := 1) hx hb dX0_apply_81 (by decide) ?_
      refine lv_goto (tgt := 86) hx hb dX0_apply_82 (by decide) ?_
      refine lv_istore (lv' := [(7, .int 1), (6, .int r6), (5, .int r4), (0, .int 45), (1, .long (x_make 1 a)), (3, .long (x_make 1 d))]) hx hb dX0_apply_86 hl (by decide) rfl (fun ls hl => ?_)
      refine lv_iload_n hx hb dX0_apply_88 rfl (lv_at hl 3 rfl) ?_
      refine lv_lookup (tgt := 202) hx hb dX0_apply_89 (by decide +kernel) rfl (by decide) ?_
      refine lv_iconst (v := 1) hx hb dX0_apply_202 (by decide) ?_
      refine lv_iload hx hb dX0_apply_203 (lv_at hl 0 rfl) ?_
      refine lv_if_eq (tgt := 213) hx hb dX0_apply_205 (by decide) (fun c9 => absurd c9 (by decide)) (fun _ => ?_)
      refine lv_ldc hx hb cx.2.2.2.1 (cx.2.2.2.2.1 _ cs_X0_47) dX0_apply_208 ?_
      refine lv_goto (tgt := 223) hx hb dX0_apply_210 (by decide) ?_
      refine r_callS0L (As := [.int 1, .int 2143289344]) (rest := []) cx hw hA (c_make l G 1 2143289344) ml_X0_19 st_X0_make in_X0 co_X0_make hd_X0_make rfl ⟨Nat.le_of_ble_eq_true rfl, Nat.le_of_ble_eq_true rfl⟩ hl.1 rfl (Nat.le_of_ble_eq_true rfl) dX0_apply_223 ⟨Nat.le_of_ble_eq_true rfl, Nat.le_of_ble_eq_true rfl⟩ (fun r21 H locs hr21 hw => ?_)
      have h9 := Eq.symm hr21
      subst h9
      have hw : Wd G A [] s.heap _ _ := hw.sub [] rfl rfl
      exact r_lret cx hr hlk () (congrArg (x_make 1) (by subst hr4 hr6 hr8 hr13; rw [x_ap45_eq, if_pos c9, if_neg c14])) hw (Nat.le_of_ble_eq_true rfl) (Nat.le_of_ble_eq_true rfl) dX0_apply_226

theorem x_ap42_ex : ∃ f : Int32 → Int32 → Int32, ∀ (a : Int32) (d : Int32), f a d = (if (x_isNan (x_floatBits a)) = (0 : Int32) then (if (x_isNan (x_floatBits d)) = (0 : Int32) then ((x_mul (x_floatBits a) (x_floatBits d))) else (2143289344)) else (2143289344)) := ⟨fun (a : Int32) (d : Int32) => (if (x_isNan (x_floatBits a)) = (0 : Int32) then (if (x_isNan (x_floatBits d)) = (0 : Int32) then ((x_mul (x_floatBits a) (x_floatBits d))) else (2143289344)) else (2143289344)), fun _ _ => rfl⟩
noncomputable def x_ap42 : Int32 → Int32 → Int32 := Classical.choose x_ap42_ex
theorem x_ap42_eq (a : Int32) (d : Int32) : x_ap42 a d = (if (x_isNan (x_floatBits a)) = (0 : Int32) then (if (x_isNan (x_floatBits d)) = (0 : Int32) then ((x_mul (x_floatBits a) (x_floatBits d))) else (2143289344)) else (2143289344)) := Classical.choose_spec x_ap42_ex a d
set_option maxHeartbeats 4000000 in
set_option maxRecDepth 100000 in
theorem f_ap42 (l : Launch) (G : Gt) (a : Int32) (d : Int32) : Mt l yX0_apply cX0_apply 8 (some .long) ({ frames := 4, cells := 0, slots := 0, locals := 99 } : Room) G [.int 42, .long (x_make 1 a), .long (x_make 1 d)] [] (qL G (fun (r : Int64) (w : Unit) => r = x_make 1 (x_ap42 a d)) (fun w => [])) := by
  refine Mt.of (own := RX0) (cc := cX0_apply) (by decide) rfl (Nat.le_of_ble_eq_true rfl) ?_
  intro p e s m below meth c A ls cx hr hlk hmn hA hl hw
  have hx := cx.1
  have hb := cx.2.1
  have hl : lv_has ls 8 [(0, .int 42), (1, .long (x_make 1 a)), (3, .long (x_make 1 d))] := hl
  refine lv_iload_n hx hb dX0_apply_0 rfl (lv_at hl 0 rfl) ?_
  refine lv_bipush (v := 37) hx hb dX0_apply_1 (by decide) ?_
  refine lv_icmp_ne (tgt := 22) hx hb dX0_apply_3 (by decide) (fun _ => ?_) (fun c9 => absurd c9 (by decide))
  refine lv_lload_n hx hb dX0_apply_22 rfl (lv_at hl 1 rfl) ?_
  refine r_callS0I (As := [.long (x_make 1 a)]) (rest := []) cx hw hA (f_kindF l G a) ml_X0_23 st_X0_kind in_X0 co_X0_kind hd_X0_kind rfl ⟨Nat.le_of_ble_eq_true rfl, Nat.le_of_ble_eq_true rfl⟩ hl.1 rfl (Nat.le_of_ble_eq_true rfl) dX0_apply_23 ⟨Nat.le_of_ble_eq_true rfl, Nat.le_of_ble_eq_true rfl⟩ (fun r2 H locs hr2 hw => ?_)
  subst hr2
  refine lv_if_ne (tgt := 53) hx hb dX0_apply_26 (by decide) (fun _ => ?_) (fun c9 => absurd c9 (by decide))
  refine lv_lload_n hx hb dX0_apply_53 rfl (lv_at hl 1 rfl) ?_
  refine r_callS0I (As := [.long (x_make 1 a)]) (rest := []) cx hw hA (f_floatBits l G a) ml_X0_33 st_X0_floatBits in_X0 co_X0_floatBits hd_X0_floatBits rfl ⟨Nat.le_of_ble_eq_true rfl, Nat.le_of_ble_eq_true rfl⟩ hl.1 rfl (Nat.le_of_ble_eq_true rfl) dX0_apply_54 ⟨Nat.le_of_ble_eq_true rfl, Nat.le_of_ble_eq_true rfl⟩ (fun r4 H locs hr4 hw => ?_)
  refine lv_istore (lv' := [(5, .int r4), (0, .int 42), (1, .long (x_make 1 a)), (3, .long (x_make 1 d))]) hx hb dX0_apply_57 hl (by decide) rfl (fun ls hl => ?_)
  refine lv_lload_n hx hb dX0_apply_59 rfl (lv_at hl 3 rfl) ?_
  refine r_callS0I (As := [.long (x_make 1 d)]) (rest := []) cx hw hA (f_floatBits l G d) ml_X0_33 st_X0_floatBits in_X0 co_X0_floatBits hd_X0_floatBits rfl ⟨Nat.le_of_ble_eq_true rfl, Nat.le_of_ble_eq_true rfl⟩ hl.1 rfl (Nat.le_of_ble_eq_true rfl) dX0_apply_60 ⟨Nat.le_of_ble_eq_true rfl, Nat.le_of_ble_eq_true rfl⟩ (fun r6 H locs hr6 hw => ?_)
  refine lv_istore (lv' := [(6, .int r6), (5, .int r4), (0, .int 42), (1, .long (x_make 1 a)), (3, .long (x_make 1 d))]) hx hb dX0_apply_63 hl (by decide) rfl (fun ls hl => ?_)
  refine lv_iload hx hb dX0_apply_65 (lv_at hl 1 rfl) ?_
  refine r_callS0I (As := [.int r4]) (rest := []) cx hw hA (f_isNan l G r4) ml_X0_36 st_X0_isNan in_X0 co_X0_isNan hd_X0_isNan rfl ⟨Nat.le_of_ble_eq_true rfl, Nat.le_of_ble_eq_true rfl⟩ hl.1 rfl (Nat.le_of_ble_eq_true rfl) dX0_apply_67 ⟨Nat.le_of_ble_eq_true rfl, Nat.le_of_ble_eq_true rfl⟩ (fun r8 H locs hr8 hw => ?_)
  refine lv_if_ne (tgt := 81) hx hb dX0_apply_70 (by decide) (fun c9 => ?_) (fun c9 => ?_)
  · refine lv_iconst (v := 1) hx hb dX0_apply_81 (by decide) ?_
    refine lv_goto (tgt := 86) hx hb dX0_apply_82 (by decide) ?_
    refine lv_istore (lv' := [(7, .int 1), (6, .int r6), (5, .int r4), (0, .int 42), (1, .long (x_make 1 a)), (3, .long (x_make 1 d))]) hx hb dX0_apply_86 hl (by decide) rfl (fun ls hl => ?_)
    refine lv_iload_n hx hb dX0_apply_88 rfl (lv_at hl 3 rfl) ?_
    refine lv_lookup (tgt := 227) hx hb dX0_apply_89 (by decide +kernel) rfl (by decide) ?_
    refine lv_iconst (v := 1) hx hb dX0_apply_227 (by decide) ?_
    refine lv_iload hx hb dX0_apply_228 (lv_at hl 0 rfl) ?_
    refine lv_if_eq (tgt := 238) hx hb dX0_apply_230 (by decide) (fun c9 => absurd c9 (by decide)) (fun _ => ?_)
    refine lv_ldc hx hb cx.2.2.2.1 (cx.2.2.2.2.1 _ cs_X0_47) dX0_apply_233 ?_
    refine lv_goto (tgt := 245) hx hb dX0_apply_235 (by decide) ?_
    refine r_callS0L (As := [.int 1, .int 2143289344]) (rest := []) cx hw hA (c_make l G 1 2143289344) ml_X0_19 st_X0_make in_X0 co_X0_make hd_X0_make rfl ⟨Nat.le_of_ble_eq_true rfl, Nat.le_of_ble_eq_true rfl⟩ hl.1 rfl (Nat.le_of_ble_eq_true rfl) dX0_apply_245 ⟨Nat.le_of_ble_eq_true rfl, Nat.le_of_ble_eq_true rfl⟩ (fun r11 H locs hr11 hw => ?_)
    have h9 := Eq.symm hr11
    subst h9
    have hw : Wd G A [] s.heap _ _ := hw.sub [] rfl rfl
    exact r_lret cx hr hlk () (congrArg (x_make 1) (by subst hr4 hr6 hr8; rw [x_ap42_eq, if_neg c9])) hw (Nat.le_of_ble_eq_true rfl) (Nat.le_of_ble_eq_true rfl) dX0_apply_248
  · refine lv_iload hx hb dX0_apply_73 (lv_at hl 0 rfl) ?_
    refine r_callS0I (As := [.int r6]) (rest := []) cx hw hA (f_isNan l G r6) ml_X0_36 st_X0_isNan in_X0 co_X0_isNan hd_X0_isNan rfl ⟨Nat.le_of_ble_eq_true rfl, Nat.le_of_ble_eq_true rfl⟩ hl.1 rfl (Nat.le_of_ble_eq_true rfl) dX0_apply_75 ⟨Nat.le_of_ble_eq_true rfl, Nat.le_of_ble_eq_true rfl⟩ (fun r13 H locs hr13 hw => ?_)
    refine lv_if_eq (tgt := 85) hx hb dX0_apply_78 (by decide) (fun c14 => ?_) (fun c14 => ?_)
    · refine lv_iconst (v := 0) hx hb dX0_apply_85 (by decide) ?_
      refine lv_istore (lv' := [(7, .int 0), (6, .int r6), (5, .int r4), (0, .int 42), (1, .long (x_make 1 a)), (3, .long (x_make 1 d))]) hx hb dX0_apply_86 hl (by decide) rfl (fun ls hl => ?_)
      refine lv_iload_n hx hb dX0_apply_88 rfl (lv_at hl 3 rfl) ?_
      refine lv_lookup (tgt := 227) hx hb dX0_apply_89 (by decide +kernel) rfl (by decide) ?_
      refine lv_iconst (v := 1) hx hb dX0_apply_227 (by decide) ?_
      refine lv_iload hx hb dX0_apply_228 (lv_at hl 0 rfl) ?_
      refine lv_if_eq (tgt := 238) hx hb dX0_apply_230 (by decide) (fun _ => ?_) (fun c9 => absurd (by decide) c9)
      refine lv_iload hx hb dX0_apply_238 (lv_at hl 2 rfl) ?_
      refine lv_iload hx hb dX0_apply_240 (lv_at hl 1 rfl) ?_
      refine r_callS0I (As := [.int r4, .int r6]) (rest := [.int 1]) cx hw hA (f_mul l G r4 r6) ml_X0_52 st_X0_multiply in_X0 co_X0_multiply hd_X0_multiply rfl ⟨Nat.le_of_ble_eq_true rfl, Nat.le_of_ble_eq_true rfl⟩ hl.1 rfl (Nat.le_of_ble_eq_true rfl) dX0_apply_242 ⟨Nat.le_of_ble_eq_true rfl, Nat.le_of_ble_eq_true rfl⟩ (fun r16 H locs hr16 hw => ?_)
      refine r_callS0L (As := [.int 1, .int r16]) (rest := []) cx hw hA (c_make l G 1 r16) ml_X0_19 st_X0_make in_X0 co_X0_make hd_X0_make rfl ⟨Nat.le_of_ble_eq_true rfl, Nat.le_of_ble_eq_true rfl⟩ hl.1 rfl (Nat.le_of_ble_eq_true rfl) dX0_apply_245 ⟨Nat.le_of_ble_eq_true rfl, Nat.le_of_ble_eq_true rfl⟩ (fun r18 H locs hr18 hw => ?_)
      have h9 := Eq.symm hr18
      subst h9
      have hw : Wd G A [] s.heap _ _ := hw.sub [] rfl rfl
      exact r_lret cx hr hlk () (congrArg (x_make 1) (by subst hr4 hr6 hr8 hr13 hr16; rw [x_ap42_eq, if_pos c9, if_pos c14])) hw (Nat.le_of_ble_eq_true rfl) (Nat.le_of_ble_eq_true rfl) dX0_apply_248
    · refine lv_iconst (v := 1) hx hb dX0_apply_81 (by decide) ?_
      refine lv_goto (tgt := 86) hx hb dX0_apply_82 (by decide) ?_
      refine lv_istore (lv' := [(7, .int 1), (6, .int r6), (5, .int r4), (0, .int 42), (1, .long (x_make 1 a)), (3, .long (x_make 1 d))]) hx hb dX0_apply_86 hl (by decide) rfl (fun ls hl => ?_)
      refine lv_iload_n hx hb dX0_apply_88 rfl (lv_at hl 3 rfl) ?_
      refine lv_lookup (tgt := 227) hx hb dX0_apply_89 (by decide +kernel) rfl (by decide) ?_
      refine lv_iconst (v := 1) hx hb dX0_apply_227 (by decide) ?_
      refine lv_iload hx hb dX0_apply_228 (lv_at hl 0 rfl) ?_
      refine lv_if_eq (tgt := 238) hx hb dX0_apply_230 (by decide) (fun c9 => absurd c9 (by decide)) (fun _ => ?_)
      refine lv_ldc hx hb cx.2.2.2.1 (cx.2.2.2.2.1 _ cs_X0_47) dX0_apply_233 ?_
      refine lv_goto (tgt := 245) hx hb dX0_apply_235 (by decide) ?_
      refine r_callS0L (As := [.int 1, .int 2143289344]) (rest := []) cx hw hA (c_make l G 1 2143289344) ml_X0_19 st_X0_make in_X0 co_X0_make hd_X0_make rfl ⟨Nat.le_of_ble_eq_true rfl, Nat.le_of_ble_eq_true rfl⟩ hl.1 rfl (Nat.le_of_ble_eq_true rfl) dX0_apply_245 ⟨Nat.le_of_ble_eq_true rfl, Nat.le_of_ble_eq_true rfl⟩ (fun r20 H locs hr20 hw => ?_)
      have h9 := Eq.symm hr20
      subst h9
      have hw : Wd G A [] s.heap _ _ := hw.sub [] rfl rfl
      exact r_lret cx hr hlk () (congrArg (x_make 1) (by subst hr4 hr6 hr8 hr13; rw [x_ap42_eq, if_pos c9, if_neg c14])) hw (Nat.le_of_ble_eq_true rfl) (Nat.le_of_ble_eq_true rfl) dX0_apply_248

theorem x_ap47_ex : ∃ f : Int32 → Int32 → Int32, ∀ (a : Int32) (d : Int32), f a d = (if (x_isNan (x_floatBits a)) = (0 : Int32) then (if (x_isNan (x_floatBits d)) = (0 : Int32) then ((x_div (x_floatBits a) (x_floatBits d))) else (2143289344)) else (2143289344)) := ⟨fun (a : Int32) (d : Int32) => (if (x_isNan (x_floatBits a)) = (0 : Int32) then (if (x_isNan (x_floatBits d)) = (0 : Int32) then ((x_div (x_floatBits a) (x_floatBits d))) else (2143289344)) else (2143289344)), fun _ _ => rfl⟩
noncomputable def x_ap47 : Int32 → Int32 → Int32 := Classical.choose x_ap47_ex
theorem x_ap47_eq (a : Int32) (d : Int32) : x_ap47 a d = (if (x_isNan (x_floatBits a)) = (0 : Int32) then (if (x_isNan (x_floatBits d)) = (0 : Int32) then ((x_div (x_floatBits a) (x_floatBits d))) else (2143289344)) else (2143289344)) := Classical.choose_spec x_ap47_ex a d
set_option maxHeartbeats 4000000 in
set_option maxRecDepth 100000 in
theorem f_ap47 (l : Launch) (G : Gt) (a : Int32) (d : Int32) : Mt l yX0_apply cX0_apply 8 (some .long) ({ frames := 4, cells := 0, slots := 0, locals := 108 } : Room) G [.int 47, .long (x_make 1 a), .long (x_make 1 d)] [] (qL G (fun (r : Int64) (w : Unit) => r = x_make 1 (x_ap47 a d)) (fun w => [])) := by
  refine Mt.of (own := RX0) (cc := cX0_apply) (by decide) rfl (Nat.le_of_ble_eq_true rfl) ?_
  intro p e s m below meth c A ls cx hr hlk hmn hA hl hw
  have hx := cx.1
  have hb := cx.2.1
  have hl : lv_has ls 8 [(0, .int 47), (1, .long (x_make 1 a)), (3, .long (x_make 1 d))] := hl
  refine lv_iload_n hx hb dX0_apply_0 rfl (lv_at hl 0 rfl) ?_
  refine lv_bipush (v := 37) hx hb dX0_apply_1 (by decide) ?_
  refine lv_icmp_ne (tgt := 22) hx hb dX0_apply_3 (by decide) (fun _ => ?_) (fun c9 => absurd c9 (by decide))
  refine lv_lload_n hx hb dX0_apply_22 rfl (lv_at hl 1 rfl) ?_
  refine r_callS0I (As := [.long (x_make 1 a)]) (rest := []) cx hw hA (f_kindF l G a) ml_X0_23 st_X0_kind in_X0 co_X0_kind hd_X0_kind rfl ⟨Nat.le_of_ble_eq_true rfl, Nat.le_of_ble_eq_true rfl⟩ hl.1 rfl (Nat.le_of_ble_eq_true rfl) dX0_apply_23 ⟨Nat.le_of_ble_eq_true rfl, Nat.le_of_ble_eq_true rfl⟩ (fun r2 H locs hr2 hw => ?_)
  subst hr2
  refine lv_if_ne (tgt := 53) hx hb dX0_apply_26 (by decide) (fun _ => ?_) (fun c9 => absurd c9 (by decide))
  refine lv_lload_n hx hb dX0_apply_53 rfl (lv_at hl 1 rfl) ?_
  refine r_callS0I (As := [.long (x_make 1 a)]) (rest := []) cx hw hA (f_floatBits l G a) ml_X0_33 st_X0_floatBits in_X0 co_X0_floatBits hd_X0_floatBits rfl ⟨Nat.le_of_ble_eq_true rfl, Nat.le_of_ble_eq_true rfl⟩ hl.1 rfl (Nat.le_of_ble_eq_true rfl) dX0_apply_54 ⟨Nat.le_of_ble_eq_true rfl, Nat.le_of_ble_eq_true rfl⟩ (fun r4 H locs hr4 hw => ?_)
  refine lv_istore (lv' := [(5, .int r4), (0, .int 47), (1, .long (x_make 1 a)), (3, .long (x_make 1 d))]) hx hb dX0_apply_57 hl (by decide) rfl (fun ls hl => ?_)
  refine lv_lload_n hx hb dX0_apply_59 rfl (lv_at hl 3 rfl) ?_
  refine r_callS0I (As := [.long (x_make 1 d)]) (rest := []) cx hw hA (f_floatBits l G d) ml_X0_33 st_X0_floatBits in_X0 co_X0_floatBits hd_X0_floatBits rfl ⟨Nat.le_of_ble_eq_true rfl, Nat.le_of_ble_eq_true rfl⟩ hl.1 rfl (Nat.le_of_ble_eq_true rfl) dX0_apply_60 ⟨Nat.le_of_ble_eq_true rfl, Nat.le_of_ble_eq_true rfl⟩ (fun r6 H locs hr6 hw => ?_)
  refine lv_istore (lv' := [(6, .int r6), (5, .int r4), (0, .int 47), (1, .long (x_make 1 a)), (3, .long (x_make 1 d))]) hx hb dX0_apply_63 hl (by decide) rfl (fun ls hl => ?_)
  refine lv_iload hx hb dX0_apply_65 (lv_at hl 1 rfl) ?_
  refine r_callS0I (As := [.int r4]) (rest := []) cx hw hA (f_isNan l G r4) ml_X0_36 st_X0_isNan in_X0 co_X0_isNan hd_X0_isNan rfl ⟨Nat.le_of_ble_eq_true rfl, Nat.le_of_ble_eq_true rfl⟩ hl.1 rfl (Nat.le_of_ble_eq_true rfl) dX0_apply_67 ⟨Nat.le_of_ble_eq_true rfl, Nat.le_of_ble_eq_true rfl⟩ (fun r8 H locs hr8 hw => ?_)
  refine lv_if_ne (tgt := 81) hx hb dX0_apply_70 (by decide) (fun c9 => ?_) (fun c9 => ?_)
  · refine lv_iconst (v := 1) hx hb dX0_apply_81 (by decide) ?_
    refine lv_goto (tgt := 86) hx hb dX0_apply_82 (by decide) ?_
    refine lv_istore (lv' := [(7, .int 1), (6, .int r6), (5, .int r4), (0, .int 47), (1, .long (x_make 1 a)), (3, .long (x_make 1 d))]) hx hb dX0_apply_86 hl (by decide) rfl (fun ls hl => ?_)
    refine lv_iload_n hx hb dX0_apply_88 rfl (lv_at hl 3 rfl) ?_
    refine lv_lookup (tgt := 249) hx hb dX0_apply_89 (by decide +kernel) rfl (by decide) ?_
    refine lv_iconst (v := 1) hx hb dX0_apply_249 (by decide) ?_
    refine lv_iload hx hb dX0_apply_250 (lv_at hl 0 rfl) ?_
    refine lv_if_eq (tgt := 260) hx hb dX0_apply_252 (by decide) (fun c9 => absurd c9 (by decide)) (fun _ => ?_)
    refine lv_ldc hx hb cx.2.2.2.1 (cx.2.2.2.2.1 _ cs_X0_47) dX0_apply_255 ?_
    refine lv_goto (tgt := 267) hx hb dX0_apply_257 (by decide) ?_
    refine r_callS0L (As := [.int 1, .int 2143289344]) (rest := []) cx hw hA (c_make l G 1 2143289344) ml_X0_19 st_X0_make in_X0 co_X0_make hd_X0_make rfl ⟨Nat.le_of_ble_eq_true rfl, Nat.le_of_ble_eq_true rfl⟩ hl.1 rfl (Nat.le_of_ble_eq_true rfl) dX0_apply_267 ⟨Nat.le_of_ble_eq_true rfl, Nat.le_of_ble_eq_true rfl⟩ (fun r11 H locs hr11 hw => ?_)
    have h9 := Eq.symm hr11
    subst h9
    have hw : Wd G A [] s.heap _ _ := hw.sub [] rfl rfl
    exact r_lret cx hr hlk () (congrArg (x_make 1) (by subst hr4 hr6 hr8; rw [x_ap47_eq, if_neg c9])) hw (Nat.le_of_ble_eq_true rfl) (Nat.le_of_ble_eq_true rfl) dX0_apply_270
  · refine lv_iload hx hb dX0_apply_73 (lv_at hl 0 rfl) ?_
    refine r_callS0I (As := [.int r6]) (rest := []) cx hw hA (f_isNan l G r6) ml_X0_36 st_X0_isNan in_X0 co_X0_isNan hd_X0_isNan rfl ⟨Nat.le_of_ble_eq_true rfl, Nat.le_of_ble_eq_true rfl⟩ hl.1 rfl (Nat.le_of_ble_eq_true rfl) dX0_apply_75 ⟨Nat.le_of_ble_eq_true rfl, Nat.le_of_ble_eq_true rfl⟩ (fun r13 H locs hr13 hw => ?_)
    refine lv_if_eq (tgt := 85) hx hb dX0_apply_78 (by decide) (fun c14 => ?_) (fun c14 => ?_)
    · refine lv_iconst (v := 0) hx hb dX0_apply_85 (by decide) ?_
      refine lv_istore (lv' := [(7, .int 0), (6, .int r6), (5, .int r4), (0, .int 47), (1, .long (x_make 1 a)), (3, .long (x_make 1 d))]) hx hb dX0_apply_86 hl (by decide) rfl (fun ls hl => ?_)
      refine lv_iload_n hx hb dX0_apply_88 rfl (lv_at hl 3 rfl) ?_
      refine lv_lookup (tgt := 249) hx hb dX0_apply_89 (by decide +kernel) rfl (by decide) ?_
      refine lv_iconst (v := 1) hx hb dX0_apply_249 (by decide) ?_
      refine lv_iload hx hb dX0_apply_250 (lv_at hl 0 rfl) ?_
      refine lv_if_eq (tgt := 260) hx hb dX0_apply_252 (by decide) (fun _ => ?_) (fun c9 => absurd (by decide) c9)
      refine lv_iload hx hb dX0_apply_260 (lv_at hl 2 rfl) ?_
      refine lv_iload hx hb dX0_apply_262 (lv_at hl 1 rfl) ?_
      refine r_callS0I (As := [.int r4, .int r6]) (rest := [.int 1]) cx hw hA (f_div l G r4 r6) ml_X0_55 st_X0_divide in_X0 co_X0_divide hd_X0_divide rfl ⟨Nat.le_of_ble_eq_true rfl, Nat.le_of_ble_eq_true rfl⟩ hl.1 rfl (Nat.le_of_ble_eq_true rfl) dX0_apply_264 ⟨Nat.le_of_ble_eq_true rfl, Nat.le_of_ble_eq_true rfl⟩ (fun r16 H locs hr16 hw => ?_)
      refine r_callS0L (As := [.int 1, .int r16]) (rest := []) cx hw hA (c_make l G 1 r16) ml_X0_19 st_X0_make in_X0 co_X0_make hd_X0_make rfl ⟨Nat.le_of_ble_eq_true rfl, Nat.le_of_ble_eq_true rfl⟩ hl.1 rfl (Nat.le_of_ble_eq_true rfl) dX0_apply_267 ⟨Nat.le_of_ble_eq_true rfl, Nat.le_of_ble_eq_true rfl⟩ (fun r18 H locs hr18 hw => ?_)
      have h9 := Eq.symm hr18
      subst h9
      have hw : Wd G A [] s.heap _ _ := hw.sub [] rfl rfl
      exact r_lret cx hr hlk () (congrArg (x_make 1) (by subst hr4 hr6 hr8 hr13 hr16; rw [x_ap47_eq, if_pos c9, if_pos c14])) hw (Nat.le_of_ble_eq_true rfl) (Nat.le_of_ble_eq_true rfl) dX0_apply_270
    · refine lv_iconst (v := 1) hx hb dX0_apply_81 (by decide) ?_
      refine lv_goto (tgt := 86) hx hb dX0_apply_82 (by decide) ?_
      refine lv_istore (lv' := [(7, .int 1), (6, .int r6), (5, .int r4), (0, .int 47), (1, .long (x_make 1 a)), (3, .long (x_make 1 d))]) hx hb dX0_apply_86 hl (by decide) rfl (fun ls hl => ?_)
      refine lv_iload_n hx hb dX0_apply_88 rfl (lv_at hl 3 rfl) ?_
      refine lv_lookup (tgt := 249) hx hb dX0_apply_89 (by decide +kernel) rfl (by decide) ?_
      refine lv_iconst (v := 1) hx hb dX0_apply_249 (by decide) ?_
      refine lv_iload hx hb dX0_apply_250 (lv_at hl 0 rfl) ?_
      refine lv_if_eq (tgt := 260) hx hb dX0_apply_252 (by decide) (fun c9 => absurd c9 (by decide)) (fun _ => ?_)
      refine lv_ldc hx hb cx.2.2.2.1 (cx.2.2.2.2.1 _ cs_X0_47) dX0_apply_255 ?_
      refine lv_goto (tgt := 267) hx hb dX0_apply_257 (by decide) ?_
      refine r_callS0L (As := [.int 1, .int 2143289344]) (rest := []) cx hw hA (c_make l G 1 2143289344) ml_X0_19 st_X0_make in_X0 co_X0_make hd_X0_make rfl ⟨Nat.le_of_ble_eq_true rfl, Nat.le_of_ble_eq_true rfl⟩ hl.1 rfl (Nat.le_of_ble_eq_true rfl) dX0_apply_267 ⟨Nat.le_of_ble_eq_true rfl, Nat.le_of_ble_eq_true rfl⟩ (fun r20 H locs hr20 hw => ?_)
      have h9 := Eq.symm hr20
      subst h9
      have hw : Wd G A [] s.heap _ _ := hw.sub [] rfl rfl
      exact r_lret cx hr hlk () (congrArg (x_make 1) (by subst hr4 hr6 hr8 hr13; rw [x_ap47_eq, if_pos c9, if_neg c14])) hw (Nat.le_of_ble_eq_true rfl) (Nat.le_of_ble_eq_true rfl) dX0_apply_270

theorem x_ap37_ex : ∃ f : Int32 → Int32 → Int32, ∀ (a : Int32) (d : Int32), f a d = ((x_rest (x_cut a) (x_cut d))) := ⟨fun (a : Int32) (d : Int32) => ((x_rest (x_cut a) (x_cut d))), fun _ _ => rfl⟩
noncomputable def x_ap37 : Int32 → Int32 → Int32 := Classical.choose x_ap37_ex
theorem x_ap37_eq (a : Int32) (d : Int32) : x_ap37 a d = ((x_rest (x_cut a) (x_cut d))) := Classical.choose_spec x_ap37_ex a d
set_option maxHeartbeats 4000000 in
set_option maxRecDepth 100000 in
theorem f_ap37 (l : Launch) (G : Gt) (a : Int32) (d : Int32) : Mt l yX0_apply cX0_apply 8 (some .long) ({ frames := 2, cells := 0, slots := 0, locals := 45 } : Room) G [.int 37, .long (x_make 1 a), .long (x_make 1 d)] [] (qL G (fun (r : Int64) (w : Unit) => r = x_make 0 (x_ap37 a d)) (fun w => [])) := by
  refine Mt.of (own := RX0) (cc := cX0_apply) (by decide) rfl (Nat.le_of_ble_eq_true rfl) ?_
  intro p e s m below meth c A ls cx hr hlk hmn hA hl hw
  have hx := cx.1
  have hb := cx.2.1
  have hl : lv_has ls 8 [(0, .int 37), (1, .long (x_make 1 a)), (3, .long (x_make 1 d))] := hl
  refine lv_iload_n hx hb dX0_apply_0 rfl (lv_at hl 0 rfl) ?_
  refine lv_bipush (v := 37) hx hb dX0_apply_1 (by decide) ?_
  refine lv_icmp_ne (tgt := 22) hx hb dX0_apply_3 (by decide) (fun c9 => absurd (by decide) c9) (fun _ => ?_)
  refine lv_iconst (v := 0) hx hb dX0_apply_6 (by decide) ?_
  refine lv_lload_n hx hb dX0_apply_7 rfl (lv_at hl 1 rfl) ?_
  refine r_callS0I (As := [.long (x_make 1 a)]) (rest := [.int 0]) cx hw hA (f_cut l G a) ml_X0_11 st_X0_cut in_X0 co_X0_cut hd_X0_cut rfl ⟨Nat.le_of_ble_eq_true rfl, Nat.le_of_ble_eq_true rfl⟩ hl.1 rfl (Nat.le_of_ble_eq_true rfl) dX0_apply_8 ⟨Nat.le_of_ble_eq_true rfl, Nat.le_of_ble_eq_true rfl⟩ (fun r2 H locs hr2 hw => ?_)
  refine lv_lload_n hx hb dX0_apply_11 rfl (lv_at hl 2 rfl) ?_
  refine r_callS0I (As := [.long (x_make 1 d)]) (rest := [.int r2, .int 0]) cx hw hA (f_cut l G d) ml_X0_11 st_X0_cut in_X0 co_X0_cut hd_X0_cut rfl ⟨Nat.le_of_ble_eq_true rfl, Nat.le_of_ble_eq_true rfl⟩ hl.1 rfl (Nat.le_of_ble_eq_true rfl) dX0_apply_12 ⟨Nat.le_of_ble_eq_true rfl, Nat.le_of_ble_eq_true rfl⟩ (fun r4 H locs hr4 hw => ?_)
  refine r_callS0I (As := [.int r2, .int r4]) (rest := [.int 0]) cx hw hA (f_rest l G r2 r4) ml_X0_15 st_X0_rest in_X0 co_X0_rest hd_X0_rest rfl ⟨Nat.le_of_ble_eq_true rfl, Nat.le_of_ble_eq_true rfl⟩ hl.1 rfl (Nat.le_of_ble_eq_true rfl) dX0_apply_15 ⟨Nat.le_of_ble_eq_true rfl, Nat.le_of_ble_eq_true rfl⟩ (fun r6 H locs hr6 hw => ?_)
  refine r_callS0L (As := [.int 0, .int r6]) (rest := []) cx hw hA (c_make l G 0 r6) ml_X0_19 st_X0_make in_X0 co_X0_make hd_X0_make rfl ⟨Nat.le_of_ble_eq_true rfl, Nat.le_of_ble_eq_true rfl⟩ hl.1 rfl (Nat.le_of_ble_eq_true rfl) dX0_apply_18 ⟨Nat.le_of_ble_eq_true rfl, Nat.le_of_ble_eq_true rfl⟩ (fun r8 H locs hr8 hw => ?_)
  have h9 := Eq.symm hr8
  subst h9
  have hw : Wd G A [] s.heap _ _ := hw.sub [] rfl rfl
  exact r_lret cx hr hlk () (congrArg (x_make 0) (by subst hr2 hr4 hr6; rw [x_ap37_eq])) hw (Nat.le_of_ble_eq_true rfl) (Nat.le_of_ble_eq_true rfl) dX0_apply_21

theorem x_ap60_ex : ∃ f : Int32 → Int32 → Int32, ∀ (a : Int32) (d : Int32), f a d = (if (x_isNan (x_floatBits a)) = (0 : Int32) then (if (x_isNan (x_floatBits d)) = (0 : Int32) then (if (x_isBelow (x_floatBits a) (x_floatBits d)) = (0 : Int32) then (0) else (1)) else (if (x_isBelow (x_floatBits a) (x_floatBits d)) = (0 : Int32) then (0) else (1))) else (if (x_isBelow (x_floatBits a) (x_floatBits d)) = (0 : Int32) then (0) else (1))) := ⟨fun (a : Int32) (d : Int32) => (if (x_isNan (x_floatBits a)) = (0 : Int32) then (if (x_isNan (x_floatBits d)) = (0 : Int32) then (if (x_isBelow (x_floatBits a) (x_floatBits d)) = (0 : Int32) then (0) else (1)) else (if (x_isBelow (x_floatBits a) (x_floatBits d)) = (0 : Int32) then (0) else (1))) else (if (x_isBelow (x_floatBits a) (x_floatBits d)) = (0 : Int32) then (0) else (1))), fun _ _ => rfl⟩
noncomputable def x_ap60 : Int32 → Int32 → Int32 := Classical.choose x_ap60_ex
theorem x_ap60_eq (a : Int32) (d : Int32) : x_ap60 a d = (if (x_isNan (x_floatBits a)) = (0 : Int32) then (if (x_isNan (x_floatBits d)) = (0 : Int32) then (if (x_isBelow (x_floatBits a) (x_floatBits d)) = (0 : Int32) then (0) else (1)) else (if (x_isBelow (x_floatBits a) (x_floatBits d)) = (0 : Int32) then (0) else (1))) else (if (x_isBelow (x_floatBits a) (x_floatBits d)) = (0 : Int32) then (0) else (1))) := Classical.choose_spec x_ap60_ex a d
set_option maxHeartbeats 4000000 in
set_option maxRecDepth 100000 in
theorem f_ap60 (l : Launch) (G : Gt) (a : Int32) (d : Int32) : Mt l yX0_apply cX0_apply 8 (some .long) ({ frames := 2, cells := 0, slots := 0, locals := 45 } : Room) G [.int 60, .long (x_make 1 a), .long (x_make 1 d)] [] (qL G (fun (r : Int64) (w : Unit) => r = x_make 0 (x_ap60 a d)) (fun w => [])) := by
  refine Mt.of (own := RX0) (cc := cX0_apply) (by decide) rfl (Nat.le_of_ble_eq_true rfl) ?_
  intro p e s m below meth c A ls cx hr hlk hmn hA hl hw
  have hx := cx.1
  have hb := cx.2.1
  have hl : lv_has ls 8 [(0, .int 60), (1, .long (x_make 1 a)), (3, .long (x_make 1 d))] := hl
  refine lv_iload_n hx hb dX0_apply_0 rfl (lv_at hl 0 rfl) ?_
  refine lv_bipush (v := 37) hx hb dX0_apply_1 (by decide) ?_
  refine lv_icmp_ne (tgt := 22) hx hb dX0_apply_3 (by decide) (fun _ => ?_) (fun c9 => absurd c9 (by decide))
  refine lv_lload_n hx hb dX0_apply_22 rfl (lv_at hl 1 rfl) ?_
  refine r_callS0I (As := [.long (x_make 1 a)]) (rest := []) cx hw hA (f_kindF l G a) ml_X0_23 st_X0_kind in_X0 co_X0_kind hd_X0_kind rfl ⟨Nat.le_of_ble_eq_true rfl, Nat.le_of_ble_eq_true rfl⟩ hl.1 rfl (Nat.le_of_ble_eq_true rfl) dX0_apply_23 ⟨Nat.le_of_ble_eq_true rfl, Nat.le_of_ble_eq_true rfl⟩ (fun r2 H locs hr2 hw => ?_)
  subst hr2
  refine lv_if_ne (tgt := 53) hx hb dX0_apply_26 (by decide) (fun _ => ?_) (fun c9 => absurd c9 (by decide))
  refine lv_lload_n hx hb dX0_apply_53 rfl (lv_at hl 1 rfl) ?_
  refine r_callS0I (As := [.long (x_make 1 a)]) (rest := []) cx hw hA (f_floatBits l G a) ml_X0_33 st_X0_floatBits in_X0 co_X0_floatBits hd_X0_floatBits rfl ⟨Nat.le_of_ble_eq_true rfl, Nat.le_of_ble_eq_true rfl⟩ hl.1 rfl (Nat.le_of_ble_eq_true rfl) dX0_apply_54 ⟨Nat.le_of_ble_eq_true rfl, Nat.le_of_ble_eq_true rfl⟩ (fun r4 H locs hr4 hw => ?_)
  refine lv_istore (lv' := [(5, .int r4), (0, .int 60), (1, .long (x_make 1 a)), (3, .long (x_make 1 d))]) hx hb dX0_apply_57 hl (by decide) rfl (fun ls hl => ?_)
  refine lv_lload_n hx hb dX0_apply_59 rfl (lv_at hl 3 rfl) ?_
  refine r_callS0I (As := [.long (x_make 1 d)]) (rest := []) cx hw hA (f_floatBits l G d) ml_X0_33 st_X0_floatBits in_X0 co_X0_floatBits hd_X0_floatBits rfl ⟨Nat.le_of_ble_eq_true rfl, Nat.le_of_ble_eq_true rfl⟩ hl.1 rfl (Nat.le_of_ble_eq_true rfl) dX0_apply_60 ⟨Nat.le_of_ble_eq_true rfl, Nat.le_of_ble_eq_true rfl⟩ (fun r6 H locs hr6 hw => ?_)
  refine lv_istore (lv' := [(6, .int r6), (5, .int r4), (0, .int 60), (1, .long (x_make 1 a)), (3, .long (x_make 1 d))]) hx hb dX0_apply_63 hl (by decide) rfl (fun ls hl => ?_)
  refine lv_iload hx hb dX0_apply_65 (lv_at hl 1 rfl) ?_
  refine r_callS0I (As := [.int r4]) (rest := []) cx hw hA (f_isNan l G r4) ml_X0_36 st_X0_isNan in_X0 co_X0_isNan hd_X0_isNan rfl ⟨Nat.le_of_ble_eq_true rfl, Nat.le_of_ble_eq_true rfl⟩ hl.1 rfl (Nat.le_of_ble_eq_true rfl) dX0_apply_67 ⟨Nat.le_of_ble_eq_true rfl, Nat.le_of_ble_eq_true rfl⟩ (fun r8 H locs hr8 hw => ?_)
  refine lv_if_ne (tgt := 81) hx hb dX0_apply_70 (by decide) (fun c9 => ?_) (fun c9 => ?_)
  · refine lv_iconst (v := 1) hx hb dX0_apply_81 (by decide) ?_
    refine lv_goto (tgt := 86) hx hb dX0_apply_82 (by decide) ?_
    refine lv_istore (lv' := [(7, .int 1), (6, .int r6), (5, .int r4), (0, .int 60), (1, .long (x_make 1 a)), (3, .long (x_make 1 d))]) hx hb dX0_apply_86 hl (by decide) rfl (fun ls hl => ?_)
    refine lv_iload_n hx hb dX0_apply_88 rfl (lv_at hl 3 rfl) ?_
    refine lv_lookup (tgt := 140) hx hb dX0_apply_89 (by decide +kernel) rfl (by decide) ?_
    refine lv_iconst (v := 0) hx hb dX0_apply_140 (by decide) ?_
    refine lv_iload hx hb dX0_apply_141 (lv_at hl 2 rfl) ?_
    refine lv_iload hx hb dX0_apply_143 (lv_at hl 1 rfl) ?_
    refine r_callS0I (As := [.int r4, .int r6]) (rest := [.int 0]) cx hw hA (f_isBelow l G r4 r6) ml_X0_40 st_X0_isBelow in_X0 co_X0_isBelow hd_X0_isBelow rfl ⟨Nat.le_of_ble_eq_true rfl, Nat.le_of_ble_eq_true rfl⟩ hl.1 rfl (Nat.le_of_ble_eq_true rfl) dX0_apply_145 ⟨Nat.le_of_ble_eq_true rfl, Nat.le_of_ble_eq_true rfl⟩ (fun r11 H locs hr11 hw => ?_)
    refine lv_if_eq (tgt := 155) hx hb dX0_apply_148 (by decide) (fun c12 => ?_) (fun c12 => ?_)
    · refine lv_iconst (v := 0) hx hb dX0_apply_155 (by decide) ?_
      refine r_callS0L (As := [.int 0, .int 0]) (rest := []) cx hw hA (c_make l G 0 0) ml_X0_19 st_X0_make in_X0 co_X0_make hd_X0_make rfl ⟨Nat.le_of_ble_eq_true rfl, Nat.le_of_ble_eq_true rfl⟩ hl.1 rfl (Nat.le_of_ble_eq_true rfl) dX0_apply_156 ⟨Nat.le_of_ble_eq_true rfl, Nat.le_of_ble_eq_true rfl⟩ (fun r14 H locs hr14 hw => ?_)
      have h9 := Eq.symm hr14
      subst h9
      have hw : Wd G A [] s.heap _ _ := hw.sub [] rfl rfl
      exact r_lret cx hr hlk () (congrArg (x_make 0) (by subst hr4 hr6 hr8 hr11; rw [x_ap60_eq, if_neg c9, if_pos c12])) hw (Nat.le_of_ble_eq_true rfl) (Nat.le_of_ble_eq_true rfl) dX0_apply_159
    · refine lv_iconst (v := 1) hx hb dX0_apply_151 (by decide) ?_
      refine lv_goto (tgt := 156) hx hb dX0_apply_152 (by decide) ?_
      refine r_callS0L (As := [.int 0, .int 1]) (rest := []) cx hw hA (c_make l G 0 1) ml_X0_19 st_X0_make in_X0 co_X0_make hd_X0_make rfl ⟨Nat.le_of_ble_eq_true rfl, Nat.le_of_ble_eq_true rfl⟩ hl.1 rfl (Nat.le_of_ble_eq_true rfl) dX0_apply_156 ⟨Nat.le_of_ble_eq_true rfl, Nat.le_of_ble_eq_true rfl⟩ (fun r16 H locs hr16 hw => ?_)
      have h9 := Eq.symm hr16
      subst h9
      have hw : Wd G A [] s.heap _ _ := hw.sub [] rfl rfl
      exact r_lret cx hr hlk () (congrArg (x_make 0) (by subst hr4 hr6 hr8 hr11; rw [x_ap60_eq, if_neg c9, if_neg c12])) hw (Nat.le_of_ble_eq_true rfl) (Nat.le_of_ble_eq_true rfl) dX0_apply_159
  · refine lv_iload hx hb dX0_apply_73 (lv_at hl 0 rfl) ?_
    refine r_callS0I (As := [.int r6]) (rest := []) cx hw hA (f_isNan l G r6) ml_X0_36 st_X0_isNan in_X0 co_X0_isNan hd_X0_isNan rfl ⟨Nat.le_of_ble_eq_true rfl, Nat.le_of_ble_eq_true rfl⟩ hl.1 rfl (Nat.le_of_ble_eq_true rfl) dX0_apply_75 ⟨Nat.le_of_ble_eq_true rfl, Nat.le_of_ble_eq_true rfl⟩ (fun r18 H locs hr18 hw => ?_)
    refine lv_if_eq (tgt := 85) hx hb dX0_apply_78 (by decide) (fun c19 => ?_) (fun c19 => ?_)
    · refine lv_iconst (v := 0) hx hb dX0_apply_85 (by decide) ?_
      refine lv_istore (lv' := [(7, .int 0), (6, .int r6), (5, .int r4), (0, .int 60), (1, .long (x_make 1 a)), (3, .long (x_make 1 d))]) hx hb dX0_apply_86 hl (by decide) rfl (fun ls hl => ?_)
      refine lv_iload_n hx hb dX0_apply_88 rfl (lv_at hl 3 rfl) ?_
      refine lv_lookup (tgt := 140) hx hb dX0_apply_89 (by decide +kernel) rfl (by decide) ?_
      refine lv_iconst (v := 0) hx hb dX0_apply_140 (by decide) ?_
      refine lv_iload hx hb dX0_apply_141 (lv_at hl 2 rfl) ?_
      refine lv_iload hx hb dX0_apply_143 (lv_at hl 1 rfl) ?_
      refine r_callS0I (As := [.int r4, .int r6]) (rest := [.int 0]) cx hw hA (f_isBelow l G r4 r6) ml_X0_40 st_X0_isBelow in_X0 co_X0_isBelow hd_X0_isBelow rfl ⟨Nat.le_of_ble_eq_true rfl, Nat.le_of_ble_eq_true rfl⟩ hl.1 rfl (Nat.le_of_ble_eq_true rfl) dX0_apply_145 ⟨Nat.le_of_ble_eq_true rfl, Nat.le_of_ble_eq_true rfl⟩ (fun r21 H locs hr21 hw => ?_)
      refine lv_if_eq (tgt := 155) hx hb dX0_apply_148 (by decide) (fun c22 => ?_) (fun c22 => ?_)
      · refine lv_iconst (v := 0) hx hb dX0_apply_155 (by decide) ?_
        refine r_callS0L (As := [.int 0, .int 0]) (rest := []) cx hw hA (c_make l G 0 0) ml_X0_19 st_X0_make in_X0 co_X0_make hd_X0_make rfl ⟨Nat.le_of_ble_eq_true rfl, Nat.le_of_ble_eq_true rfl⟩ hl.1 rfl (Nat.le_of_ble_eq_true rfl) dX0_apply_156 ⟨Nat.le_of_ble_eq_true rfl, Nat.le_of_ble_eq_true rfl⟩ (fun r24 H locs hr24 hw => ?_)
        have h9 := Eq.symm hr24
        subst h9
        have hw : Wd G A [] s.heap _ _ := hw.sub [] rfl rfl
        exact r_lret cx hr hlk () (congrArg (x_make 0) (by subst hr4 hr6 hr8 hr18 hr21; rw [x_ap60_eq, if_pos c9, if_pos c19, if_pos c22])) hw (Nat.le_of_ble_eq_true rfl) (Nat.le_of_ble_eq_true rfl) dX0_apply_159
      · refine lv_iconst (v := 1) hx hb dX0_apply_151 (by decide) ?_
        refine lv_goto (tgt := 156) hx hb dX0_apply_152 (by decide) ?_
        refine r_callS0L (As := [.int 0, .int 1]) (rest := []) cx hw hA (c_make l G 0 1) ml_X0_19 st_X0_make in_X0 co_X0_make hd_X0_make rfl ⟨Nat.le_of_ble_eq_true rfl, Nat.le_of_ble_eq_true rfl⟩ hl.1 rfl (Nat.le_of_ble_eq_true rfl) dX0_apply_156 ⟨Nat.le_of_ble_eq_true rfl, Nat.le_of_ble_eq_true rfl⟩ (fun r26 H locs hr26 hw => ?_)
        have h9 := Eq.symm hr26
        subst h9
        have hw : Wd G A [] s.heap _ _ := hw.sub [] rfl rfl
        exact r_lret cx hr hlk () (congrArg (x_make 0) (by subst hr4 hr6 hr8 hr18 hr21; rw [x_ap60_eq, if_pos c9, if_pos c19, if_neg c22])) hw (Nat.le_of_ble_eq_true rfl) (Nat.le_of_ble_eq_true rfl) dX0_apply_159
    · refine lv_iconst (v := 1) hx hb dX0_apply_81 (by decide) ?_
      refine lv_goto (tgt := 86) hx hb dX0_apply_82 (by decide) ?_
      refine lv_istore (lv' := [(7, .int 1), (6, .int r6), (5, .int r4), (0, .int 60), (1, .long (x_make 1 a)), (3, .long (x_make 1 d))]) hx hb dX0_apply_86 hl (by decide) rfl (fun ls hl => ?_)
      refine lv_iload_n hx hb dX0_apply_88 rfl (lv_at hl 3 rfl) ?_
      refine lv_lookup (tgt := 140) hx hb dX0_apply_89 (by decide +kernel) rfl (by decide) ?_
      refine lv_iconst (v := 0) hx hb dX0_apply_140 (by decide) ?_
      refine lv_iload hx hb dX0_apply_141 (lv_at hl 2 rfl) ?_
      refine lv_iload hx hb dX0_apply_143 (lv_at hl 1 rfl) ?_
      refine r_callS0I (As := [.int r4, .int r6]) (rest := [.int 0]) cx hw hA (f_isBelow l G r4 r6) ml_X0_40 st_X0_isBelow in_X0 co_X0_isBelow hd_X0_isBelow rfl ⟨Nat.le_of_ble_eq_true rfl, Nat.le_of_ble_eq_true rfl⟩ hl.1 rfl (Nat.le_of_ble_eq_true rfl) dX0_apply_145 ⟨Nat.le_of_ble_eq_true rfl, Nat.le_of_ble_eq_true rfl⟩ (fun r28 H locs hr28 hw => ?_)
      refine lv_if_eq (tgt := 155) hx hb dX0_apply_148 (by decide) (fun c29 => ?_) (fun c29 => ?_)
      · refine lv_iconst (v := 0) hx hb dX0_apply_155 (by decide) ?_
        refine r_callS0L (As := [.int 0, .int 0]) (rest := []) cx hw hA (c_make l G 0 0) ml_X0_19 st_X0_make in_X0 co_X0_make hd_X0_make rfl ⟨Nat.le_of_ble_eq_true rfl, Nat.le_of_ble_eq_true rfl⟩ hl.1 rfl (Nat.le_of_ble_eq_true rfl) dX0_apply_156 ⟨Nat.le_of_ble_eq_true rfl, Nat.le_of_ble_eq_true rfl⟩ (fun r31 H locs hr31 hw => ?_)
        have h9 := Eq.symm hr31
        subst h9
        have hw : Wd G A [] s.heap _ _ := hw.sub [] rfl rfl
        exact r_lret cx hr hlk () (congrArg (x_make 0) (by subst hr4 hr6 hr8 hr18 hr28; rw [x_ap60_eq, if_pos c9, if_neg c19, if_pos c29])) hw (Nat.le_of_ble_eq_true rfl) (Nat.le_of_ble_eq_true rfl) dX0_apply_159
      · refine lv_iconst (v := 1) hx hb dX0_apply_151 (by decide) ?_
        refine lv_goto (tgt := 156) hx hb dX0_apply_152 (by decide) ?_
        refine r_callS0L (As := [.int 0, .int 1]) (rest := []) cx hw hA (c_make l G 0 1) ml_X0_19 st_X0_make in_X0 co_X0_make hd_X0_make rfl ⟨Nat.le_of_ble_eq_true rfl, Nat.le_of_ble_eq_true rfl⟩ hl.1 rfl (Nat.le_of_ble_eq_true rfl) dX0_apply_156 ⟨Nat.le_of_ble_eq_true rfl, Nat.le_of_ble_eq_true rfl⟩ (fun r33 H locs hr33 hw => ?_)
        have h9 := Eq.symm hr33
        subst h9
        have hw : Wd G A [] s.heap _ _ := hw.sub [] rfl rfl
        exact r_lret cx hr hlk () (congrArg (x_make 0) (by subst hr4 hr6 hr8 hr18 hr28; rw [x_ap60_eq, if_pos c9, if_neg c19, if_neg c29])) hw (Nat.le_of_ble_eq_true rfl) (Nat.le_of_ble_eq_true rfl) dX0_apply_159

theorem x_ap61_ex : ∃ f : Int32 → Int32 → Int32, ∀ (a : Int32) (d : Int32), f a d = (if (x_isNan (x_floatBits a)) = (0 : Int32) then (if (x_isNan (x_floatBits d)) = (0 : Int32) then (if (x_isEqual (x_floatBits a) (x_floatBits d)) = (0 : Int32) then (0) else (1)) else (if (x_isEqual (x_floatBits a) (x_floatBits d)) = (0 : Int32) then (0) else (1))) else (if (x_isEqual (x_floatBits a) (x_floatBits d)) = (0 : Int32) then (0) else (1))) := ⟨fun (a : Int32) (d : Int32) => (if (x_isNan (x_floatBits a)) = (0 : Int32) then (if (x_isNan (x_floatBits d)) = (0 : Int32) then (if (x_isEqual (x_floatBits a) (x_floatBits d)) = (0 : Int32) then (0) else (1)) else (if (x_isEqual (x_floatBits a) (x_floatBits d)) = (0 : Int32) then (0) else (1))) else (if (x_isEqual (x_floatBits a) (x_floatBits d)) = (0 : Int32) then (0) else (1))), fun _ _ => rfl⟩
noncomputable def x_ap61 : Int32 → Int32 → Int32 := Classical.choose x_ap61_ex
theorem x_ap61_eq (a : Int32) (d : Int32) : x_ap61 a d = (if (x_isNan (x_floatBits a)) = (0 : Int32) then (if (x_isNan (x_floatBits d)) = (0 : Int32) then (if (x_isEqual (x_floatBits a) (x_floatBits d)) = (0 : Int32) then (0) else (1)) else (if (x_isEqual (x_floatBits a) (x_floatBits d)) = (0 : Int32) then (0) else (1))) else (if (x_isEqual (x_floatBits a) (x_floatBits d)) = (0 : Int32) then (0) else (1))) := Classical.choose_spec x_ap61_ex a d
set_option maxHeartbeats 4000000 in
set_option maxRecDepth 100000 in
theorem f_ap61 (l : Launch) (G : Gt) (a : Int32) (d : Int32) : Mt l yX0_apply cX0_apply 8 (some .long) ({ frames := 2, cells := 0, slots := 0, locals := 45 } : Room) G [.int 61, .long (x_make 1 a), .long (x_make 1 d)] [] (qL G (fun (r : Int64) (w : Unit) => r = x_make 0 (x_ap61 a d)) (fun w => [])) := by
  refine Mt.of (own := RX0) (cc := cX0_apply) (by decide) rfl (Nat.le_of_ble_eq_true rfl) ?_
  intro p e s m below meth c A ls cx hr hlk hmn hA hl hw
  have hx := cx.1
  have hb := cx.2.1
  have hl : lv_has ls 8 [(0, .int 61), (1, .long (x_make 1 a)), (3, .long (x_make 1 d))] := hl
  refine lv_iload_n hx hb dX0_apply_0 rfl (lv_at hl 0 rfl) ?_
  refine lv_bipush (v := 37) hx hb dX0_apply_1 (by decide) ?_
  refine lv_icmp_ne (tgt := 22) hx hb dX0_apply_3 (by decide) (fun _ => ?_) (fun c9 => absurd c9 (by decide))
  refine lv_lload_n hx hb dX0_apply_22 rfl (lv_at hl 1 rfl) ?_
  refine r_callS0I (As := [.long (x_make 1 a)]) (rest := []) cx hw hA (f_kindF l G a) ml_X0_23 st_X0_kind in_X0 co_X0_kind hd_X0_kind rfl ⟨Nat.le_of_ble_eq_true rfl, Nat.le_of_ble_eq_true rfl⟩ hl.1 rfl (Nat.le_of_ble_eq_true rfl) dX0_apply_23 ⟨Nat.le_of_ble_eq_true rfl, Nat.le_of_ble_eq_true rfl⟩ (fun r2 H locs hr2 hw => ?_)
  subst hr2
  refine lv_if_ne (tgt := 53) hx hb dX0_apply_26 (by decide) (fun _ => ?_) (fun c9 => absurd c9 (by decide))
  refine lv_lload_n hx hb dX0_apply_53 rfl (lv_at hl 1 rfl) ?_
  refine r_callS0I (As := [.long (x_make 1 a)]) (rest := []) cx hw hA (f_floatBits l G a) ml_X0_33 st_X0_floatBits in_X0 co_X0_floatBits hd_X0_floatBits rfl ⟨Nat.le_of_ble_eq_true rfl, Nat.le_of_ble_eq_true rfl⟩ hl.1 rfl (Nat.le_of_ble_eq_true rfl) dX0_apply_54 ⟨Nat.le_of_ble_eq_true rfl, Nat.le_of_ble_eq_true rfl⟩ (fun r4 H locs hr4 hw => ?_)
  refine lv_istore (lv' := [(5, .int r4), (0, .int 61), (1, .long (x_make 1 a)), (3, .long (x_make 1 d))]) hx hb dX0_apply_57 hl (by decide) rfl (fun ls hl => ?_)
  refine lv_lload_n hx hb dX0_apply_59 rfl (lv_at hl 3 rfl) ?_
  refine r_callS0I (As := [.long (x_make 1 d)]) (rest := []) cx hw hA (f_floatBits l G d) ml_X0_33 st_X0_floatBits in_X0 co_X0_floatBits hd_X0_floatBits rfl ⟨Nat.le_of_ble_eq_true rfl, Nat.le_of_ble_eq_true rfl⟩ hl.1 rfl (Nat.le_of_ble_eq_true rfl) dX0_apply_60 ⟨Nat.le_of_ble_eq_true rfl, Nat.le_of_ble_eq_true rfl⟩ (fun r6 H locs hr6 hw => ?_)
  refine lv_istore (lv' := [(6, .int r6), (5, .int r4), (0, .int 61), (1, .long (x_make 1 a)), (3, .long (x_make 1 d))]) hx hb dX0_apply_63 hl (by decide) rfl (fun ls hl => ?_)
  refine lv_iload hx hb dX0_apply_65 (lv_at hl 1 rfl) ?_
  refine r_callS0I (As := [.int r4]) (rest := []) cx hw hA (f_isNan l G r4) ml_X0_36 st_X0_isNan in_X0 co_X0_isNan hd_X0_isNan rfl ⟨Nat.le_of_ble_eq_true rfl, Nat.le_of_ble_eq_true rfl⟩ hl.1 rfl (Nat.le_of_ble_eq_true rfl) dX0_apply_67 ⟨Nat.le_of_ble_eq_true rfl, Nat.le_of_ble_eq_true rfl⟩ (fun r8 H locs hr8 hw => ?_)
  refine lv_if_ne (tgt := 81) hx hb dX0_apply_70 (by decide) (fun c9 => ?_) (fun c9 => ?_)
  · refine lv_iconst (v := 1) hx hb dX0_apply_81 (by decide) ?_
    refine lv_goto (tgt := 86) hx hb dX0_apply_82 (by decide) ?_
    refine lv_istore (lv' := [(7, .int 1), (6, .int r6), (5, .int r4), (0, .int 61), (1, .long (x_make 1 a)), (3, .long (x_make 1 d))]) hx hb dX0_apply_86 hl (by decide) rfl (fun ls hl => ?_)
    refine lv_iload_n hx hb dX0_apply_88 rfl (lv_at hl 3 rfl) ?_
    refine lv_lookup (tgt := 160) hx hb dX0_apply_89 (by decide +kernel) rfl (by decide) ?_
    refine lv_iconst (v := 0) hx hb dX0_apply_160 (by decide) ?_
    refine lv_iload hx hb dX0_apply_161 (lv_at hl 2 rfl) ?_
    refine lv_iload hx hb dX0_apply_163 (lv_at hl 1 rfl) ?_
    refine r_callS0I (As := [.int r4, .int r6]) (rest := [.int 0]) cx hw hA (f_isEqual l G r4 r6) ml_X0_44 st_X0_isEqual in_X0 co_X0_isEqual hd_X0_isEqual rfl ⟨Nat.le_of_ble_eq_true rfl, Nat.le_of_ble_eq_true rfl⟩ hl.1 rfl (Nat.le_of_ble_eq_true rfl) dX0_apply_165 ⟨Nat.le_of_ble_eq_true rfl, Nat.le_of_ble_eq_true rfl⟩ (fun r11 H locs hr11 hw => ?_)
    refine lv_if_eq (tgt := 175) hx hb dX0_apply_168 (by decide) (fun c12 => ?_) (fun c12 => ?_)
    · refine lv_iconst (v := 0) hx hb dX0_apply_175 (by decide) ?_
      refine r_callS0L (As := [.int 0, .int 0]) (rest := []) cx hw hA (c_make l G 0 0) ml_X0_19 st_X0_make in_X0 co_X0_make hd_X0_make rfl ⟨Nat.le_of_ble_eq_true rfl, Nat.le_of_ble_eq_true rfl⟩ hl.1 rfl (Nat.le_of_ble_eq_true rfl) dX0_apply_176 ⟨Nat.le_of_ble_eq_true rfl, Nat.le_of_ble_eq_true rfl⟩ (fun r14 H locs hr14 hw => ?_)
      have h9 := Eq.symm hr14
      subst h9
      have hw : Wd G A [] s.heap _ _ := hw.sub [] rfl rfl
      exact r_lret cx hr hlk () (congrArg (x_make 0) (by subst hr4 hr6 hr8 hr11; rw [x_ap61_eq, if_neg c9, if_pos c12])) hw (Nat.le_of_ble_eq_true rfl) (Nat.le_of_ble_eq_true rfl) dX0_apply_179
    · refine lv_iconst (v := 1) hx hb dX0_apply_171 (by decide) ?_
      refine lv_goto (tgt := 176) hx hb dX0_apply_172 (by decide) ?_
      refine r_callS0L (As := [.int 0, .int 1]) (rest := []) cx hw hA (c_make l G 0 1) ml_X0_19 st_X0_make in_X0 co_X0_make hd_X0_make rfl ⟨Nat.le_of_ble_eq_true rfl, Nat.le_of_ble_eq_true rfl⟩ hl.1 rfl (Nat.le_of_ble_eq_true rfl) dX0_apply_176 ⟨Nat.le_of_ble_eq_true rfl, Nat.le_of_ble_eq_true rfl⟩ (fun r16 H locs hr16 hw => ?_)
      have h9 := Eq.symm hr16
      subst h9
      have hw : Wd G A [] s.heap _ _ := hw.sub [] rfl rfl
      exact r_lret cx hr hlk () (congrArg (x_make 0) (by subst hr4 hr6 hr8 hr11; rw [x_ap61_eq, if_neg c9, if_neg c12])) hw (Nat.le_of_ble_eq_true rfl) (Nat.le_of_ble_eq_true rfl) dX0_apply_179
  · refine lv_iload hx hb dX0_apply_73 (lv_at hl 0 rfl) ?_
    refine r_callS0I (As := [.int r6]) (rest := []) cx hw hA (f_isNan l G r6) ml_X0_36 st_X0_isNan in_X0 co_X0_isNan hd_X0_isNan rfl ⟨Nat.le_of_ble_eq_true rfl, Nat.le_of_ble_eq_true rfl⟩ hl.1 rfl (Nat.le_of_ble_eq_true rfl) dX0_apply_75 ⟨Nat.le_of_ble_eq_true rfl, Nat.le_of_ble_eq_true rfl⟩ (fun r18 H locs hr18 hw => ?_)
    refine lv_if_eq (tgt := 85) hx hb dX0_apply_78 (by decide) (fun c19 => ?_) (fun c19 => ?_)
    · refine lv_iconst (v := 0) hx hb dX0_apply_85 (by decide) ?_
      refine lv_istore (lv' := [(7, .int 0), (6, .int r6), (5, .int r4), (0, .int 61), (1, .long (x_make 1 a)), (3, .long (x_make 1 d))]) hx hb dX0_apply_86 hl (by decide) rfl (fun ls hl => ?_)
      refine lv_iload_n hx hb dX0_apply_88 rfl (lv_at hl 3 rfl) ?_
      refine lv_lookup (tgt := 160) hx hb dX0_apply_89 (by decide +kernel) rfl (by decide) ?_
      refine lv_iconst (v := 0) hx hb dX0_apply_160 (by decide) ?_
      refine lv_iload hx hb dX0_apply_161 (lv_at hl 2 rfl) ?_
      refine lv_iload hx hb dX0_apply_163 (lv_at hl 1 rfl) ?_
      refine r_callS0I (As := [.int r4, .int r6]) (rest := [.int 0]) cx hw hA (f_isEqual l G r4 r6) ml_X0_44 st_X0_isEqual in_X0 co_X0_isEqual hd_X0_isEqual rfl ⟨Nat.le_of_ble_eq_true rfl, Nat.le_of_ble_eq_true rfl⟩ hl.1 rfl (Nat.le_of_ble_eq_true rfl) dX0_apply_165 ⟨Nat.le_of_ble_eq_true rfl, Nat.le_of_ble_eq_true rfl⟩ (fun r21 H locs hr21 hw => ?_)
      refine lv_if_eq (tgt := 175) hx hb dX0_apply_168 (by decide) (fun c22 => ?_) (fun c22 => ?_)
      · refine lv_iconst (v := 0) hx hb dX0_apply_175 (by decide) ?_
        refine r_callS0L (As := [.int 0, .int 0]) (rest := []) cx hw hA (c_make l G 0 0) ml_X0_19 st_X0_make in_X0 co_X0_make hd_X0_make rfl ⟨Nat.le_of_ble_eq_true rfl, Nat.le_of_ble_eq_true rfl⟩ hl.1 rfl (Nat.le_of_ble_eq_true rfl) dX0_apply_176 ⟨Nat.le_of_ble_eq_true rfl, Nat.le_of_ble_eq_true rfl⟩ (fun r24 H locs hr24 hw => ?_)
        have h9 := Eq.symm hr24
        subst h9
        have hw : Wd G A [] s.heap _ _ := hw.sub [] rfl rfl
        exact r_lret cx hr hlk () (congrArg (x_make 0) (by subst hr4 hr6 hr8 hr18 hr21; rw [x_ap61_eq, if_pos c9, if_pos c19, if_pos c22])) hw (Nat.le_of_ble_eq_true rfl) (Nat.le_of_ble_eq_true rfl) dX0_apply_179
      · refine lv_iconst (v := 1) hx hb dX0_apply_171 (by decide) ?_
        refine lv_goto (tgt := 176) hx hb dX0_apply_172 (by decide) ?_
        refine r_callS0L (As := [.int 0, .int 1]) (rest := []) cx hw hA (c_make l G 0 1) ml_X0_19 st_X0_make in_X0 co_X0_make hd_X0_make rfl ⟨Nat.le_of_ble_eq_true rfl, Nat.le_of_ble_eq_true rfl⟩ hl.1 rfl (Nat.le_of_ble_eq_true rfl) dX0_apply_176 ⟨Nat.le_of_ble_eq_true rfl, Nat.le_of_ble_eq_true rfl⟩ (fun r26 H locs hr26 hw => ?_)
        have h9 := Eq.symm hr26
        subst h9
        have hw : Wd G A [] s.heap _ _ := hw.sub [] rfl rfl
        exact r_lret cx hr hlk () (congrArg (x_make 0) (by subst hr4 hr6 hr8 hr18 hr21; rw [x_ap61_eq, if_pos c9, if_pos c19, if_neg c22])) hw (Nat.le_of_ble_eq_true rfl) (Nat.le_of_ble_eq_true rfl) dX0_apply_179
    · refine lv_iconst (v := 1) hx hb dX0_apply_81 (by decide) ?_
      refine lv_goto (tgt := 86) hx hb dX0_apply_82 (by decide) ?_
      refine lv_istore (lv' := [(7, .int 1), (6, .int r6), (5, .int r4), (0, .int 61), (1, .long (x_make 1 a)), (3, .long (x_make 1 d))]) hx hb dX0_apply_86 hl (by decide) rfl (fun ls hl => ?_)
      refine lv_iload_n hx hb dX0_apply_88 rfl (lv_at hl 3 rfl) ?_
      refine lv_lookup (tgt := 160) hx hb dX0_apply_89 (by decide +kernel) rfl (by decide) ?_
      refine lv_iconst (v := 0) hx hb dX0_apply_160 (by decide) ?_
      refine lv_iload hx hb dX0_apply_161 (lv_at hl 2 rfl) ?_
      refine lv_iload hx hb dX0_apply_163 (lv_at hl 1 rfl) ?_
      refine r_callS0I (As := [.int r4, .int r6]) (rest := [.int 0]) cx hw hA (f_isEqual l G r4 r6) ml_X0_44 st_X0_isEqual in_X0 co_X0_isEqual hd_X0_isEqual rfl ⟨Nat.le_of_ble_eq_true rfl, Nat.le_of_ble_eq_true rfl⟩ hl.1 rfl (Nat.le_of_ble_eq_true rfl) dX0_apply_165 ⟨Nat.le_of_ble_eq_true rfl, Nat.le_of_ble_eq_true rfl⟩ (fun r28 H locs hr28 hw => ?_)
      refine lv_if_eq (tgt := 175) hx hb dX0_apply_168 (by decide) (fun c29 => ?_) (fun c29 => ?_)
      · refine lv_iconst (v := 0) hx hb dX0_apply_175 (by decide) ?_
        refine r_callS0L (As := [.int 0, .int 0]) (rest := []) cx hw hA (c_make l G 0 0) ml_X0_19 st_X0_make in_X0 co_X0_make hd_X0_make rfl ⟨Nat.le_of_ble_eq_true rfl, Nat.le_of_ble_eq_true rfl⟩ hl.1 rfl (Nat.le_of_ble_eq_true rfl) dX0_apply_176 ⟨Nat.le_of_ble_eq_true rfl, Nat.le_of_ble_eq_true rfl⟩ (fun r31 H locs hr31 hw => ?_)
        have h9 := Eq.symm hr31
        subst h9
        have hw : Wd G A [] s.heap _ _ := hw.sub [] rfl rfl
        exact r_lret cx hr hlk () (congrArg (x_make 0) (by subst hr4 hr6 hr8 hr18 hr28; rw [x_ap61_eq, if_pos c9, if_neg c19, if_pos c29])) hw (Nat.le_of_ble_eq_true rfl) (Nat.le_of_ble_eq_true rfl) dX0_apply_179
      · refine lv_iconst (v := 1) hx hb dX0_apply_171 (by decide) ?_
        refine lv_goto (tgt := 176) hx hb dX0_apply_172 (by decide) ?_
        refine r_callS0L (As := [.int 0, .int 1]) (rest := []) cx hw hA (c_make l G 0 1) ml_X0_19 st_X0_make in_X0 co_X0_make hd_X0_make rfl ⟨Nat.le_of_ble_eq_true rfl, Nat.le_of_ble_eq_true rfl⟩ hl.1 rfl (Nat.le_of_ble_eq_true rfl) dX0_apply_176 ⟨Nat.le_of_ble_eq_true rfl, Nat.le_of_ble_eq_true rfl⟩ (fun r33 H locs hr33 hw => ?_)
        have h9 := Eq.symm hr33
        subst h9
        have hw : Wd G A [] s.heap _ _ := hw.sub [] rfl rfl
        exact r_lret cx hr hlk () (congrArg (x_make 0) (by subst hr4 hr6 hr8 hr18 hr28; rw [x_ap61_eq, if_pos c9, if_neg c19, if_neg c29])) hw (Nat.le_of_ble_eq_true rfl) (Nat.le_of_ble_eq_true rfl) dX0_apply_179

/-- what op answers, by the class -/
noncomputable def fop (a g d : Int32) : Int32 := if g = 43 then x_ap43 a d else if g = 45 then x_ap45 a d else if g = 42 then x_ap42 a d else if g = 47 then x_ap47 a d else if g = 37 then x_ap37 a d else if g = 60 then x_ap60 a d else if g = 61 then x_ap61 a d else 0

set_option maxHeartbeats 4000000 in
set_option maxRecDepth 100000 in
theorem k_isSign (l : Launch) (G : Gt) (g : Int32) : Mt l yX0_isSign cX0_isSign 1 (some .boolean) ({ frames := 0, cells := 0, slots := 0, locals := 0 } : Room) G [.int g] [] (qI G (fun (r : Int32) (w : Unit) => (g = 43 ∧ r = 1) ∨ (g = 45 ∧ r = 1) ∨ (g = 42 ∧ r = 1) ∨ (g = 47 ∧ r = 1) ∨ (g = 37 ∧ r = 1) ∨ (g = 60 ∧ r = 1) ∨ (g = 61 ∧ r = 1) ∨ (¬ g = 43 ∧ ¬ g = 45 ∧ ¬ g = 42 ∧ ¬ g = 47 ∧ ¬ g = 37 ∧ ¬ g = 60 ∧ ¬ g = 61 ∧ r = 0)) (fun w => [])) := by
  refine Mt.of (own := RX0) (cc := cX0_isSign) (by decide) rfl (Nat.le_of_ble_eq_true rfl) ?_
  intro p e s m below meth c A ls cx hr hlk hmn hA hl hw
  have hx := cx.1
  have hb := cx.2.1
  have hl : lv_has ls 1 [(0, .int g)] := hl
  refine lv_iload_n hx hb dX0_isSign_0 rfl (lv_at hl 0 rfl) ?_
  refine lv_bipush (v := 43) hx hb dX0_isSign_1 (by decide) ?_
  refine lv_icmp_eq (tgt := 42) hx hb dX0_isSign_3 (by decide) (fun c1 => ?_) (fun c1 => ?_)
  · subst c1
    refine lv_iconst (v := 1) hx hb dX0_isSign_42 (by decide) ?_
    refine lv_goto (tgt := 47) hx hb dX0_isSign_43 (by decide) ?_
    have hw : Wd G A [] s.heap _ _ := hw.sub [] rfl rfl
    exact r_zret cx hr rfl hlk () (by first | exact Or.inl ⟨(by first | assumption | rfl | decide), rfl⟩ | exact Or.inr (Or.inl ⟨(by first | assumption | rfl | decide), rfl⟩) | exact Or.inr (Or.inr (Or.inl ⟨(by first | assumption | rfl | decide), rfl⟩)) | exact Or.inr (Or.inr (Or.inr (Or.inl ⟨(by first | assumption | rfl | decide), rfl⟩))) | exact Or.inr (Or.inr (Or.inr (Or.inr (Or.inl ⟨(by first | assumption | rfl | decide), rfl⟩)))) | exact Or.inr (Or.inr (Or.inr (Or.inr (Or.inr (Or.inl ⟨(by first | assumption | rfl | decide), rfl⟩))))) | exact Or.inr (Or.inr (Or.inr (Or.inr (Or.inr (Or.inr (Or.inl ⟨(by first | assumption | rfl | decide), rfl⟩))))))) hw (Nat.le_of_ble_eq_true rfl) (Nat.le_of_ble_eq_true rfl) dX0_isSign_47
  · refine lv_iload_n hx hb dX0_isSign_6 rfl (lv_at hl 0 rfl) ?_
    refine lv_bipush (v := 45) hx hb dX0_isSign_7 (by decide) ?_
    refine lv_icmp_eq (tgt := 42) hx hb dX0_isSign_9 (by decide) (fun c2 => ?_) (fun c2 => ?_)
    · subst c2
      refine lv_iconst (v := 1) hx hb dX0_isSign_42 (by decide) ?_
      refine lv_goto (tgt := 47) hx hb dX0_isSign_43 (by decide) ?_
      have hw : Wd G A [] s.heap _ _ := hw.sub [] rfl rfl
      exact r_zret cx hr rfl hlk () (by first | exact Or.inl ⟨(by first | assumption | rfl | decide), rfl⟩ | exact Or.inr (Or.inl ⟨(by first | assumption | rfl | decide), rfl⟩) | exact Or.inr (Or.inr (Or.inl ⟨(by first | assumption | rfl | decide), rfl⟩)) | exact Or.inr (Or.inr (Or.inr (Or.inl ⟨(by first | assumption | rfl | decide), rfl⟩))) | exact Or.inr (Or.inr (Or.inr (Or.inr (Or.inl ⟨(by first | assumption | rfl | decide), rfl⟩)))) | exact Or.inr (Or.inr (Or.inr (Or.inr (Or.inr (Or.inl ⟨(by first | assumption | rfl | decide), rfl⟩))))) | exact Or.inr (Or.inr (Or.inr (Or.inr (Or.inr (Or.inr (Or.inl ⟨(by first | assumption | rfl | decide), rfl⟩))))))) hw (Nat.le_of_ble_eq_true rfl) (Nat.le_of_ble_eq_true rfl) dX0_isSign_47
    · refine lv_iload_n hx hb dX0_isSign_12 rfl (lv_at hl 0 rfl) ?_
      refine lv_bipush (v := 42) hx hb dX0_isSign_13 (by decide) ?_
      refine lv_icmp_eq (tgt := 42) hx hb dX0_isSign_15 (by decide) (fun c3 => ?_) (fun c3 => ?_)
      · subst c3
        refine lv_iconst (v := 1) hx hb dX0_isSign_42 (by decide) ?_
        refine lv_goto (tgt := 47) hx hb dX0_isSign_43 (by decide) ?_
        have hw : Wd G A [] s.heap _ _ := hw.sub [] rfl rfl
        exact r_zret cx hr rfl hlk () (by first | exact Or.inl ⟨(by first | assumption | rfl | decide), rfl⟩ | exact Or.inr (Or.inl ⟨(by first | assumption | rfl | decide), rfl⟩) | exact Or.inr (Or.inr (Or.inl ⟨(by first | assumption | rfl | decide), rfl⟩)) | exact Or.inr (Or.inr (Or.inr (Or.inl ⟨(by first | assumption | rfl | decide), rfl⟩))) | exact Or.inr (Or.inr (Or.inr (Or.inr (Or.inl ⟨(by first | assumption | rfl | decide), rfl⟩)))) | exact Or.inr (Or.inr (Or.inr (Or.inr (Or.inr (Or.inl ⟨(by first | assumption | rfl | decide), rfl⟩))))) | exact Or.inr (Or.inr (Or.inr (Or.inr (Or.inr (Or.inr (Or.inl ⟨(by first | assumption | rfl | decide), rfl⟩))))))) hw (Nat.le_of_ble_eq_true rfl) (Nat.le_of_ble_eq_true rfl) dX0_isSign_47
      · refine lv_iload_n hx hb dX0_isSign_18 rfl (lv_at hl 0 rfl) ?_
        refine lv_bipush (v := 47) hx hb dX0_isSign_19 (by decide) ?_
        refine lv_icmp_eq (tgt := 42) hx hb dX0_isSign_21 (by decide) (fun c4 => ?_) (fun c4 => ?_)
        · subst c4
          refine lv_iconst (v := 1) hx hb dX0_isSign_42 (by decide) ?_
          refine lv_goto (tgt := 47) hx hb dX0_isSign_43 (by decide) ?_
          have hw : Wd G A [] s.heap _ _ := hw.sub [] rfl rfl
          exact r_zret cx hr rfl hlk () (by first | exact Or.inl ⟨(by first | assumption | rfl | decide), rfl⟩ | exact Or.inr (Or.inl ⟨(by first | assumption | rfl | decide), rfl⟩) | exact Or.inr (Or.inr (Or.inl ⟨(by first | assumption | rfl | decide), rfl⟩)) | exact Or.inr (Or.inr (Or.inr (Or.inl ⟨(by first | assumption | rfl | decide), rfl⟩))) | exact Or.inr (Or.inr (Or.inr (Or.inr (Or.inl ⟨(by first | assumption | rfl | decide), rfl⟩)))) | exact Or.inr (Or.inr (Or.inr (Or.inr (Or.inr (Or.inl ⟨(by first | assumption | rfl | decide), rfl⟩))))) | exact Or.inr (Or.inr (Or.inr (Or.inr (Or.inr (Or.inr (Or.inl ⟨(by first | assumption | rfl | decide), rfl⟩))))))) hw (Nat.le_of_ble_eq_true rfl) (Nat.le_of_ble_eq_true rfl) dX0_isSign_47
        · refine lv_iload_n hx hb dX0_isSign_24 rfl (lv_at hl 0 rfl) ?_
          refine lv_bipush (v := 37) hx hb dX0_isSign_25 (by decide) ?_
          refine lv_icmp_eq (tgt := 42) hx hb dX0_isSign_27 (by decide) (fun c5 => ?_) (fun c5 => ?_)
          · subst c5
            refine lv_iconst (v := 1) hx hb dX0_isSign_42 (by decide) ?_
            refine lv_goto (tgt := 47) hx hb dX0_isSign_43 (by decide) ?_
            have hw : Wd G A [] s.heap _ _ := hw.sub [] rfl rfl
            exact r_zret cx hr rfl hlk () (by first | exact Or.inl ⟨(by first | assumption | rfl | decide), rfl⟩ | exact Or.inr (Or.inl ⟨(by first | assumption | rfl | decide), rfl⟩) | exact Or.inr (Or.inr (Or.inl ⟨(by first | assumption | rfl | decide), rfl⟩)) | exact Or.inr (Or.inr (Or.inr (Or.inl ⟨(by first | assumption | rfl | decide), rfl⟩))) | exact Or.inr (Or.inr (Or.inr (Or.inr (Or.inl ⟨(by first | assumption | rfl | decide), rfl⟩)))) | exact Or.inr (Or.inr (Or.inr (Or.inr (Or.inr (Or.inl ⟨(by first | assumption | rfl | decide), rfl⟩))))) | exact Or.inr (Or.inr (Or.inr (Or.inr (Or.inr (Or.inr (Or.inl ⟨(by first | assumption | rfl | decide), rfl⟩))))))) hw (Nat.le_of_ble_eq_true rfl) (Nat.le_of_ble_eq_true rfl) dX0_isSign_47
          · refine lv_iload_n hx hb dX0_isSign_30 rfl (lv_at hl 0 rfl) ?_
            refine lv_bipush (v := 60) hx hb dX0_isSign_31 (by decide) ?_
            refine lv_icmp_eq (tgt := 42) hx hb dX0_isSign_33 (by decide) (fun c6 => ?_) (fun c6 => ?_)
            · subst c6
              refine lv_iconst (v := 1) hx hb dX0_isSign_42 (by decide) ?_
              refine lv_goto (tgt := 47) hx hb dX0_isSign_43 (by decide) ?_
              have hw : Wd G A [] s.heap _ _ := hw.sub [] rfl rfl
              exact r_zret cx hr rfl hlk () (by first | exact Or.inl ⟨(by first | assumption | rfl | decide), rfl⟩ | exact Or.inr (Or.inl ⟨(by first | assumption | rfl | decide), rfl⟩) | exact Or.inr (Or.inr (Or.inl ⟨(by first | assumption | rfl | decide), rfl⟩)) | exact Or.inr (Or.inr (Or.inr (Or.inl ⟨(by first | assumption | rfl | decide), rfl⟩))) | exact Or.inr (Or.inr (Or.inr (Or.inr (Or.inl ⟨(by first | assumption | rfl | decide), rfl⟩)))) | exact Or.inr (Or.inr (Or.inr (Or.inr (Or.inr (Or.inl ⟨(by first | assumption | rfl | decide), rfl⟩))))) | exact Or.inr (Or.inr (Or.inr (Or.inr (Or.inr (Or.inr (Or.inl ⟨(by first | assumption | rfl | decide), rfl⟩))))))) hw (Nat.le_of_ble_eq_true rfl) (Nat.le_of_ble_eq_true rfl) dX0_isSign_47
            · refine lv_iload_n hx hb dX0_isSign_36 rfl (lv_at hl 0 rfl) ?_
              refine lv_bipush (v := 61) hx hb dX0_isSign_37 (by decide) ?_
              refine lv_icmp_ne (tgt := 46) hx hb dX0_isSign_39 (by decide) (fun c7 => ?_) (fun c7 => ?_)
              · refine lv_iconst (v := 0) hx hb dX0_isSign_46 (by decide) ?_
                have hw : Wd G A [] s.heap _ _ := hw.sub [] rfl rfl
                exact r_zret cx hr rfl hlk () (by first | exact Or.inr (Or.inr (Or.inr (Or.inr (Or.inr (Or.inr (Or.inr (⟨(by first | assumption | rfl | decide), (by first | assumption | rfl | decide), (by first | assumption | rfl | decide), (by first | assumption | rfl | decide), (by first | assumption | rfl | decide), (by first | assumption | rfl | decide), (by first | assumption | rfl | decide), rfl⟩)))))))) hw (Nat.le_of_ble_eq_true rfl) (Nat.le_of_ble_eq_true rfl) dX0_isSign_47
              · subst c7
                refine lv_iconst (v := 1) hx hb dX0_isSign_42 (by decide) ?_
                refine lv_goto (tgt := 47) hx hb dX0_isSign_43 (by decide) ?_
                have hw : Wd G A [] s.heap _ _ := hw.sub [] rfl rfl
                exact r_zret cx hr rfl hlk () (by first | exact Or.inl ⟨(by first | assumption | rfl | decide), rfl⟩ | exact Or.inr (Or.inl ⟨(by first | assumption | rfl | decide), rfl⟩) | exact Or.inr (Or.inr (Or.inl ⟨(by first | assumption | rfl | decide), rfl⟩)) | exact Or.inr (Or.inr (Or.inr (Or.inl ⟨(by first | assumption | rfl | decide), rfl⟩))) | exact Or.inr (Or.inr (Or.inr (Or.inr (Or.inl ⟨(by first | assumption | rfl | decide), rfl⟩)))) | exact Or.inr (Or.inr (Or.inr (Or.inr (Or.inr (Or.inl ⟨(by first | assumption | rfl | decide), rfl⟩))))) | exact Or.inr (Or.inr (Or.inr (Or.inr (Or.inr (Or.inr (Or.inl ⟨(by first | assumption | rfl | decide), rfl⟩))))))) hw (Nat.le_of_ble_eq_true rfl) (Nat.le_of_ble_eq_true rfl) dX0_isSign_47

set_option maxHeartbeats 4000000 in
set_option maxRecDepth 100000 in
theorem xa_op (l : Launch) (G : Gt) (h0 : Nat) (u : Nat → Nat) (a : Int32) (g : Int32) (d : Int32) : Mt l yX11_op cX11_op 6 (some .int) ({ frames := 5, cells := 0, slots := 0, locals := 135 } : Room) G [.ref h0, .int a, .int g, .int d] [(h0, ob 10 [.ref (u 0), .int 0, .int (-1), .ref (u 1), .ref (u 2), .ref (u 3), .ref (u 4), .ref (u 5), .ref (u 6), .ref (u 7), .int 0, .ref (u 8), .ref (u 9), .ref (u 10), .ref (u 11), .ref (u 12), .ref (u 13), .ref (u 14), .ref (u 15), .ref (u 16)])] (qI G (fun (r : Int32) (w : Unit) => r = fop a g d) (fun w => [])) := by
  refine Mt.of (own := RX11) (cc := cX11_op) (by decide) rfl (Nat.le_of_ble_eq_true rfl) ?_
  intro p e s m below meth c A ls cx hr hlk hmn hA hl hw
  have hx := cx.1
  have hb := cx.2.1
  have hl : lv_has ls 6 [(0, .ref h0), (1, .int a), (2, .int g), (3, .int d)] := hl
  refine lv_iload_n hx hb dX11_op_0 rfl (lv_at hl 2 rfl) ?_
  refine r_callS0I (As := [.int g]) (rest := []) cx hw hA (k_isSign l G g) ml_X11_255 st_X0_isSign in_X0 co_X0_isSign hd_X0_isSign rfl ⟨Nat.le_of_ble_eq_true rfl, Nat.le_of_ble_eq_true rfl⟩ hl.1 rfl (Nat.le_of_ble_eq_true rfl) dX11_op_1 ⟨Nat.le_of_ble_eq_true rfl, Nat.le_of_ble_eq_true rfl⟩ (fun r2 H locs hr2 hw => ?_)
  rcases hr2 with hr2 | hr2
  · obtain ⟨c3, hr2⟩ := hr2
    subst hr2
    subst c3
    refine lv_if_ne (tgt := 9) hx hb dX11_op_4 (by decide) (fun _ => ?_) (fun c9 => absurd c9 (by decide))
    refine lv_iload_n hx hb dX11_op_9 rfl (lv_at hl 2 rfl) ?_
    refine lv_iconst (v := 1) hx hb dX11_op_10 (by decide) ?_
    refine lv_iload_n hx hb dX11_op_11 rfl (lv_at hl 1 rfl) ?_
    refine r_callS0L (As := [.int 1, .int a]) (rest := [.int 43]) cx hw hA (c_make l G 1 a) ml_X11_260 st_X0_make in_X0 co_X0_make hd_X0_make rfl ⟨Nat.le_of_ble_eq_true rfl, Nat.le_of_ble_eq_true rfl⟩ hl.1 rfl (Nat.le_of_ble_eq_true rfl) dX11_op_12 ⟨Nat.le_of_ble_eq_true rfl, Nat.le_of_ble_eq_true rfl⟩ (fun r5 H locs hr5 hw => ?_)
    have h9 := Eq.symm hr5
    subst h9
    refine lv_iconst (v := 1) hx hb dX11_op_15 (by decide) ?_
    refine lv_iload_n hx hb dX11_op_16 rfl (lv_at hl 3 rfl) ?_
    refine r_callS0L (As := [.int 1, .int d]) (rest := [.long (x_make 1 a), .int 43]) cx hw hA (c_make l G 1 d) ml_X11_260 st_X0_make in_X0 co_X0_make hd_X0_make rfl ⟨Nat.le_of_ble_eq_true rfl, Nat.le_of_ble_eq_true rfl⟩ hl.1 rfl (Nat.le_of_ble_eq_true rfl) dX11_op_17 ⟨Nat.le_of_ble_eq_true rfl, Nat.le_of_ble_eq_true rfl⟩ (fun r7 H locs hr7 hw => ?_)
    have h9 := Eq.symm hr7
    subst h9
    refine r_callS0L (As := [.int 43, .long (x_make 1 a), .long (x_make 1 d)]) (rest := []) cx hw hA (f_ap43 l G a d) ml_X11_264 st_X0_apply in_X0 co_X0_apply hd_X0_apply rfl ⟨Nat.le_of_ble_eq_true rfl, Nat.le_of_ble_eq_true rfl⟩ hl.1 rfl (Nat.le_of_ble_eq_true rfl) dX11_op_20 ⟨Nat.le_of_ble_eq_true rfl, Nat.le_of_ble_eq_true rfl⟩ (fun r9 H locs hr9 hw => ?_)
    have h9 := Eq.symm hr9
    subst h9
    refine lv_lstore (lv' := [(4, .long (x_make 1 (x_ap43 a d))), (0, .ref h0), (1, .int a), (2, .int 43), (3, .int d)]) hx hb dX11_op_23 hl (by decide) rfl (fun ls hl => ?_)
    refine lv_lload hx hb dX11_op_25 (lv_at hl 0 rfl) ?_
    refine r_callS0I (As := [.long (x_make 1 (x_ap43 a d))]) (rest := []) cx hw hA (f_bitsF l G (x_ap43 a d)) ml_X11_268 st_X0_bits in_X0 co_X0_bits hd_X0_bits rfl ⟨Nat.le_of_ble_eq_true rfl, Nat.le_of_ble_eq_true rfl⟩ hl.1 rfl (Nat.le_of_ble_eq_true rfl) dX11_op_27 ⟨Nat.le_of_ble_eq_true rfl, Nat.le_of_ble_eq_true rfl⟩ (fun r11 H locs hr11 hw => ?_)
    have h9 := Eq.symm hr11
    subst h9
    have hw : Wd G A [] s.heap _ _ := hw.sub [] rfl rfl
    exact r_iret cx hr hlk () (by first | rfl | (simp [fop]; done) | (unfold fop; decide)) hw (Nat.le_of_ble_eq_true rfl) (Nat.le_of_ble_eq_true rfl) dX11_op_30
  rcases hr2 with hr2 | hr2
  · obtain ⟨c12, hr2⟩ := hr2
    subst hr2
    subst c12
    refine lv_if_ne (tgt := 9) hx hb dX11_op_4 (by decide) (fun _ => ?_) (fun c9 => absurd c9 (by decide))
    refine lv_iload_n hx hb dX11_op_9 rfl (lv_at hl 2 rfl) ?_
    refine lv_iconst (v := 1) hx hb dX11_op_10 (by decide) ?_
    refine lv_iload_n hx hb dX11_op_11 rfl (lv_at hl 1 rfl) ?_
    refine r_callS0L (As := [.int 1, .int a]) (rest := [.int 45]) cx hw hA (c_make l G 1 a) ml_X11_260 st_X0_make in_X0 co_X0_make hd_X0_make rfl ⟨Nat.le_of_ble_eq_true rfl, Nat.le_of_ble_eq_true rfl⟩ hl.1 rfl (Nat.le_of_ble_eq_true rfl) dX11_op_12 ⟨Nat.le_of_ble_eq_true rfl, Nat.le_of_ble_eq_true rfl⟩ (fun r14 H locs hr14 hw => ?_)
    have h9 := Eq.symm hr14
    subst h9
    refine lv_iconst (v := 1) hx hb dX11_op_15 (by decide) ?_
    refine lv_iload_n hx hb dX11_op_16 rfl (lv_at hl 3 rfl) ?_
    refine r_callS0L (As := [.int 1, .int d]) (rest := [.long (x_make 1 a), .int 45]) cx hw hA (c_make l G 1 d) ml_X11_260 st_X0_make in_X0 co_X0_make hd_X0_make rfl ⟨Nat.le_of_ble_eq_true rfl, Nat.le_of_ble_eq_true rfl⟩ hl.1 rfl (Nat.le_of_ble_eq_true rfl) dX11_op_17 ⟨Nat.le_of_ble_eq_true rfl, Nat.le_of_ble_eq_true rfl⟩ (fun r16 H locs hr16 hw => ?_)
    have h9 := Eq.symm hr16
    subst h9
    refine r_callS0L (As := [.int 45, .long (x_make 1 a), .long (x_make 1 d)]) (rest := []) cx hw hA (f_ap45 l G a d) ml_X11_264 st_X0_apply in_X0 co_X0_apply hd_X0_apply rfl ⟨Nat.le_of_ble_eq_true rfl, Nat.le_of_ble_eq_true rfl⟩ hl.1 rfl (Nat.le_of_ble_eq_true rfl) dX11_op_20 ⟨Nat.le_of_ble_eq_true rfl, Nat.le_of_ble_eq_true rfl⟩ (fun r18 H locs hr18 hw => ?_)
    have h9 := Eq.symm hr18
    subst h9
    refine lv_lstore (lv' := [(4, .long (x_make 1 (x_ap45 a d))), (0, .ref h0), (1, .int a), (2, .int 45), (3, .int d)]) hx hb dX11_op_23 hl (by decide) rfl (fun ls hl => ?_)
    refine lv_lload hx hb dX11_op_25 (lv_at hl 0 rfl) ?_
    refine r_callS0I (As := [.long (x_make 1 (x_ap45 a d))]) (rest := []) cx hw hA (f_bitsF l G (x_ap45 a d)) ml_X11_268 st_X0_bits in_X0 co_X0_bits hd_X0_bits rfl ⟨Nat.le_of_ble_eq_true rfl, Nat.le_of_ble_eq_true rfl⟩ hl.1 rfl (Nat.le_of_ble_eq_true rfl) dX11_op_27 ⟨Nat.le_of_ble_eq_true rfl, Nat.le_of_ble_eq_true rfl⟩ (fun r20 H locs hr20 hw => ?_)
    have h9 := Eq.symm hr20
    subst h9
    have hw : Wd G A [] s.heap _ _ := hw.sub [] rfl rfl
    exact r_iret cx hr hlk () (by first | rfl | (simp [fop]; done) | (unfold fop; decide)) hw (Nat.le_of_ble_eq_true rfl) (Nat.le_of_ble_eq_true rfl) dX11_op_30
  rcases hr2 with hr2 | hr2
  · obtain ⟨c21, hr2⟩ := hr2
    subst hr2
    subst c21
    refine lv_if_ne (tgt := 9) hx hb dX11_op_4 (by decide) (fun _ => ?_) (fun c9 => absurd c9 (by decide))
    refine lv_iload_n hx hb dX11_op_9 rfl (lv_at hl 2 rfl) ?_
    refine lv_iconst (v := 1) hx hb dX11_op_10 (by decide) ?_
    refine lv_iload_n hx hb dX11_op_11 rfl (lv_at hl 1 rfl) ?_
    refine r_callS0L (As := [.int 1, .int a]) (rest := [.int 42]) cx hw hA (c_make l G 1 a) ml_X11_260 st_X0_make in_X0 co_X0_make hd_X0_make rfl ⟨Nat.le_of_ble_eq_true rfl, Nat.le_of_ble_eq_true rfl⟩ hl.1 rfl (Nat.le_of_ble_eq_true rfl) dX11_op_12 ⟨Nat.le_of_ble_eq_true rfl, Nat.le_of_ble_eq_true rfl⟩ (fun r23 H locs hr23 hw => ?_)
    have h9 := Eq.symm hr23
    subst h9
    refine lv_iconst (v := 1) hx hb dX11_op_15 (by decide) ?_
    refine lv_iload_n hx hb dX11_op_16 rfl (lv_at hl 3 rfl) ?_
    refine r_callS0L (As := [.int 1, .int d]) (rest := [.long (x_make 1 a), .int 42]) cx hw hA (c_make l G 1 d) ml_X11_260 st_X0_make in_X0 co_X0_make hd_X0_make rfl ⟨Nat.le_of_ble_eq_true rfl, Nat.le_of_ble_eq_true rfl⟩ hl.1 rfl (Nat.le_of_ble_eq_true rfl) dX11_op_17 ⟨Nat.le_of_ble_eq_true rfl, Nat.le_of_ble_eq_true rfl⟩ (fun r25 H locs hr25 hw => ?_)
    have h9 := Eq.symm hr25
    subst h9
    refine r_callS0L (As := [.int 42, .long (x_make 1 a), .long (x_make 1 d)]) (rest := []) cx hw hA (f_ap42 l G a d) ml_X11_264 st_X0_apply in_X0 co_X0_apply hd_X0_apply rfl ⟨Nat.le_of_ble_eq_true rfl, Nat.le_of_ble_eq_true rfl⟩ hl.1 rfl (Nat.le_of_ble_eq_true rfl) dX11_op_20 ⟨Nat.le_of_ble_eq_true rfl, Nat.le_of_ble_eq_true rfl⟩ (fun r27 H locs hr27 hw => ?_)
    have h9 := Eq.symm hr27
    subst h9
    refine lv_lstore (lv' := [(4, .long (x_make 1 (x_ap42 a d))), (0, .ref h0), (1, .int a), (2, .int 42), (3, .int d)]) hx hb dX11_op_23 hl (by decide) rfl (fun ls hl => ?_)
    refine lv_lload hx hb dX11_op_25 (lv_at hl 0 rfl) ?_
    refine r_callS0I (As := [.long (x_make 1 (x_ap42 a d))]) (rest := []) cx hw hA (f_bitsF l G (x_ap42 a d)) ml_X11_268 st_X0_bits in_X0 co_X0_bits hd_X0_bits rfl ⟨Nat.le_of_ble_eq_true rfl, Nat.le_of_ble_eq_true rfl⟩ hl.1 rfl (Nat.le_of_ble_eq_true rfl) dX11_op_27 ⟨Nat.le_of_ble_eq_true rfl, Nat.le_of_ble_eq_true rfl⟩ (fun r29 H locs hr29 hw => ?_)
    have h9 := Eq.symm hr29
    subst h9
    have hw : Wd G A [] s.heap _ _ := hw.sub [] rfl rfl
    exact r_iret cx hr hlk () (by first | rfl | (simp [fop]; done) | (unfold fop; decide)) hw (Nat.le_of_ble_eq_true rfl) (Nat.le_of_ble_eq_true rfl) dX11_op_30
  rcases hr2 with hr2 | hr2
  · obtain ⟨c30, hr2⟩ := hr2
    subst hr2
    subst c30
    refine lv_if_ne (tgt := 9) hx hb dX11_op_4 (by decide) (fun _ => ?_) (fun c9 => absurd c9 (by decide))
    refine lv_iload_n hx hb dX11_op_9 rfl (lv_at hl 2 rfl) ?_
    refine lv_iconst (v := 1) hx hb dX11_op_10 (by decide) ?_
    refine lv_iload_n hx hb dX11_op_11 rfl (lv_at hl 1 rfl) ?_
    refine r_callS0L (As := [.int 1, .int a]) (rest := [.int 47]) cx hw hA (c_make l G 1 a) ml_X11_260 st_X0_make in_X0 co_X0_make hd_X0_make rfl ⟨Nat.le_of_ble_eq_true rfl, Nat.le_of_ble_eq_true rfl⟩ hl.1 rfl (Nat.le_of_ble_eq_true rfl) dX11_op_12 ⟨Nat.le_of_ble_eq_true rfl, Nat.le_of_ble_eq_true rfl⟩ (fun r32 H locs hr32 hw => ?_)
    have h9 := Eq.symm hr32
    subst h9
    refine lv_iconst (v := 1) hx hb dX11_op_15 (by decide) ?_
    refine lv_iload_n hx hb dX11_op_16 rfl (lv_at hl 3 rfl) ?_
    refine r_callS0L (As := [.int 1, .int d]) (rest := [.long (x_make 1 a), .int 47]) cx hw hA (c_make l G 1 d) ml_X11_260 st_X0_make in_X0 co_X0_make hd_X0_make rfl ⟨Nat.le_of_ble_eq_true rfl, Nat.le_of_ble_eq_true rfl⟩ hl.1 rfl (Nat.le_of_ble_eq_true rfl) dX11_op_17 ⟨Nat.le_of_ble_eq_true rfl, Nat.le_of_ble_eq_true rfl⟩ (fun r34 H locs hr34 hw => ?_)
    have h9 := Eq.symm hr34
    subst h9
    refine r_callS0L (As := [.int 47, .long (x_make 1 a), .long (x_make 1 d)]) (rest := []) cx hw hA (f_ap47 l G a d) ml_X11_264 st_X0_apply in_X0 co_X0_apply hd_X0_apply rfl ⟨Nat.le_of_ble_eq_true rfl, Nat.le_of_ble_eq_true rfl⟩ hl.1 rfl (Nat.le_of_ble_eq_true rfl) dX11_op_20 ⟨Nat.le_of_ble_eq_true rfl, Nat.le_of_ble_eq_true rfl⟩ (fun r36 H locs hr36 hw => ?_)
    have h9 := Eq.symm hr36
    subst h9
    refine lv_lstore (lv' := [(4, .long (x_make 1 (x_ap47 a d))), (0, .ref h0), (1, .int a), (2, .int 47), (3, .int d)]) hx hb dX11_op_23 hl (by decide) rfl (fun ls hl => ?_)
    refine lv_lload hx hb dX11_op_25 (lv_at hl 0 rfl) ?_
    refine r_callS0I (As := [.long (x_make 1 (x_ap47 a d))]) (rest := []) cx hw hA (f_bitsF l G (x_ap47 a d)) ml_X11_268 st_X0_bits in_X0 co_X0_bits hd_X0_bits rfl ⟨Nat.le_of_ble_eq_true rfl, Nat.le_of_ble_eq_true rfl⟩ hl.1 rfl (Nat.le_of_ble_eq_true rfl) dX11_op_27 ⟨Nat.le_of_ble_eq_true rfl, Nat.le_of_ble_eq_true rfl⟩ (fun r38 H locs hr38 hw => ?_)
    have h9 := Eq.symm hr38
    subst h9
    have hw : Wd G A [] s.heap _ _ := hw.sub [] rfl rfl
    exact r_iret cx hr hlk () (by first | rfl | (simp [fop]; done) | (unfold fop; decide)) hw (Nat.le_of_ble_eq_true rfl) (Nat.le_of_ble_eq_true rfl) dX11_op_30
  rcases hr2 with hr2 | hr2
  · obtain ⟨c39, hr2⟩ := hr2
    subst hr2
    subst c39
    refine lv_if_ne (tgt := 9) hx hb dX11_op_4 (by decide) (fun _ => ?_) (fun c9 => absurd c9 (by decide))
    refine lv_iload_n hx hb dX11_op_9 rfl (lv_at hl 2 rfl) ?_
    refine lv_iconst (v := 1) hx hb dX11_op_10 (by decide) ?_
    refine lv_iload_n hx hb dX11_op_11 rfl (lv_at hl 1 rfl) ?_
    refine r_callS0L (As := [.int 1, .int a]) (rest := [.int 37]) cx hw hA (c_make l G 1 a) ml_X11_260 st_X0_make in_X0 co_X0_make hd_X0_make rfl ⟨Nat.le_of_ble_eq_true rfl, Nat.le_of_ble_eq_true rfl⟩ hl.1 rfl (Nat.le_of_ble_eq_true rfl) dX11_op_12 ⟨Nat.le_of_ble_eq_true rfl, Nat.le_of_ble_eq_true rfl⟩ (fun r41 H locs hr41 hw => ?_)
    have h9 := Eq.symm hr41
    subst h9
    refine lv_iconst (v := 1) hx hb dX11_op_15 (by decide) ?_
    refine lv_iload_n hx hb dX11_op_16 rfl (lv_at hl 3 rfl) ?_
    refine r_callS0L (As := [.int 1, .int d]) (rest := [.long (x_make 1 a), .int 37]) cx hw hA (c_make l G 1 d) ml_X11_260 st_X0_make in_X0 co_X0_make hd_X0_make rfl ⟨Nat.le_of_ble_eq_true rfl, Nat.le_of_ble_eq_true rfl⟩ hl.1 rfl (Nat.le_of_ble_eq_true rfl) dX11_op_17 ⟨Nat.le_of_ble_eq_true rfl, Nat.le_of_ble_eq_true rfl⟩ (fun r43 H locs hr43 hw => ?_)
    have h9 := Eq.symm hr43
    subst h9
    refine r_callS0L (As := [.int 37, .long (x_make 1 a), .long (x_make 1 d)]) (rest := []) cx hw hA (f_ap37 l G a d) ml_X11_264 st_X0_apply in_X0 co_X0_apply hd_X0_apply rfl ⟨Nat.le_of_ble_eq_true rfl, Nat.le_of_ble_eq_true rfl⟩ hl.1 rfl (Nat.le_of_ble_eq_true rfl) dX11_op_20 ⟨Nat.le_of_ble_eq_true rfl, Nat.le_of_ble_eq_true rfl⟩ (fun r45 H locs hr45 hw => ?_)
    have h9 := Eq.symm hr45
    subst h9
    refine lv_lstore (lv' := [(4, .long (x_make 0 (x_ap37 a d))), (0, .ref h0), (1, .int a), (2, .int 37), (3, .int d)]) hx hb dX11_op_23 hl (by decide) rfl (fun ls hl => ?_)
    refine lv_lload hx hb dX11_op_25 (lv_at hl 0 rfl) ?_
    refine r_callS0I (As := [.long (x_make 0 (x_ap37 a d))]) (rest := []) cx hw hA (f_bits0 l G (x_ap37 a d)) ml_X11_268 st_X0_bits in_X0 co_X0_bits hd_X0_bits rfl ⟨Nat.le_of_ble_eq_true rfl, Nat.le_of_ble_eq_true rfl⟩ hl.1 rfl (Nat.le_of_ble_eq_true rfl) dX11_op_27 ⟨Nat.le_of_ble_eq_true rfl, Nat.le_of_ble_eq_true rfl⟩ (fun r47 H locs hr47 hw => ?_)
    have h9 := Eq.symm hr47
    subst h9
    have hw : Wd G A [] s.heap _ _ := hw.sub [] rfl rfl
    exact r_iret cx hr hlk () (by first | rfl | (simp [fop]; done) | (unfold fop; decide)) hw (Nat.le_of_ble_eq_true rfl) (Nat.le_of_ble_eq_true rfl) dX11_op_30
  rcases hr2 with hr2 | hr2
  · obtain ⟨c48, hr2⟩ := hr2
    subst hr2
    subst c48
    refine lv_if_ne (tgt := 9) hx hb dX11_op_4 (by decide) (fun _ => ?_) (fun c9 => absurd c9 (by decide))
    refine lv_iload_n hx hb dX11_op_9 rfl (lv_at hl 2 rfl) ?_
    refine lv_iconst (v := 1) hx hb dX11_op_10 (by decide) ?_
    refine lv_iload_n hx hb dX11_op_11 rfl (lv_at hl 1 rfl) ?_
    refine r_callS0L (As := [.int 1, .int a]) (rest := [.int 60]) cx hw hA (c_make l G 1 a) ml_X11_260 st_X0_make in_X0 co_X0_make hd_X0_make rfl ⟨Nat.le_of_ble_eq_true rfl, Nat.le_of_ble_eq_true rfl⟩ hl.1 rfl (Nat.le_of_ble_eq_true rfl) dX11_op_12 ⟨Nat.le_of_ble_eq_true rfl, Nat.le_of_ble_eq_true rfl⟩ (fun r50 H locs hr50 hw => ?_)
    have h9 := Eq.symm hr50
    subst h9
    refine lv_iconst (v := 1) hx hb dX11_op_15 (by decide) ?_
    refine lv_iload_n hx hb dX11_op_16 rfl (lv_at hl 3 rfl) ?_
    refine r_callS0L (As := [.int 1, .int d]) (rest := [.long (x_make 1 a), .int 60]) cx hw hA (c_make l G 1 d) ml_X11_260 st_X0_make in_X0 co_X0_make hd_X0_make rfl ⟨Nat.le_of_ble_eq_true rfl, Nat.le_of_ble_eq_true rfl⟩ hl.1 rfl (Nat.le_of_ble_eq_true rfl) dX11_op_17 ⟨Nat.le_of_ble_eq_true rfl, Nat.le_of_ble_eq_true rfl⟩ (fun r52 H locs hr52 hw => ?_)
    have h9 := Eq.symm hr52
    subst h9
    refine r_callS0L (As := [.int 60, .long (x_make 1 a), .long (x_make 1 d)]) (rest := []) cx hw hA (f_ap60 l G a d) ml_X11_264 st_X0_apply in_X0 co_X0_apply hd_X0_apply rfl ⟨Nat.le_of_ble_eq_true rfl, Nat.le_of_ble_eq_true rfl⟩ hl.1 rfl (Nat.le_of_ble_eq_true rfl) dX11_op_20 ⟨Nat.le_of_ble_eq_true rfl, Nat.le_of_ble_eq_true rfl⟩ (fun r54 H locs hr54 hw => ?_)
    have h9 := Eq.symm hr54
    subst h9
    refine lv_lstore (lv' := [(4, .long (x_make 0 (x_ap60 a d))), (0, .ref h0), (1, .int a), (2, .int 60), (3, .int d)]) hx hb dX11_op_23 hl (by decide) rfl (fun ls hl => ?_)
    refine lv_lload hx hb dX11_op_25 (lv_at hl 0 rfl) ?_
    refine r_callS0I (As := [.long (x_make 0 (x_ap60 a d))]) (rest := []) cx hw hA (f_bits0 l G (x_ap60 a d)) ml_X11_268 st_X0_bits in_X0 co_X0_bits hd_X0_bits rfl ⟨Nat.le_of_ble_eq_true rfl, Nat.le_of_ble_eq_true rfl⟩ hl.1 rfl (Nat.le_of_ble_eq_true rfl) dX11_op_27 ⟨Nat.le_of_ble_eq_true rfl, Nat.le_of_ble_eq_true rfl⟩ (fun r56 H locs hr56 hw => ?_)
    have h9 := Eq.symm hr56
    subst h9
    have hw : Wd G A [] s.heap _ _ := hw.sub [] rfl rfl
    exact r_iret cx hr hlk () (by first | rfl | (simp [fop]; done) | (unfold fop; decide)) hw (Nat.le_of_ble_eq_true rfl) (Nat.le_of_ble_eq_true rfl) dX11_op_30
  rcases hr2 with hr2 | hr2
  · obtain ⟨c57, hr2⟩ := hr2
    subst hr2
    subst c57
    refine lv_if_ne (tgt := 9) hx hb dX11_op_4 (by decide) (fun _ => ?_) (fun c9 => absurd c9 (by decide))
    refine lv_iload_n hx hb dX11_op_9 rfl (lv_at hl 2 rfl) ?_
    refine lv_iconst (v := 1) hx hb dX11_op_10 (by decide) ?_
    refine lv_iload_n hx hb dX11_op_11 rfl (lv_at hl 1 rfl) ?_
    refine r_callS0L (As := [.int 1, .int a]) (rest := [.int 61]) cx hw hA (c_make l G 1 a) ml_X11_260 st_X0_make in_X0 co_X0_make hd_X0_make rfl ⟨Nat.le_of_ble_eq_true rfl, Nat.le_of_ble_eq_true rfl⟩ hl.1 rfl (Nat.le_of_ble_eq_true rfl) dX11_op_12 ⟨Nat.le_of_ble_eq_true rfl, Nat.le_of_ble_eq_true rfl⟩ (fun r59 H locs hr59 hw => ?_)
    have h9 := Eq.symm hr59
    subst h9
    refine lv_iconst (v := 1) hx hb dX11_op_15 (by decide) ?_
    refine lv_iload_n hx hb dX11_op_16 rfl (lv_at hl 3 rfl) ?_
    refine r_callS0L (As := [.int 1, .int d]) (rest := [.long (x_make 1 a), .int 61]) cx hw hA (c_make l G 1 d) ml_X11_260 st_X0_make in_X0 co_X0_make hd_X0_make rfl ⟨Nat.le_of_ble_eq_true rfl, Nat.le_of_ble_eq_true rfl⟩ hl.1 rfl (Nat.le_of_ble_eq_true rfl) dX11_op_17 ⟨Nat.le_of_ble_eq_true rfl, Nat.le_of_ble_eq_true rfl⟩ (fun r61 H locs hr61 hw => ?_)
    have h9 := Eq.symm hr61
    subst h9
    refine r_callS0L (As := [.int 61, .long (x_make 1 a), .long (x_make 1 d)]) (rest := []) cx hw hA (f_ap61 l G a d) ml_X11_264 st_X0_apply in_X0 co_X0_apply hd_X0_apply rfl ⟨Nat.le_of_ble_eq_true rfl, Nat.le_of_ble_eq_true rfl⟩ hl.1 rfl (Nat.le_of_ble_eq_true rfl) dX11_op_20 ⟨Nat.le_of_ble_eq_true rfl, Nat.le_of_ble_eq_true rfl⟩ (fun r63 H locs hr63 hw => ?_)
    have h9 := Eq.symm hr63
    subst h9
    refine lv_lstore (lv' := [(4, .long (x_make 0 (x_ap61 a d))), (0, .ref h0), (1, .int a), (2, .int 61), (3, .int d)]) hx hb dX11_op_23 hl (by decide) rfl (fun ls hl => ?_)
    refine lv_lload hx hb dX11_op_25 (lv_at hl 0 rfl) ?_
    refine r_callS0I (As := [.long (x_make 0 (x_ap61 a d))]) (rest := []) cx hw hA (f_bits0 l G (x_ap61 a d)) ml_X11_268 st_X0_bits in_X0 co_X0_bits hd_X0_bits rfl ⟨Nat.le_of_ble_eq_true rfl, Nat.le_of_ble_eq_true rfl⟩ hl.1 rfl (Nat.le_of_ble_eq_true rfl) dX11_op_27 ⟨Nat.le_of_ble_eq_true rfl, Nat.le_of_ble_eq_true rfl⟩ (fun r65 H locs hr65 hw => ?_)
    have h9 := Eq.symm hr65
    subst h9
    have hw : Wd G A [] s.heap _ _ := hw.sub [] rfl rfl
    exact r_iret cx hr hlk () (by first | rfl | (simp [fop]; done) | (unfold fop; decide)) hw (Nat.le_of_ble_eq_true rfl) (Nat.le_of_ble_eq_true rfl) dX11_op_30
  obtain ⟨c66, c67, c68, c69, c70, c71, c72, hr2⟩ := hr2
  subst hr2
  refine lv_if_ne (tgt := 9) hx hb dX11_op_4 (by decide) (fun c9 => absurd (by decide) c9) (fun _ => ?_)
  refine lv_iconst (v := 0) hx hb dX11_op_7 (by decide) ?_
  have hw : Wd G A [] s.heap _ _ := hw.sub [] rfl rfl
  exact r_iret cx hr hlk () (by unfold fop; rw [if_neg c66, if_neg c67, if_neg c68, if_neg c69, if_neg c70, if_neg c71, if_neg c72]) hw (Nat.le_of_ble_eq_true rfl) (Nat.le_of_ble_eq_true rfl) dX11_op_8
