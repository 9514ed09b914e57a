theorem p_X8_deepOf_ex : ∃ f : Int64 → Mem → Option (Int32 × Mem), ∀ (a1 : Int64) (μ : Mem), f a1 μ = bd (p_X8_isPair a1 μ) (fun r2 μ1 => (if r2 = (0 : Int32) then some ((0 : Int32), μ1) else gd (inb (s_X0_bits a1) 30200) (some ((μ1.1 34 (s_X0_bits a1).toNatClampNeg), μ1)))) := ⟨fun (a1 : Int64) (μ : Mem) => bd (p_X8_isPair a1 μ) (fun r2 μ1 => (if r2 = (0 : Int32) then some ((0 : Int32), μ1) else gd (inb (s_X0_bits a1) 30200) (some ((μ1.1 34 (s_X0_bits a1).toNatClampNeg), μ1)))), fun _ _ => rfl⟩
noncomputable def p_X8_deepOf : Int64 → Mem → Option (Int32 × Mem) := Classical.choose p_X8_deepOf_ex
theorem p_X8_deepOf_eq (a1 : Int64) (μ : Mem) : p_X8_deepOf a1 μ = bd (p_X8_isPair a1 μ) (fun r2 μ1 => (if r2 = (0 : Int32) then some ((0 : Int32), μ1) else gd (inb (s_X0_bits a1) 30200) (some ((μ1.1 34 (s_X0_bits a1).toNatClampNeg), μ1)))) := Classical.choose_spec p_X8_deepOf_ex a1 μ
set_option maxHeartbeats 4000000 in
set_option maxRecDepth 100000 in
theorem t_X8_deepOf (l : Launch) (G : Gt) (ad : Nat → Nat) (a1 : Int64) (μ : Mem) {r : Int32} {μz : Mem} (h : p_X8_deepOf a1 μ = some (r, μz)) : Mt l yX8_deepOf cX8_deepOf 3 (some .int) ({ frames := 1, cells := 0, slots := 0, locals := 22 } : Room) G [.ref (ad 30), .long a1] (wd 0 G ad μ) (eI 0 G ad r μz) := by
  refine Bk.mt (by decide) rfl (Nat.le_of_ble_eq_true rfl) ?_
  intro p e s m below meth c A ls H locs cx hr hlk hA hl hw
  have hx := cx.1
  have hb := cx.2.1
  have hl : lv_has ls 3 [(0, .ref (ad 30)), (1, .long a1)] := hl
  rw [p_X8_deepOf_eq] at h
  refine lv_aload_n hx hb dX8_deepOf_0 rfl (lv_at hl 0 rfl) ?_
  refine lv_lload_n hx hb dX8_deepOf_1 rfl (lv_at hl 1 rfl) ?_
  obtain ⟨r2, μ1, gr2, h⟩ := bd_some h
  refine g_callVI (As := [.long a1]) (rest := []) cx hw hA (t_X8_isPair l G ad a1 μ gr2) shx_30 rfl ml_X8_88 im_X8_isPair se_X8_isPair in_X8 co_X8_isPair rfl hd_X8_isPair rfl ⟨(Nat.le_of_ble_eq_true rfl), (Nat.le_of_ble_eq_true rfl)⟩ hl.1 rfl (Nat.le_of_ble_eq_true rfl) dX8_deepOf_2 ⟨rfl, rfl⟩ (fun H locs hw => ?_)
  refine lv_if_eq (tgt := 20) hx hb dX8_deepOf_5 (by decide) (fun c3 => ?_) (fun c3 => ?_)
  · rw [if_pos c3] at h
    refine lv_iconst (v := 0) hx hb dX8_deepOf_20 (by decide) ?_
    exact g_iret cx hr hlk hw h dX8_deepOf_21
  · rw [if_neg c3] at h
    refine lv_aload_n hx hb dX8_deepOf_8 rfl (lv_at hl 0 rfl) ?_
    refine g_get cx hw inX8 (ci := 7) rfl 3 (by decide) rfl (v := .ref (ad 34)) shx_30 rfl fl_X8_24 dX8_deepOf_9 ?_
    refine lv_lload_n hx hb dX8_deepOf_12 rfl (lv_at hl 1 rfl) ?_
    refine s_callI (As := [.long a1]) (rest := [.ref (ad 34)]) cx hw hA (t_X0_bits l G a1) ml_X8_92 st_X0_bits in_X0 co_X0_bits hd_X0_bits rfl ⟨(Nat.le_of_ble_eq_true rfl), (Nat.le_of_ble_eq_true rfl)⟩ hl.1 rfl (Nat.le_of_ble_eq_true rfl) dX8_deepOf_13 rfl (fun H locs hw => ?_)
    refine g_iald cx hw shx_34 h dX8_deepOf_16 (fun h => ?_)
    refine lv_goto (tgt := 21) hx hb dX8_deepOf_17 (by decide) ?_
    exact g_iret cx hr hlk hw h dX8_deepOf_21

theorem p_X8_pair_ex : ∃ f : Int64 → Int64 → Mem → Option (Int64 × Mem), ∀ (a1 : Int64) (a3 : Int64) (μ : Mem), f a1 a3 μ = (if (μ.1 30 5) < (30200 : Int32) then gd (inb (μ.1 30 5) 30200) (bv (sL μ 31 (μ.1 30 5).toNatClampNeg a1) (fun μ2 => gd (inb (μ2.1 30 5) 30200) (bv (sL μ2 32 (μ2.1 30 5).toNatClampNeg a3) (fun μ3 => bd (p_X8_weightOf a1 μ3) (fun r5 μ4 => bd (p_X8_weightOf a3 μ4) (fun r7 μ6 => gd (inb (μ3.1 30 5) 30200) (bv (sF μ6 33 (μ3.1 30 5).toNatClampNeg (((1 : Int32) + r5) + r7)) (fun μ8 => bd (p_X8_deepOf a1 μ8) (fun r10 μ9 => bd (p_X8_deepOf a3 μ9) (fun r12 μ11 => gd (inb (μ8.1 30 5) 30200) (bv (sF μ11 34 (μ8.1 30 5).toNatClampNeg ((1 : Int32) + (imax r10 r12))) (fun μ13 => bv (sF μ13 30 5 ((μ13.1 30 5) + (1 : Int32))) (fun μ14 => some ((s_X0_make (2 : Int32) ((μ14.1 30 5) - (1 : Int32))), μ14)))))))))))))) else some ((0 : Int64), μ)) := ⟨fun (a1 : Int64) (a3 : Int64) (μ : Mem) => (if (μ.1 30 5) < (30200 : Int32) then gd (inb (μ.1 30 5) 30200) (bv (sL μ 31 (μ.1 30 5).toNatClampNeg a1) (fun μ2 => gd (inb (μ2.1 30 5) 30200) (bv (sL μ2 32 (μ2.1 30 5).toNatClampNeg a3) (fun μ3 => bd (p_X8_weightOf a1 μ3) (fun r5 μ4 => bd (p_X8_weightOf a3 μ4) (fun r7 μ6 => gd (inb (μ3.1 30 5) 30200) (bv (sF μ6 33 (μ3.1 30 5).toNatClampNeg (((1 : Int32) + r5) + r7)) (fun μ8 => bd (p_X8_deepOf a1 μ8) (fun r10 μ9 => bd (p_X8_deepOf a3 μ9) (fun r12 μ11 => gd (inb (μ8.1 30 5) 30200) (bv (sF μ11 34 (μ8.1 30 5).toNatClampNeg ((1 : Int32) + (imax r10 r12))) (fun μ13 => bv (sF μ13 30 5 ((μ13.1 30 5) + (1 : Int32))) (fun μ14 => some ((s_X0_make (2 : Int32) ((μ14.1 30 5) - (1 : Int32))), μ14)))))))))))))) else some ((0 : Int64), μ)), fun _ _ _ => rfl⟩
noncomputable def p_X8_pair : Int64 → Int64 → Mem → Option (Int64 × Mem) := Classical.choose p_X8_pair_ex
theorem p_X8_pair_eq (a1 : Int64) (a3 : Int64) (μ : Mem) : p_X8_pair a1 a3 μ = (if (μ.1 30 5) < (30200 : Int32) then gd (inb (μ.1 30 5) 30200) (bv (sL μ 31 (μ.1 30 5).toNatClampNeg a1) (fun μ2 => gd (inb (μ2.1 30 5) 30200) (bv (sL μ2 32 (μ2.1 30 5).toNatClampNeg a3) (fun μ3 => bd (p_X8_weightOf a1 μ3) (fun r5 μ4 => bd (p_X8_weightOf a3 μ4) (fun r7 μ6 => gd (inb (μ3.1 30 5) 30200) (bv (sF μ6 33 (μ3.1 30 5).toNatClampNeg (((1 : Int32) + r5) + r7)) (fun μ8 => bd (p_X8_deepOf a1 μ8) (fun r10 μ9 => bd (p_X8_deepOf a3 μ9) (fun r12 μ11 => gd (inb (μ8.1 30 5) 30200) (bv (sF μ11 34 (μ8.1 30 5).toNatClampNeg ((1 : Int32) + (imax r10 r12))) (fun μ13 => bv (sF μ13 30 5 ((μ13.1 30 5) + (1 : Int32))) (fun μ14 => some ((s_X0_make (2 : Int32) ((μ14.1 30 5) - (1 : Int32))), μ14)))))))))))))) else some ((0 : Int64), μ)) := Classical.choose_spec p_X8_pair_ex a1 a3 μ
set_option maxHeartbeats 4000000 in
set_option maxRecDepth 100000 in
theorem t_X8_pair (l : Launch) (G : Gt) (ad : Nat → Nat) (a1 : Int64) (a3 : Int64) (μ : Mem) {r : Int64} {μz : Mem} (h : p_X8_pair a1 a3 μ = some (r, μz)) : Mt l yX8_pair cX8_pair 5 (some .long) ({ frames := 2, cells := 0, slots := 0, locals := 44 } : Room) G [.ref (ad 30), .long a1, .long a3] (wd 0 G ad μ) (eL 0 G ad r μz) := by
  refine Bk.mt (by decide) rfl (Nat.le_of_ble_eq_true rfl) ?_
  intro p e s m below meth c A ls H locs cx hr hlk hA hl hw
  have hx := cx.1
  have hb := cx.2.1
  have hl : lv_has ls 5 [(0, .ref (ad 30)), (1, .long a1), (3, .long a3)] := hl
  rw [p_X8_pair_eq] at h
  refine lv_aload_n hx hb dX8_pair_0 rfl (lv_at hl 0 rfl) ?_
  refine g_get cx hw inX8 (ci := 7) rfl 5 (by decide) rfl (v := .int (μ.1 30 5)) shx_30 rfl fl_X8_41 dX8_pair_1 ?_
  refine lv_sipush (v := 30200) hx hb dX8_pair_4 (by decide) ?_
  refine lv_icmp_lt (tgt := 12) hx hb dX8_pair_7 (by decide) (fun c1 => ?_) (fun c1 => ?_)
  · rw [if_pos c1] at h
    refine lv_aload_n hx hb dX8_pair_12 rfl (lv_at hl 0 rfl) ?_
    refine g_get cx hw inX8 (ci := 7) rfl 0 (by decide) rfl (v := .ref (ad 31)) shx_30 rfl fl_X8_13 dX8_pair_13 ?_
    refine lv_aload_n hx hb dX8_pair_16 rfl (lv_at hl 0 rfl) ?_
    refine g_get cx hw inX8 (ci := 7) rfl 5 (by decide) rfl (v := .int (μ.1 30 5)) shx_30 rfl fl_X8_41 dX8_pair_17 ?_
    refine lv_lload_n hx hb dX8_pair_20 rfl (lv_at hl 1 rfl) ?_
    refine g_last cx hw shx_31 h dX8_pair_21 (fun μ2 H locs h hw => ?_)
    refine lv_aload_n hx hb dX8_pair_22 rfl (lv_at hl 0 rfl) ?_
    refine g_get cx hw inX8 (ci := 7) rfl 1 (by decide) rfl (v := .ref (ad 32)) shx_30 rfl fl_X8_17 dX8_pair_23 ?_
    refine lv_aload_n hx hb dX8_pair_26 rfl (lv_at hl 0 rfl) ?_
    refine g_get cx hw inX8 (ci := 7) rfl 5 (by decide) rfl (v := .int (μ2.1 30 5)) shx_30 rfl fl_X8_41 dX8_pair_27 ?_
    refine lv_lload_n hx hb dX8_pair_30 rfl (lv_at hl 2 rfl) ?_
    refine g_last cx hw shx_32 h dX8_pair_31 (fun μ3 H locs h hw => ?_)
    refine lv_aload_n hx hb dX8_pair_32 rfl (lv_at hl 0 rfl) ?_
    refine g_get cx hw inX8 (ci := 7) rfl 2 (by decide) rfl (v := .ref (ad 33)) shx_30 rfl fl_X8_20 dX8_pair_33 ?_
    refine lv_aload_n hx hb dX8_pair_36 rfl (lv_at hl 0 rfl) ?_
    refine g_get cx hw inX8 (ci := 7) rfl 5 (by decide) rfl (v := .int (μ3.1 30 5)) shx_30 rfl fl_X8_41 dX8_pair_37 ?_
    refine lv_iconst (v := 1) hx hb dX8_pair_40 (by decide) ?_
    refine lv_aload_n hx hb dX8_pair_41 rfl (lv_at hl 0 rfl) ?_
    refine lv_lload_n hx hb dX8_pair_42 rfl (lv_at hl 1 rfl) ?_
    obtain ⟨r5, μ4, gr5, h⟩ := bd_some h
    refine g_callVI (As := [.long a1]) (rest := [.int 1, .int (μ3.1 30 5), .ref (ad 33)]) cx hw hA (t_X8_weightOf l G ad a1 μ3 gr5) shx_30 rfl ml_X8_75 im_X8_weightOf se_X8_weightOf in_X8 co_X8_weightOf rfl hd_X8_weightOf rfl ⟨(Nat.le_of_ble_eq_true rfl), (Nat.le_of_ble_eq_true rfl)⟩ hl.1 rfl (Nat.le_of_ble_eq_true rfl) dX8_pair_43 ⟨rfl, rfl⟩ (fun H locs hw => ?_)
    refine lv_iadd hx hb dX8_pair_46 ?_
    refine lv_aload_n hx hb dX8_pair_47 rfl (lv_at hl 0 rfl) ?_
    refine lv_lload_n hx hb dX8_pair_48 rfl (lv_at hl 2 rfl) ?_
    obtain ⟨r7, μ6, gr7, h⟩ := bd_some h
    refine g_callVI (As := [.long a3]) (rest := [.int ((1 : Int32) + r5), .int (μ3.1 30 5), .ref (ad 33)]) cx hw hA (t_X8_weightOf l G ad a3 μ4 gr7) shx_30 rfl ml_X8_75 im_X8_weightOf se_X8_weightOf in_X8 co_X8_weightOf rfl hd_X8_weightOf rfl ⟨(Nat.le_of_ble_eq_true rfl), (Nat.le_of_ble_eq_true rfl)⟩ hl.1 rfl (Nat.le_of_ble_eq_true rfl) dX8_pair_49 ⟨rfl, rfl⟩ (fun H locs hw => ?_)
    refine lv_iadd hx hb dX8_pair_52 ?_
    refine g_iast cx hw shx_33 h dX8_pair_53 (fun μ8 H locs h hw => ?_)
    refine lv_aload_n hx hb dX8_pair_54 rfl (lv_at hl 0 rfl) ?_
    refine g_get cx hw inX8 (ci := 7) rfl 3 (by decide) rfl (v := .ref (ad 34)) shx_30 rfl fl_X8_24 dX8_pair_55 ?_
    refine lv_aload_n hx hb dX8_pair_58 rfl (lv_at hl 0 rfl) ?_
    refine g_get cx hw inX8 (ci := 7) rfl 5 (by decide) rfl (v := .int (μ8.1 30 5)) shx_30 rfl fl_X8_41 dX8_pair_59 ?_
    refine lv_iconst (v := 1) hx hb dX8_pair_62 (by decide) ?_
    refine lv_aload_n hx hb dX8_pair_63 rfl (lv_at hl 0 rfl) ?_
    refine lv_lload_n hx hb dX8_pair_64 rfl (lv_at hl 1 rfl) ?_
    obtain ⟨r10, μ9, gr10, h⟩ := bd_some h
    refine g_callVI (As := [.long a1]) (rest := [.int 1, .int (μ8.1 30 5), .ref (ad 34)]) cx hw hA (t_X8_deepOf l G ad a1 μ8 gr10) shx_30 rfl ml_X8_79 im_X8_deepOf se_X8_deepOf in_X8 co_X8_deepOf rfl hd_X8_deepOf rfl ⟨(Nat.le_of_ble_eq_true rfl), (Nat.le_of_ble_eq_true rfl)⟩ hl.1 rfl (Nat.le_of_ble_eq_true rfl) dX8_pair_65 ⟨rfl, rfl⟩ (fun H locs hw => ?_)
    refine lv_aload_n hx hb dX8_pair_68 rfl (lv_at hl 0 rfl) ?_
    refine lv_lload_n hx hb dX8_pair_69 rfl (lv_at hl 2 rfl) ?_
    obtain ⟨r12, μ11, gr12, h⟩ := bd_some h
    refine g_callVI (As := [.long a3]) (rest := [.int r10, .int 1, .int (μ8.1 30 5), .ref (ad 34)]) cx hw hA (t_X8_deepOf l G ad a3 μ9 gr12) shx_30 rfl ml_X8_79 im_X8_deepOf se_X8_deepOf in_X8 co_X8_deepOf rfl hd_X8_deepOf rfl ⟨(Nat.le_of_ble_eq_true rfl), (Nat.le_of_ble_eq_true rfl)⟩ hl.1 rfl (Nat.le_of_ble_eq_true rfl) dX8_pair_70 ⟨rfl, rfl⟩ (fun H locs hw => ?_)
    refine r_mmax (v := (imax r10 r12)) cx ml_X8_61 hl.1 (Nat.le_of_ble_eq_true rfl) (Nat.le_of_ble_eq_true rfl) (Nat.le_of_ble_eq_true rfl) (Nat.le_of_ble_eq_true rfl) rfl dX8_pair_73 ?_
    refine lv_iadd hx hb dX8_pair_76 ?_
    refine g_iast cx hw shx_34 h dX8_pair_77 (fun μ13 H locs h hw => ?_)
    refine lv_aload_n hx hb dX8_pair_78 rfl (lv_at hl 0 rfl) ?_
    refine lv_dup hx hb dX8_pair_79 rfl ?_
    refine g_get cx hw inX8 (ci := 7) rfl 5 (by decide) rfl (v := .int (μ13.1 30 5)) shx_30 rfl fl_X8_41 dX8_pair_80 ?_
    refine lv_iconst (v := 1) hx hb dX8_pair_83 (by decide) ?_
    refine lv_iadd hx hb dX8_pair_84 ?_
    refine g_put cx hw inX8 (ci := 7) rfl tyX8_ok nmX8 5 (by decide) rfl rfl rfl rfl shx_30 h fl_X8_41 dX8_pair_85 (fun μ14 H locs h hw => ?_)
    refine lv_iconst (v := 2) hx hb dX8_pair_88 (by decide) ?_
    refine lv_aload_n hx hb dX8_pair_89 rfl (lv_at hl 0 rfl) ?_
    refine g_get cx hw inX8 (ci := 7) rfl 5 (by decide) rfl (v := .int (μ14.1 30 5)) shx_30 rfl fl_X8_41 dX8_pair_90 ?_
    refine lv_iconst (v := 1) hx hb dX8_pair_93 (by decide) ?_
    refine lv_isub hx hb dX8_pair_94 ?_
    refine s_callL (As := [.int 2, .int ((μ14.1 30 5) - (1 : Int32))]) (rest := []) cx hw hA (t_X0_make l G (2 : Int32) ((μ14.1 30 5) - (1 : Int32))) ml_X8_82 st_X0_make in_X0 co_X0_make hd_X0_make rfl ⟨(Nat.le_of_ble_eq_true rfl), (Nat.le_of_ble_eq_true rfl)⟩ hl.1 rfl (Nat.le_of_ble_eq_true rfl) dX8_pair_95 rfl (fun H locs hw => ?_)
    exact g_lret cx hr hlk hw h dX8_pair_98
  · rw [if_neg c1] at h
    refine lv_lconst (v := 0) hx hb dX8_pair_10 (by decide) ?_
    exact g_lret cx hr hlk hw h dX8_pair_11

theorem p_X8_build_b148_ex : ∃ f : Nat → Nat → Int32 → Int32 → Int32 → Mem → Option (Int32 × Mem), (∀ (a3 : Nat) (a4 : Int32) (a6 : Int32) (a7 : Int32) (μ : Mem), f  0 a3 a4 a6 a7 μ = none) ∧ (∀ (n : Nat) (a3 : Nat) (a4 : Int32) (a6 : Int32) (a7 : Int32) (μ : Mem), f  (n + 1) a3 a4 a6 a7 μ = (if a6 ≤ a7 then some (a6, μ) else gd (inb ((a4 - (1 : Int32)) - a7) 264) (gd (inb a7 ((sh 0 a3).2)) (bv (sL μ a3 a7.toNatClampNeg (μ.2.1 35 ((a4 - (1 : Int32)) - a7).toNatClampNeg)) (fun μ7 => bv (a7 + 1) (fun v8 => f n a3 a4 a6 v8 μ7)))))) := ⟨fun n => Nat.rec (fun (a3 : Nat) (a4 : Int32) (a6 : Int32) (a7 : Int32) (μ : Mem) => none) (fun _ ih => fun (a3 : Nat) (a4 : Int32) (a6 : Int32) (a7 : Int32) (μ : Mem) => (if a6 ≤ a7 then some (a6, μ) else gd (inb ((a4 - (1 : Int32)) - a7) 264) (gd (inb a7 ((sh 0 a3).2)) (bv (sL μ a3 a7.toNatClampNeg (μ.2.1 35 ((a4 - (1 : Int32)) - a7).toNatClampNeg)) (fun μ7 => bv (a7 + 1) (fun v8 => ih a3 a4 a6 v8 μ7)))))) n, fun  _ _ _ _ _ => rfl, fun  _ _ _ _ _ _ => rfl⟩
noncomputable def p_X8_build_b148 : Nat → Nat → Int32 → Int32 → Int32 → Mem → Option (Int32 × Mem) := Classical.choose p_X8_build_b148_ex
theorem p_X8_build_b148_z (a3 : Nat) (a4 : Int32) (a6 : Int32) (a7 : Int32) (μ : Mem) : p_X8_build_b148  0 a3 a4 a6 a7 μ = none := (Classical.choose_spec p_X8_build_b148_ex).1  a3 a4 a6 a7 μ
theorem p_X8_build_b148_s (n : Nat) (a3 : Nat) (a4 : Int32) (a6 : Int32) (a7 : Int32) (μ : Mem) : p_X8_build_b148  (n + 1) a3 a4 a6 a7 μ = (if a6 ≤ a7 then some (a6, μ) else gd (inb ((a4 - (1 : Int32)) - a7) 264) (gd (inb a7 ((sh 0 a3).2)) (bv (sL μ a3 a7.toNatClampNeg (μ.2.1 35 ((a4 - (1 : Int32)) - a7).toNatClampNeg)) (fun μ7 => bv (a7 + 1) (fun v8 => p_X8_build_b148  n a3 a4 a6 v8 μ7))))) := (Classical.choose_spec p_X8_build_b148_ex).2  n a3 a4 a6 a7 μ
set_option maxHeartbeats 4000000 in
set_option maxRecDepth 100000 in
theorem t_X8_build_b148 (l : Launch) (G : Gt) (ad : Nat → Nat) (av : List Value) {r : Int32} {μz : Mem} : ∀ (n : Nat) (a3 : Nat) (q3 : (sh 0 a3).1 = 3) (a4 : Int32) (a6 : Int32) (a7 : Int32) (μ : Mem), p_X8_build_b148  n a3 a4 a6 a7 μ = some (r, μz) → Bk l cX8_build 9 RX8 (some .int) ({ frames := 3, cells := 0, slots := 0, locals := 68 } : Room) G av (eI 0 G ad r μz) (wd 0 G ad μ) 148 [(0, .ref (ad 30)), (3, .ref (ad a3)), (4, .int a4), (6, .int a6), (7, .int a7)] [] := by
  intro n
  induction n with
  | zero => intro a3 q3 a4 a6 a7 μ h; rw [p_X8_build_b148_z] at h; cases h
  | succ n ih =>
    intro a3 q3 a4 a6 a7 μ h p e s m below meth c A ls H locs cx hr hlk hA hl hw
    have hx := cx.1
    have hb := cx.2.1
    rw [p_X8_build_b148_s] at h
    refine lv_iload hx hb dX8_build_148 (lv_at hl 4 rfl) ?_
    refine lv_iload hx hb dX8_build_150 (lv_at hl 3 rfl) ?_
    refine lv_icmp_ge (tgt := 177) hx hb dX8_build_152 (by decide) (fun c6 => ?_) (fun c6 => ?_)
    · rw [if_pos c6] at h
      refine lv_iload hx hb dX8_build_177 (lv_at hl 3 rfl) ?_
      exact g_iret cx hr hlk hw h dX8_build_179
    · rw [if_neg c6] at h
      refine lv_aload_n hx hb dX8_build_155 rfl (lv_at hl 1 rfl) ?_
      refine lv_iload hx hb dX8_build_156 (lv_at hl 4 rfl) ?_
      refine lv_aload_n hx hb dX8_build_158 rfl (lv_at hl 0 rfl) ?_
      refine g_get cx hw inX8 (ci := 7) rfl 4 (by decide) rfl (v := .ref (ad 35)) shx_30 rfl fl_X8_29 dX8_build_159 ?_
      refine lv_iload hx hb dX8_build_162 (lv_at hl 2 rfl) ?_
      refine lv_iconst (v := 1) hx hb dX8_build_164 (by decide) ?_
      refine lv_isub hx hb dX8_build_165 ?_
      refine lv_iload hx hb dX8_build_166 (lv_at hl 4 rfl) ?_
      refine lv_isub hx hb dX8_build_168 ?_
      refine g_lald cx hw shx_35 h dX8_build_169 (fun h => ?_)
      refine g_last cx hw (sh_k q3) h dX8_build_170 (fun μ7 H locs h hw => ?_)
      obtain ⟨v8, ev8, h⟩ := bv_ex h
      refine lv_iinc (v := v8) (lv' := [(7, .int v8), (0, .ref (ad 30)), (3, .ref (ad a3)), (4, .int a4), (6, .int a6)]) hx hb dX8_build_171 hl (k := 4) rfl (by rw [ev8]; rfl) (by decide) rfl (fun ls hl => ?_)
      refine lv_goto (tgt := 148) hx hb dX8_build_174 (by decide) ?_
      exact ih a3 (sh_f (sh_k q3)) a4 a6 v8 μ7 h p e s m below meth c A ls H locs cx hr hlk hA (lv_sub hl [1, 2, 3, 4, 0] rfl) hw
theorem p_X8_build_b130_ex : ∃ f : (Nat → Nat → Nat → Int32 → Int32 → Int32 → Mem → Option (Int32 × Mem)) → Nat → Nat → Nat → Int32 → Int32 → Int32 → Mem → Option (Int32 × Mem), ∀ (K17 : Nat → Nat → Nat → Int32 → Int32 → Int32 → Mem → Option (Int32 × Mem)) (a1 : Nat) (a2 : Nat) (a3 : Nat) (a4 : Int32) (a5 : Int32) (a6 : Int32) (μ : Mem), f K17 a1 a2 a3 a4 a5 a6 μ = bv (a6 + (-1)) (fun v13 => K17 a1 a2 a3 a4 a5 v13 μ) := ⟨fun (K17 : Nat → Nat → Nat → Int32 → Int32 → Int32 → Mem → Option (Int32 × Mem)) (a1 : Nat) (a2 : Nat) (a3 : Nat) (a4 : Int32) (a5 : Int32) (a6 : Int32) (μ : Mem) => bv (a6 + (-1)) (fun v13 => K17 a1 a2 a3 a4 a5 v13 μ), fun _ _ _ _ _ _ _ _ => rfl⟩
noncomputable def p_X8_build_b130 : (Nat → Nat → Nat → Int32 → Int32 → Int32 → Mem → Option (Int32 × Mem)) → Nat → Nat → Nat → Int32 → Int32 → Int32 → Mem → Option (Int32 × Mem) := Classical.choose p_X8_build_b130_ex
theorem p_X8_build_b130_eq (K17 : Nat → Nat → Nat → Int32 → Int32 → Int32 → Mem → Option (Int32 × Mem)) (a1 : Nat) (a2 : Nat) (a3 : Nat) (a4 : Int32) (a5 : Int32) (a6 : Int32) (μ : Mem) : p_X8_build_b130 K17 a1 a2 a3 a4 a5 a6 μ = bv (a6 + (-1)) (fun v13 => K17 a1 a2 a3 a4 a5 v13 μ) := Classical.choose_spec p_X8_build_b130_ex K17 a1 a2 a3 a4 a5 a6 μ
set_option maxHeartbeats 4000000 in
set_option maxRecDepth 100000 in
theorem t_X8_build_b130 (l : Launch) (G : Gt) (ad : Nat → Nat) (av : List Value) {r : Int32} {μz : Mem} (K17 : Nat → Nat → Nat → Int32 → Int32 → Int32 → Mem → Option (Int32 × Mem)) (hK17 : ∀ (z1 : Nat) (w1 : sh 0 z1 = (0, 1)) (z2 : Nat) (w2 : (sh 0 z2).1 = 3) (z3 : Nat) (w3 : (sh 0 z3).1 = 3) (z4 : Int32) (z5 : Int32) (z6 : Int32) (μ1 : Mem), K17 z1 z2 z3 z4 z5 z6 μ1 = some (r, μz) → Bk l cX8_build 9 RX8 (some .int) ({ frames := 3, cells := 0, slots := 0, locals := 68 } : Room) G av (eI 0 G ad r μz) (wd 0 G ad μ1) 17 [(0, .ref (ad 30)), (1, .ref (ad z1)), (2, .ref (ad z2)), (3, .ref (ad z3)), (4, .int z4), (5, .int z5), (6, .int z6)] []) (a1 : Nat) (q1 : sh 0 a1 = (0, 1)) (a2 : Nat) (q2 : (sh 0 a2).1 = 3) (a3 : Nat) (q3 : (sh 0 a3).1 = 3) (a4 : Int32) (a5 : Int32) (a6 : Int32) (μ : Mem) (h : p_X8_build_b130 K17 a1 a2 a3 a4 a5 a6 μ = some (r, μz)) : Bk l cX8_build 9 RX8 (some .int) ({ frames := 3, cells := 0, slots := 0, locals := 68 } : Room) G av (eI 0 G ad r μz) (wd 0 G ad μ) 130 [(0, .ref (ad 30)), (1, .ref (ad a1)), (2, .ref (ad a2)), (3, .ref (ad a3)), (4, .int a4), (5, .int a5), (6, .int a6)] [] := by
  intro p e s m below meth c A ls H locs cx hr hlk hA hl hw
  have hx := cx.1
  have hb := cx.2.1
  rw [p_X8_build_b130_eq] at h
  obtain ⟨v13, ev13, h⟩ := bv_ex h
  refine lv_iinc (v := v13) (lv' := [(6, .int v13), (0, .ref (ad 30)), (1, .ref (ad a1)), (2, .ref (ad a2)), (3, .ref (ad a3)), (4, .int a4), (5, .int a5)]) hx hb dX8_build_130 hl (k := 6) rfl (by rw [ev13]; rfl) (by decide) rfl (fun ls hl => ?_)
  refine lv_goto (tgt := 17) hx hb dX8_build_133 (by decide) ?_
  exact hK17 a1 q1 a2 (sh_f (sh_k q2)) a3 (sh_f (sh_k q3)) a4 a5 v13 μ h p e s m below meth c A ls H locs cx hr hlk hA (lv_sub hl [1, 2, 3, 4, 5, 6, 0] rfl) hw
theorem p_X8_build_b108_ex : ∃ f : (Nat → Nat → Nat → Int32 → Int32 → Int32 → Mem → Option (Int32 × Mem)) → Nat → Nat → Nat → Int32 → Int32 → Int32 → Int64 → Mem → Option (Int32 × Mem), ∀ (K17 : Nat → Nat → Nat → Int32 → Int32 → Int32 → Mem → Option (Int32 × Mem)) (a1 : Nat) (a2 : Nat) (a3 : Nat) (a4 : Int32) (a5 : Int32) (a6 : Int32) (a7 : Int64) (μ : Mem), f K17 a1 a2 a3 a4 a5 a6 a7 μ = (if (264 : Int32) ≤ a4 then p_X8_build_b130 K17 a1 a2 a3 a4 a5 a6 μ else gd (inb a4 264) (bv (sL μ 35 a4.toNatClampNeg a7) (fun μ14 => bv (a4 + 1) (fun v15 => p_X8_build_b130 K17 a1 a2 a3 v15 a5 a6 μ14)))) := ⟨fun (K17 : Nat → Nat → Nat → Int32 → Int32 → Int32 → Mem → Option (Int32 × Mem)) (a1 : Nat) (a2 : Nat) (a3 : Nat) (a4 : Int32) (a5 : Int32) (a6 : Int32) (a7 : Int64) (μ : Mem) => (if (264 : Int32) ≤ a4 then p_X8_build_b130 K17 a1 a2 a3 a4 a5 a6 μ else gd (inb a4 264) (bv (sL μ 35 a4.toNatClampNeg a7) (fun μ14 => bv (a4 + 1) (fun v15 => p_X8_build_b130 K17 a1 a2 a3 v15 a5 a6 μ14)))), fun _ _ _ _ _ _ _ _ _ => rfl⟩
noncomputable def p_X8_build_b108 : (Nat → Nat → Nat → Int32 → Int32 → Int32 → Mem → Option (Int32 × Mem)) → Nat → Nat → Nat → Int32 → Int32 → Int32 → Int64 → Mem → Option (Int32 × Mem) := Classical.choose p_X8_build_b108_ex
theorem p_X8_build_b108_eq (K17 : Nat → Nat → Nat → Int32 → Int32 → Int32 → Mem → Option (Int32 × Mem)) (a1 : Nat) (a2 : Nat) (a3 : Nat) (a4 : Int32) (a5 : Int32) (a6 : Int32) (a7 : Int64) (μ : Mem) : p_X8_build_b108 K17 a1 a2 a3 a4 a5 a6 a7 μ = (if (264 : Int32) ≤ a4 then p_X8_build_b130 K17 a1 a2 a3 a4 a5 a6 μ else gd (inb a4 264) (bv (sL μ 35 a4.toNatClampNeg a7) (fun μ14 => bv (a4 + 1) (fun v15 => p_X8_build_b130 K17 a1 a2 a3 v15 a5 a6 μ14)))) := Classical.choose_spec p_X8_build_b108_ex K17 a1 a2 a3 a4 a5 a6 a7 μ
set_option maxHeartbeats 4000000 in
set_option maxRecDepth 100000 in
theorem t_X8_build_b108 (l : Launch) (G : Gt) (ad : Nat → Nat) (av : List Value) {r : Int32} {μz : Mem} (K17 : Nat → Nat → Nat → Int32 → Int32 → Int32 → Mem → Option (Int32 × Mem)) (hK17 : ∀ (z1 : Nat) (w1 : sh 0 z1 = (0, 1)) (z2 : Nat) (w2 : (sh 0 z2).1 = 3) (z3 : Nat) (w3 : (sh 0 z3).1 = 3) (z4 : Int32) (z5 : Int32) (z6 : Int32) (μ1 : Mem), K17 z1 z2 z3 z4 z5 z6 μ1 = some (r, μz) → Bk l cX8_build 9 RX8 (some .int) ({ frames := 3, cells := 0, slots := 0, locals := 68 } : Room) G av (eI 0 G ad r μz) (wd 0 G ad μ1) 17 [(0, .ref (ad 30)), (1, .ref (ad z1)), (2, .ref (ad z2)), (3, .ref (ad z3)), (4, .int z4), (5, .int z5), (6, .int z6)] []) (a1 : Nat) (q1 : sh 0 a1 = (0, 1)) (a2 : Nat) (q2 : (sh 0 a2).1 = 3) (a3 : Nat) (q3 : (sh 0 a3).1 = 3) (a4 : Int32) (a5 : Int32) (a6 : Int32) (a7 : Int64) (μ : Mem) (h : p_X8_build_b108 K17 a1 a2 a3 a4 a5 a6 a7 μ = some (r, μz)) : Bk l cX8_build 9 RX8 (some .int) ({ frames := 3, cells := 0, slots := 0, locals := 68 } : Room) G av (eI 0 G ad r μz) (wd 0 G ad μ) 108 [(0, .ref (ad 30)), (1, .ref (ad a1)), (2, .ref (ad a2)), (3, .ref (ad a3)), (4, .int a4), (5, .int a5), (6, .int a6), (7, .long a7)] [] := by
  intro p e s m below meth c A ls H locs cx hr hlk hA hl hw
  have hx := cx.1
  have hb := cx.2.1
  rw [p_X8_build_b108_eq] at h
  refine lv_iload hx hb dX8_build_108 (lv_at hl 4 rfl) ?_
  refine lv_aload_n hx hb dX8_build_110 rfl (lv_at hl 0 rfl) ?_
  refine g_get cx hw inX8 (ci := 7) rfl 4 (by decide) rfl (v := .ref (ad 35)) shx_30 rfl fl_X8_29 dX8_build_111 ?_
  refine g_alen3 cx hw shx_35 (v := 264) (by decide +kernel) dX8_build_114 ?_
  refine lv_icmp_ge (tgt := 130) hx hb dX8_build_115 (by decide) (fun c12 => ?_) (fun c12 => ?_)
  · rw [if_pos c12] at h
    exact t_X8_build_b130 l G ad av K17 hK17 a1 q1 a2 (sh_f (sh_k q2)) a3 (sh_f (sh_k q3)) a4 a5 a6 μ h p e s m below meth c A ls H locs cx hr hlk hA (lv_sub hl [0, 1, 2, 3, 4, 5, 6] rfl) hw
  · rw [if_neg c12] at h
    refine lv_aload_n hx hb dX8_build_118 rfl (lv_at hl 0 rfl) ?_
    refine g_get cx hw inX8 (ci := 7) rfl 4 (by decide) rfl (v := .ref (ad 35)) shx_30 rfl fl_X8_29 dX8_build_119 ?_
    refine lv_iload hx hb dX8_build_122 (lv_at hl 4 rfl) ?_
    refine lv_lload hx hb dX8_build_124 (lv_at hl 7 rfl) ?_
    refine g_last cx hw shx_35 h dX8_build_126 (fun μ14 H locs h hw => ?_)
    obtain ⟨v15, ev15, h⟩ := bv_ex h
    refine lv_iinc (v := v15) (lv' := [(4, .int v15), (0, .ref (ad 30)), (1, .ref (ad a1)), (2, .ref (ad a2)), (3, .ref (ad a3)), (5, .int a5), (6, .int a6), (7, .long a7)]) hx hb dX8_build_127 hl (k := 4) rfl (by rw [ev15]; rfl) (by decide) rfl (fun ls hl => ?_)
    exact t_X8_build_b130 l G ad av K17 hK17 a1 q1 a2 (sh_f (sh_k q2)) a3 (sh_f (sh_k q3)) v15 a5 a6 μ14 h p e s m below meth c A ls H locs cx hr hlk hA (lv_sub hl [1, 2, 3, 4, 0, 5, 6] rfl) hw
theorem p_X8_build_b63_ex : ∃ f : (Nat → Nat → Nat → Int32 → Int32 → Int32 → Mem → Option (Int32 × Mem)) → Nat → Nat → Nat → Int32 → Int32 → Int32 → Int64 → Mem → Option (Int32 × Mem), ∀ (K17 : Nat → Nat → Nat → Int32 → Int32 → Int32 → Mem → Option (Int32 × Mem)) (a1 : Nat) (a2 : Nat) (a3 : Nat) (a4 : Int32) (a5 : Int32) (a6 : Int32) (k0 : Int64) (μ : Mem), f K17 a1 a2 a3 a4 a5 a6 k0 μ = p_X8_build_b108 K17 a1 a2 a3 a4 a5 a6 k0 μ := ⟨fun (K17 : Nat → Nat → Nat → Int32 → Int32 → Int32 → Mem → Option (Int32 × Mem)) (a1 : Nat) (a2 : Nat) (a3 : Nat) (a4 : Int32) (a5 : Int32) (a6 : Int32) (k0 : Int64) (μ : Mem) => p_X8_build_b108 K17 a1 a2 a3 a4 a5 a6 k0 μ, fun _ _ _ _ _ _ _ _ _ => rfl⟩
noncomputable def p_X8_build_b63 : (Nat → Nat → Nat → Int32 → Int32 → Int32 → Mem → Option (Int32 × Mem)) → Nat → Nat → Nat → Int32 → Int32 → Int32 → Int64 → Mem → Option (Int32 × Mem) := Classical.choose p_X8_build_b63_ex
theorem p_X8_build_b63_eq (K17 : Nat → Nat → Nat → Int32 → Int32 → Int32 → Mem → Option (Int32 × Mem)) (a1 : Nat) (a2 : Nat) (a3 : Nat) (a4 : Int32) (a5 : Int32) (a6 : Int32) (k0 : Int64) (μ : Mem) : p_X8_build_b63 K17 a1 a2 a3 a4 a5 a6 k0 μ = p_X8_build_b108 K17 a1 a2 a3 a4 a5 a6 k0 μ := Classical.choose_spec p_X8_build_b63_ex K17 a1 a2 a3 a4 a5 a6 k0 μ
set_option maxHeartbeats 4000000 in
set_option maxRecDepth 100000 in
theorem t_X8_build_b63 (l : Launch) (G : Gt) (ad : Nat → Nat) (av : List Value) {r : Int32} {μz : Mem} (K17 : Nat → Nat → Nat → Int32 → Int32 → Int32 → Mem → Option (Int32 × Mem)) (hK17 : ∀ (z1 : Nat) (w1 : sh 0 z1 = (0, 1)) (z2 : Nat) (w2 : (sh 0 z2).1 = 3) (z3 : Nat) (w3 : (sh 0 z3).1 = 3) (z4 : Int32) (z5 : Int32) (z6 : Int32) (μ1 : Mem), K17 z1 z2 z3 z4 z5 z6 μ1 = some (r, μz) → Bk l cX8_build 9 RX8 (some .int) ({ frames := 3, cells := 0, slots := 0, locals := 68 } : Room) G av (eI 0 G ad r μz) (wd 0 G ad μ1) 17 [(0, .ref (ad 30)), (1, .ref (ad z1)), (2, .ref (ad z2)), (3, .ref (ad z3)), (4, .int z4), (5, .int z5), (6, .int z6)] []) (a1 : Nat) (q1 : sh 0 a1 = (0, 1)) (a2 : Nat) (q2 : (sh 0 a2).1 = 3) (a3 : Nat) (q3 : (sh 0 a3).1 = 3) (a4 : Int32) (a5 : Int32) (a6 : Int32) (k0 : Int64) (μ : Mem) (h : p_X8_build_b63 K17 a1 a2 a3 a4 a5 a6 k0 μ = some (r, μz)) : Bk l cX8_build 9 RX8 (some .int) ({ frames := 3, cells := 0, slots := 0, locals := 68 } : Room) G av (eI 0 G ad r μz) (wd 0 G ad μ) 63 [(0, .ref (ad 30)), (1, .ref (ad a1)), (2, .ref (ad a2)), (3, .ref (ad a3)), (4, .int a4), (5, .int a5), (6, .int a6)] [.long k0] := by
  intro p e s m below meth c A ls H locs cx hr hlk hA hl hw
  have hx := cx.1
  have hb := cx.2.1
  rw [p_X8_build_b63_eq] at h
  refine lv_lstore (lv' := [(7, .long k0), (0, .ref (ad 30)), (1, .ref (ad a1)), (2, .ref (ad a2)), (3, .ref (ad a3)), (4, .int a4), (5, .int a5), (6, .int a6)]) hx hb dX8_build_63 hl (by decide) rfl (fun ls hl => ?_)
  refine lv_goto (tgt := 108) hx hb dX8_build_65 (by decide) ?_
  exact t_X8_build_b108 l G ad av K17 hK17 a1 q1 a2 (sh_f (sh_k q2)) a3 (sh_f (sh_k q3)) a4 a5 a6 k0 μ h p e s m below meth c A ls H locs cx hr hlk hA (lv_sub hl [1, 2, 3, 4, 5, 6, 7, 0] rfl) hw
theorem p_X8_build_b62_ex : ∃ f : (Nat → Nat → Nat → Int32 → Int32 → Int32 → Mem → Option (Int32 × Mem)) → Nat → Nat → Nat → Int32 → Int32 → Int32 → Mem → Option (Int32 × Mem), ∀ (K17 : Nat → Nat → Nat → Int32 → Int32 → Int32 → Mem → Option (Int32 × Mem)) (a1 : Nat) (a2 : Nat) (a3 : Nat) (a4 : Int32) (a5 : Int32) (a6 : Int32) (μ : Mem), f K17 a1 a2 a3 a4 a5 a6 μ = p_X8_build_b63 K17 a1 a2 a3 a4 a5 a6 (0 : Int64) μ := ⟨fun (K17 : Nat → Nat → Nat → Int32 → Int32 → Int32 → Mem → Option (Int32 × Mem)) (a1 : Nat) (a2 : Nat) (a3 : Nat) (a4 : Int32) (a5 : Int32) (a6 : Int32) (μ : Mem) => p_X8_build_b63 K17 a1 a2 a3 a4 a5 a6 (0 : Int64) μ, fun _ _ _ _ _ _ _ _ => rfl⟩
noncomputable def p_X8_build_b62 : (Nat → Nat → Nat → Int32 → Int32 → Int32 → Mem → Option (Int32 × Mem)) → Nat → Nat → Nat → Int32 → Int32 → Int32 → Mem → Option (Int32 × Mem) := Classical.choose p_X8_build_b62_ex
theorem p_X8_build_b62_eq (K17 : Nat → Nat → Nat → Int32 → Int32 → Int32 → Mem → Option (Int32 × Mem)) (a1 : Nat) (a2 : Nat) (a3 : Nat) (a4 : Int32) (a5 : Int32) (a6 : Int32) (μ : Mem) : p_X8_build_b62 K17 a1 a2 a3 a4 a5 a6 μ = p_X8_build_b63 K17 a1 a2 a3 a4 a5 a6 (0 : Int64) μ := Classical.choose_spec p_X8_build_b62_ex K17 a1 a2 a3 a4 a5 a6 μ
set_option maxHeartbeats 4000000 in
set_option maxRecDepth 100000 in
theorem t_X8_build_b62 (l : Launch) (G : Gt) (ad : Nat → Nat) (av : List Value) {r : Int32} {μz : Mem} (K17 : Nat → Nat → Nat → Int32 → Int32 → Int32 → Mem → Option (Int32 × Mem)) (hK17 : ∀ (z1 : Nat) (w1 : sh 0 z1 = (0, 1)) (z2 : Nat) (w2 : (sh 0 z2).1 = 3) (z3 : Nat) (w3 : (sh 0 z3).1 = 3) (z4 : Int32) (z5 : Int32) (z6 : Int32) (μ1 : Mem), K17 z1 z2 z3 z4 z5 z6 μ1 = some (r, μz) → Bk l cX8_build 9 RX8 (some .int) ({ frames := 3, cells := 0, slots := 0, locals := 68 } : Room) G av (eI 0 G ad r μz) (wd 0 G ad μ1) 17 [(0, .ref (ad 30)), (1, .ref (ad z1)), (2, .ref (ad z2)), (3, .ref (ad z3)), (4, .int z4), (5, .int z5), (6, .int z6)] []) (a1 : Nat) (q1 : sh 0 a1 = (0, 1)) (a2 : Nat) (q2 : (sh 0 a2).1 = 3) (a3 : Nat) (q3 : (sh 0 a3).1 = 3) (a4 : Int32) (a5 : Int32) (a6 : Int32) (μ : Mem) (h : p_X8_build_b62 K17 a1 a2 a3 a4 a5 a6 μ = some (r, μz)) : Bk l cX8_build 9 RX8 (some .int) ({ frames := 3, cells := 0, slots := 0, locals := 68 } : Room) G av (eI 0 G ad r μz) (wd 0 G ad μ) 62 [(0, .ref (ad 30)), (1, .ref (ad a1)), (2, .ref (ad a2)), (3, .ref (ad a3)), (4, .int a4), (5, .int a5), (6, .int a6)] [] := by
  intro p e s m below meth c A ls H locs cx hr hlk hA hl hw
  have hx := cx.1
  have hb := cx.2.1
  rw [p_X8_build_b62_eq] at h
  refine lv_lconst (v := 0) hx hb dX8_build_62 (by decide) ?_
  exact t_X8_build_b63 l G ad av K17 hK17 a1 q1 a2 (sh_f (sh_k q2)) a3 (sh_f (sh_k q3)) a4 a5 a6 (0 : Int64) μ h p e s m below meth c A ls H locs cx hr hlk hA (lv_sub hl [0, 1, 2, 3, 4, 5, 6] rfl) hw
theorem p_X8_build_b17_ex : ∃ f : Nat → Nat → Nat → Nat → Int32 → Int32 → Int32 → Mem → Option (Int32 × Mem), (∀ (a1 : Nat) (a2 : Nat) (a3 : Nat) (a4 : Int32) (a5 : Int32) (a6 : Int32) (μ : Mem), f  0 a1 a2 a3 a4 a5 a6 μ = none) ∧ (∀ (n : Nat) (a1 : Nat) (a2 : Nat) (a3 : Nat) (a4 : Int32) (a5 : Int32) (a6 : Int32) (μ : Mem), f  (n + 1) a1 a2 a3 a4 a5 a6 μ = (if a6 < (0 : Int32) then bv (imin a4 (Int32.ofNat ((sh 0 a3).2))) (fun v5 => p_X8_build_b148  FUEL a3 a4 v5 (0 : Int32) μ) else gd (inb a6 ((sh 0 (a1 + 1)).2)) (bv (μ.2.1 (a1 + 1) a6.toNatClampNeg) (fun v9 => (if (s_X0_kind v9) = (4 : Int32) then bv (a5 + (-1)) (fun v20 => (if v20 < (0 : Int32) then p_X8_build_b62 (f n) a1 a2 a3 a4 v20 a6 μ else (if (Int32.ofNat ((sh 0 a2).2)) ≤ v20 then p_X8_build_b62 (f n) a1 a2 a3 a4 v20 a6 μ else gd (inb v20 ((sh 0 a2).2)) (p_X8_build_b63 (f n) a1 a2 a3 a4 v20 a6 (μ.2.1 a2 v20.toNatClampNeg) μ)))) else (if (s_X0_kind v9) = (2 : Int32) then (if a4 < (2 : Int32) then p_X8_build_b108 (f n) a1 a2 a3 a4 a5 a6 v9 μ else bv (a4 + (-2)) (fun v17 => gd (inb (v17 + (1 : Int32)) 264) (gd (inb v17 264) (bd (p_X8_pair (μ.2.1 35 (v17 + (1 : Int32)).toNatClampNeg) (μ.2.1 35 v17.toNatClampNeg) μ) (fun r19 μ18 => p_X8_build_b108 (f n) a1 a2 a3 v17 a5 a6 r19 μ18))))) else p_X8_build_b108 (f n) a1 a2 a3 a4 a5 a6 v9 μ)))))) := ⟨fun n => Nat.rec (fun (a1 : Nat) (a2 : Nat) (a3 : Nat) (a4 : Int32) (a5 : Int32) (a6 : Int32) (μ : Mem) => none) (fun _ ih => fun (a1 : Nat) (a2 : Nat) (a3 : Nat) (a4 : Int32) (a5 : Int32) (a6 : Int32) (μ : Mem) => (if a6 < (0 : Int32) then bv (imin a4 (Int32.ofNat ((sh 0 a3).2))) (fun v5 => p_X8_build_b148  FUEL a3 a4 v5 (0 : Int32) μ) else gd (inb a6 ((sh 0 (a1 + 1)).2)) (bv (μ.2.1 (a1 + 1) a6.toNatClampNeg) (fun v9 => (if (s_X0_kind v9) = (4 : Int32) then bv (a5 + (-1)) (fun v20 => (if v20 < (0 : Int32) then p_X8_build_b62 (ih) a1 a2 a3 a4 v20 a6 μ else (if (Int32.ofNat ((sh 0 a2).2)) ≤ v20 then p_X8_build_b62 (ih) a1 a2 a3 a4 v20 a6 μ else gd (inb v20 ((sh 0 a2).2)) (p_X8_build_b63 (ih) a1 a2 a3 a4 v20 a6 (μ.2.1 a2 v20.toNatClampNeg) μ)))) else (if (s_X0_kind v9) = (2 : Int32) then (if a4 < (2 : Int32) then p_X8_build_b108 (ih) a1 a2 a3 a4 a5 a6 v9 μ else bv (a4 + (-2)) (fun v17 => gd (inb (v17 + (1 : Int32)) 264) (gd (inb v17 264) (bd (p_X8_pair (μ.2.1 35 (v17 + (1 : Int32)).toNatClampNeg) (μ.2.1 35 v17.toNatClampNeg) μ) (fun r19 μ18 => p_X8_build_b108 (ih) a1 a2 a3 v17 a5 a6 r19 μ18))))) else p_X8_build_b108 (ih) a1 a2 a3 a4 a5 a6 v9 μ)))))) n, fun  _ _ _ _ _ _ _ => rfl, fun  _ _ _ _ _ _ _ _ => rfl⟩
noncomputable def p_X8_build_b17 : Nat → Nat → Nat → Nat → Int32 → Int32 → Int32 → Mem → Option (Int32 × Mem) := Classical.choose p_X8_build_b17_ex
theorem p_X8_build_b17_z (a1 : Nat) (a2 : Nat) (a3 : Nat) (a4 : Int32) (a5 : Int32) (a6 : Int32) (μ : Mem) : p_X8_build_b17  0 a1 a2 a3 a4 a5 a6 μ = none := (Classical.choose_spec p_X8_build_b17_ex).1  a1 a2 a3 a4 a5 a6 μ
theorem p_X8_build_b17_s (n : Nat) (a1 : Nat) (a2 : Nat) (a3 : Nat) (a4 : Int32) (a5 : Int32) (a6 : Int32) (μ : Mem) : p_X8_build_b17  (n + 1) a1 a2 a3 a4 a5 a6 μ = (if a6 < (0 : Int32) then bv (imin a4 (Int32.ofNat ((sh 0 a3).2))) (fun v5 => p_X8_build_b148  FUEL a3 a4 v5 (0 : Int32) μ) else gd (inb a6 ((sh 0 (a1 + 1)).2)) (bv (μ.2.1 (a1 + 1) a6.toNatClampNeg) (fun v9 => (if (s_X0_kind v9) = (4 : Int32) then bv (a5 + (-1)) (fun v20 => (if v20 < (0 : Int32) then p_X8_build_b62 (p_X8_build_b17  n) a1 a2 a3 a4 v20 a6 μ else (if (Int32.ofNat ((sh 0 a2).2)) ≤ v20 then p_X8_build_b62 (p_X8_build_b17  n) a1 a2 a3 a4 v20 a6 μ else gd (inb v20 ((sh 0 a2).2)) (p_X8_build_b63 (p_X8_build_b17  n) a1 a2 a3 a4 v20 a6 (μ.2.1 a2 v20.toNatClampNeg) μ)))) else (if (s_X0_kind v9) = (2 : Int32) then (if a4 < (2 : Int32) then p_X8_build_b108 (p_X8_build_b17  n) a1 a2 a3 a4 a5 a6 v9 μ else bv (a4 + (-2)) (fun v17 => gd (inb (v17 + (1 : Int32)) 264) (gd (inb v17 264) (bd (p_X8_pair (μ.2.1 35 (v17 + (1 : Int32)).toNatClampNeg) (μ.2.1 35 v17.toNatClampNeg) μ) (fun r19 μ18 => p_X8_build_b108 (p_X8_build_b17  n) a1 a2 a3 v17 a5 a6 r19 μ18))))) else p_X8_build_b108 (p_X8_build_b17  n) a1 a2 a3 a4 a5 a6 v9 μ))))) := (Classical.choose_spec p_X8_build_b17_ex).2  n a1 a2 a3 a4 a5 a6 μ
set_option maxHeartbeats 4000000 in
set_option maxRecDepth 100000 in
theorem t_X8_build_b17 (l : Launch) (G : Gt) (ad : Nat → Nat) (av : List Value) {r : Int32} {μz : Mem} : ∀ (n : Nat) (a1 : Nat) (q1 : sh 0 a1 = (0, 1)) (a2 : Nat) (q2 : (sh 0 a2).1 = 3) (a3 : Nat) (q3 : (sh 0 a3).1 = 3) (a4 : Int32) (a5 : Int32) (a6 : Int32) (μ : Mem), p_X8_build_b17  n a1 a2 a3 a4 a5 a6 μ = some (r, μz) → Bk l cX8_build 9 RX8 (some .int) ({ frames := 3, cells := 0, slots := 0, locals := 68 } : Room) G av (eI 0 G ad r μz) (wd 0 G ad μ) 17 [(0, .ref (ad 30)), (1, .ref (ad a1)), (2, .ref (ad a2)), (3, .ref (ad a3)), (4, .int a4), (5, .int a5), (6, .int a6)] [] := by
  intro n
  induction n with
  | zero => intro a1 q1 a2 q2 a3 q3 a4 a5 a6 μ h; rw [p_X8_build_b17_z] at h; cases h
  | succ n ih =>
    intro a1 q1 a2 q2 a3 q3 a4 a5 a6 μ h p e s m below meth c A ls H locs cx hr hlk hA hl hw
    have hx := cx.1
    have hb := cx.2.1
    rw [p_X8_build_b17_s] at h
    refine lv_iload hx hb dX8_build_17 (lv_at hl 6 rfl) ?_
    refine lv_if_lt (tgt := 136) hx hb dX8_build_19 (by decide) (fun c4 => ?_) (fun c4 => ?_)
    · rw [if_pos c4] at h
      refine lv_iload hx hb dX8_build_136 (lv_at hl 4 rfl) ?_
      refine lv_aload_n hx hb dX8_build_138 rfl (lv_at hl 3 rfl) ?_
      refine g_alen3 cx hw (sh_k q3) rfl dX8_build_139 ?_
      refine r_mmin (v := (imin a4 (Int32.ofNat ((sh 0 a3).2)))) cx ml_X8_113 hl.1 (Nat.le_of_ble_eq_true rfl) (Nat.le_of_ble_eq_true rfl) (Nat.le_of_ble_eq_true rfl) (Nat.le_of_ble_eq_true rfl) rfl dX8_build_140 ?_
      obtain ⟨v5, ev5, h⟩ := bv_ex h
      refine lv_topi (fun y9 z9 => ?_)
      obtain rfl : v5 = y9 := ev5.trans z9.symm
      refine lv_istore (lv' := [(6, .int v5), (0, .ref (ad 30)), (1, .ref (ad a1)), (2, .ref (ad a2)), (3, .ref (ad a3)), (4, .int a4), (5, .int a5)]) hx hb dX8_build_143 hl (by decide) rfl (fun ls hl => ?_)
      refine lv_iconst (v := 0) hx hb dX8_build_145 (by decide) ?_
      refine lv_istore (lv' := [(7, .int 0), (6, .int v5), (0, .ref (ad 30)), (1, .ref (ad a1)), (2, .ref (ad a2)), (3, .ref (ad a3)), (4, .int a4), (5, .int a5)]) hx hb dX8_build_146 hl (by decide) rfl (fun ls hl => ?_)
      exact t_X8_build_b148 l G ad av  FUEL a3 (sh_f (sh_k q3)) a4 v5 (0 : Int32) μ h p e s m below meth c A ls H locs cx hr hlk hA (lv_sub hl [2, 5, 6, 1, 0] rfl) hw
    · rw [if_neg c4] at h
      refine lv_aload_n hx hb dX8_build_22 rfl (lv_at hl 1 rfl) ?_
      refine g_get cx hw inX2 (ci := 1) rfl 0 (by decide) rfl (v := .ref (ad (a1 + 1))) q1 rfl fl_X8_103 dX8_build_23 ?_
      refine lv_iload hx hb dX8_build_26 (lv_at hl 6 rfl) ?_
      refine g_lald cx hw (rl_X2_0 q1) h dX8_build_28 (fun h => ?_)
      obtain ⟨v9, ev9, h⟩ := bv_ex h
      refine lv_topl (fun y9 z9 => ?_)
      obtain rfl : v9 = y9 := ev9.trans z9.symm
      refine lv_lstore (lv' := [(7, .long v9), (0, .ref (ad 30)), (1, .ref (ad a1)), (2, .ref (ad a2)), (3, .ref (ad a3)), (4, .int a4), (5, .int a5), (6, .int a6)]) hx hb dX8_build_29 hl (by decide) rfl (fun ls hl => ?_)
      refine lv_lload hx hb dX8_build_31 (lv_at hl 0 rfl) ?_
      refine s_callI (As := [.long v9]) (rest := []) cx hw hA (t_X0_kind l G v9) ml_X8_106 st_X0_kind in_X0 co_X0_kind hd_X0_kind rfl ⟨(Nat.le_of_ble_eq_true rfl), (Nat.le_of_ble_eq_true rfl)⟩ hl.1 rfl (Nat.le_of_ble_eq_true rfl) dX8_build_33 rfl (fun H locs hw => ?_)
      refine lv_iconst (v := 4) hx hb dX8_build_36 (by decide) ?_
      refine lv_icmp_ne (tgt := 68) hx hb dX8_build_37 (by decide) (fun c10 => ?_) (fun c10 => ?_)
      · rw [if_neg c10] at h
        refine lv_lload hx hb dX8_build_68 (lv_at hl 0 rfl) ?_
        refine s_callI (As := [.long v9]) (rest := []) cx hw hA (t_X0_kind l G v9) ml_X8_106 st_X0_kind in_X0 co_X0_kind hd_X0_kind rfl ⟨(Nat.le_of_ble_eq_true rfl), (Nat.le_of_ble_eq_true rfl)⟩ hl.1 rfl (Nat.le_of_ble_eq_true rfl) dX8_build_70 rfl (fun H locs hw => ?_)
        refine lv_iconst (v := 2) hx hb dX8_build_73 (by decide) ?_
        refine lv_icmp_ne (tgt := 108) hx hb dX8_build_74 (by decide) (fun c11 => ?_) (fun c11 => ?_)
        · rw [if_neg c11] at h
          exact t_X8_build_b108 l G ad av _ ih a1 q1 a2 (sh_f (sh_k q2)) a3 (sh_f (sh_k q3)) a4 a5 a6 v9 μ h p e s m below meth c A ls H locs cx hr hlk hA (lv_sub hl [1, 2, 3, 4, 5, 6, 7, 0] rfl) hw
        · rw [if_pos c11] at h
          refine lv_iload hx hb dX8_build_77 (lv_at hl 5 rfl) ?_
          refine lv_iconst (v := 2) hx hb dX8_build_79 (by decide) ?_
          refine lv_icmp_lt (tgt := 108) hx hb dX8_build_80 (by decide) (fun c16 => ?_) (fun c16 => ?_)
          · rw [if_pos c16] at h
            exact t_X8_build_b108 l G ad av _ ih a1 q1 a2 (sh_f (sh_k q2)) a3 (sh_f (sh_k q3)) a4 a5 a6 v9 μ h p e s m below meth c A ls H locs cx hr hlk hA (lv_sub hl [1, 2, 3, 4, 5, 6, 7, 0] rfl) hw
          · rw [if_neg c16] at h
            obtain ⟨v17, ev17, h⟩ := bv_ex h
            refine lv_iinc (v := v17) (lv' := [(4, .int v17), (7, .long v9), (0, .ref (ad 30)), (1, .ref (ad a1)), (2, .ref (ad a2)), (3, .ref (ad a3)), (5, .int a5), (6, .int a6)]) hx hb dX8_build_83 hl (k := 5) rfl (by rw [ev17]; rfl) (by decide) rfl (fun ls hl => ?_)
            refine lv_aload_n hx hb dX8_build_86 rfl (lv_at hl 2 rfl) ?_
            refine lv_aload_n hx hb dX8_build_87 rfl (lv_at hl 2 rfl) ?_
            refine g_get cx hw inX8 (ci := 7) rfl 4 (by decide) rfl (v := .ref (ad 35)) shx_30 rfl fl_X8_29 dX8_build_88 ?_
            refine lv_iload hx hb dX8_build_91 (lv_at hl 0 rfl) ?_
            refine lv_iconst (v := 1) hx hb dX8_build_93 (by decide) ?_
            refine lv_iadd hx hb dX8_build_94 ?_
            refine g_lald cx hw shx_35 h dX8_build_95 (fun h => ?_)
            refine lv_aload_n hx hb dX8_build_96 rfl (lv_at hl 2 rfl) ?_
            refine g_get cx hw inX8 (ci := 7) rfl 4 (by decide) rfl (v := .ref (ad 35)) shx_30 rfl fl_X8_29 dX8_build_97 ?_
            refine lv_iload hx hb dX8_build_100 (lv_at hl 0 rfl) ?_
            refine g_lald cx hw shx_35 h dX8_build_102 (fun h => ?_)
            obtain ⟨r19, μ18, gr19, h⟩ := bd_some h
            refine g_callVL (As := [.long (μ.2.1 35 (v17 + (1 : Int32)).toNatClampNeg), .long (μ.2.1 35 v17.toNatClampNeg)]) (rest := []) cx hw hA (t_X8_pair l G ad (μ.2.1 35 (v17 + (1 : Int32)).toNatClampNeg) (μ.2.1 35 v17.toNatClampNeg) μ gr19) shx_30 rfl ml_X8_109 im_X8_pair se_X8_pair in_X8 co_X8_pair rfl hd_X8_pair rfl ⟨(Nat.le_of_ble_eq_true rfl), (Nat.le_of_ble_eq_true rfl)⟩ hl.1 rfl (Nat.le_of_ble_eq_true rfl) dX8_build_103 ⟨rfl, rfl⟩ (fun H locs hw => ?_)
            refine lv_lstore (lv' := [(7, .long r19), (4, .int v17), (0, .ref (ad 30)), (1, .ref (ad a1)), (2, .ref (ad a2)), (3, .ref (ad a3)), (5, .int a5), (6, .int a6)]) hx hb dX8_build_106 hl (by decide) rfl (fun ls hl => ?_)
            exact t_X8_build_b108 l G ad av _ ih a1 q1 a2 (sh_f (sh_k q2)) a3 (sh_f (sh_k q3)) v17 a5 a6 r19 μ18 h p e s m below meth c A ls H locs cx hr hlk hA (lv_sub hl [2, 3, 4, 5, 1, 6, 7, 0] rfl) hw
      · rw [if_pos c10] at h
        obtain ⟨v20, ev20, h⟩ := bv_ex h
        refine lv_iinc (v := v20) (lv' := [(5, .int v20), (7, .long v9), (0, .ref (ad 30)), (1, .ref (ad a1)), (2, .ref (ad a2)), (3, .ref (ad a3)), (4, .int a4), (6, .int a6)]) hx hb dX8_build_40 hl (k := 6) rfl (by rw [ev20]; rfl) (by decide) rfl (fun ls hl => ?_)
        refine lv_iload hx hb dX8_build_43 (lv_at hl 0 rfl) ?_
        refine lv_if_lt (tgt := 62) hx hb dX8_build_45 (by decide) (fun c21 => ?_) (fun c21 => ?_)
        · rw [if_pos c21] at h
          exact t_X8_build_b62 l G ad av _ ih a1 q1 a2 (sh_f (sh_k q2)) a3 (sh_f (sh_k q3)) a4 v20 a6 μ h p e s m below meth c A ls H locs cx hr hlk hA (lv_sub hl [2, 3, 4, 5, 6, 0, 7] rfl) hw
        · rw [if_neg c21] at h
          refine lv_iload hx hb dX8_build_48 (lv_at hl 0 rfl) ?_
          refine lv_aload_n hx hb dX8_build_50 rfl (lv_at hl 4 rfl) ?_
          refine g_alen3 cx hw (sh_k q2) rfl dX8_build_51 ?_
          refine lv_icmp_ge (tgt := 62) hx hb dX8_build_52 (by decide) (fun c22 => ?_) (fun c22 => ?_)
          · rw [if_pos c22] at h
            exact t_X8_build_b62 l G ad av _ ih a1 q1 a2 (sh_f (sh_k q2)) a3 (sh_f (sh_k q3)) a4 v20 a6 μ h p e s m below meth c A ls H locs cx hr hlk hA (lv_sub hl [2, 3, 4, 5, 6, 0, 7] rfl) hw
          · rw [if_neg c22] at h
            refine lv_aload_n hx hb dX8_build_55 rfl (lv_at hl 4 rfl) ?_
            refine lv_iload hx hb dX8_build_56 (lv_at hl 0 rfl) ?_
            refine g_lald cx hw (sh_k q2) h dX8_build_58 (fun h => ?_)
            refine lv_goto (tgt := 63) hx hb dX8_build_59 (by decide) ?_
            exact t_X8_build_b63 l G ad av _ ih a1 q1 a2 (sh_f (sh_k q2)) a3 (sh_f (sh_k q3)) a4 v20 a6 (μ.2.1 a2 v20.toNatClampNeg) μ h p e s m below meth c A ls H locs cx hr hlk hA (lv_sub hl [2, 3, 4, 5, 6, 0, 7] rfl) hw
theorem p_X8_build_ex : ∃ f : Nat → Nat → Nat → Mem → Option (Int32 × Mem), ∀ (a1 : Nat) (a2 : Nat) (a3 : Nat) (μ : Mem), f a1 a2 a3 μ = bd (p_X2_stars a1 μ) (fun r2 μ1 => bv ((μ1.1 a1 2) - (1 : Int32)) (fun v3 => p_X8_build_b17  FUEL a1 a2 a3 (0 : Int32) r2 v3 μ1)) := ⟨fun (a1 : Nat) (a2 : Nat) (a3 : Nat) (μ : Mem) => bd (p_X2_stars a1 μ) (fun r2 μ1 => bv ((μ1.1 a1 2) - (1 : Int32)) (fun v3 => p_X8_build_b17  FUEL a1 a2 a3 (0 : Int32) r2 v3 μ1)), fun _ _ _ _ => rfl⟩
noncomputable def p_X8_build : Nat → Nat → Nat → Mem → Option (Int32 × Mem) := Classical.choose p_X8_build_ex
theorem p_X8_build_eq (a1 : Nat) (a2 : Nat) (a3 : Nat) (μ : Mem) : p_X8_build a1 a2 a3 μ = bd (p_X2_stars a1 μ) (fun r2 μ1 => bv ((μ1.1 a1 2) - (1 : Int32)) (fun v3 => p_X8_build_b17  FUEL a1 a2 a3 (0 : Int32) r2 v3 μ1)) := Classical.choose_spec p_X8_build_ex a1 a2 a3 μ
set_option maxHeartbeats 4000000 in
set_option maxRecDepth 100000 in
theorem t_X8_build (l : Launch) (G : Gt) (ad : Nat → Nat) (a1 : Nat) (q1 : sh 0 a1 = (0, 1)) (a2 : Nat) (q2 : (sh 0 a2).1 = 3) (a3 : Nat) (q3 : (sh 0 a3).1 = 3) (μ : Mem) {r : Int32} {μz : Mem} (h : p_X8_build a1 a2 a3 μ = some (r, μz)) : Mt l yX8_build cX8_build 9 (some .int) ({ frames := 3, cells := 0, slots := 0, locals := 68 } : Room) G [.ref (ad 30), .ref (ad a1), .ref (ad a2), .ref (ad a3)] (wd 0 G ad μ) (eI 0 G ad r μz) := by
  refine Bk.mt (by decide) rfl (Nat.le_of_ble_eq_true rfl) ?_
  intro p e s m below meth c A ls H locs cx hr hlk hA hl hw
  have hx := cx.1
  have hb := cx.2.1
  have hl : lv_has ls 9 [(0, .ref (ad 30)), (1, .ref (ad a1)), (2, .ref (ad a2)), (3, .ref (ad a3))] := hl
  rw [p_X8_build_eq] at h
  refine lv_iconst (v := 0) hx hb dX8_build_0 (by decide) ?_
  refine lv_istore (lv' := [(4, .int 0), (0, .ref (ad 30)), (1, .ref (ad a1)), (2, .ref (ad a2)), (3, .ref (ad a3))]) hx hb dX8_build_1 hl (by decide) rfl (fun ls hl => ?_)
  refine lv_aload_n hx hb dX8_build_3 rfl (lv_at hl 2 rfl) ?_
  obtain ⟨r2, μ1, gr2, h⟩ := bd_some h
  refine g_callVI (As := []) (rest := []) cx hw hA (t_X2_stars l G ad a1 q1 μ gr2) q1 rfl ml_X8_98 im_X2_stars se_X2_stars in_X2 co_X2_stars rfl hd_X2_stars rfl ⟨(Nat.le_of_ble_eq_true rfl), (Nat.le_of_ble_eq_true rfl)⟩ hl.1 rfl (Nat.le_of_ble_eq_true rfl) dX8_build_4 ⟨rfl, rfl⟩ (fun H locs hw => ?_)
  refine lv_istore (lv' := [(5, .int r2), (4, .int 0), (0, .ref (ad 30)), (1, .ref (ad a1)), (2, .ref (ad a2)), (3, .ref (ad a3))]) hx hb dX8_build_7 hl (by decide) rfl (fun ls hl => ?_)
  refine lv_aload_n hx hb dX8_build_9 rfl (lv_at hl 3 rfl) ?_
  refine g_get cx hw inX2 (ci := 1) rfl 2 (by decide) rfl (v := .int (μ1.1 a1 2)) q1 rfl fl_X8_102 dX8_build_10 ?_
  refine lv_iconst (v := 1) hx hb dX8_build_13 (by decide) ?_
  refine lv_isub hx hb dX8_build_14 ?_
  obtain ⟨v3, ev3, h⟩ := bv_ex h
  refine lv_topi (fun y9 z9 => ?_)
  obtain rfl : v3 = y9 := ev3.trans z9.symm
  refine lv_istore (lv' := [(6, .int v3), (5, .int r2), (4, .int 0), (0, .ref (ad 30)), (1, .ref (ad a1)), (2, .ref (ad a2)), (3, .ref (ad a3))]) hx hb dX8_build_15 hl (by decide) rfl (fun ls hl => ?_)
  exact t_X8_build_b17 l G ad _  FUEL a1 q1 a2 (sh_f (sh_k q2)) a3 (sh_f (sh_k q3)) (0 : Int32) r2 v3 μ1 h p e s m below meth c A ls H locs cx hr hlk hA (lv_sub hl [3, 4, 5, 6, 2, 1, 0] rfl) hw

theorem p_X8_setVar_ex : ∃ f : Int32 → Int64 → Mem → Option Mem, ∀ (a1 : Int32) (a2 : Int64) (μ : Mem), f a1 a2 μ = bv (((μ.1 30 10) * (32 : Int32)) + a1) (fun v1 => (if v1 < (0 : Int32) then some μ else (if (992 : Int32) ≤ v1 then some μ else gd (inb v1 992) (bv (sL μ 37 v1.toNatClampNeg a2) (fun μ4 => some μ4))))) := ⟨fun (a1 : Int32) (a2 : Int64) (μ : Mem) => bv (((μ.1 30 10) * (32 : Int32)) + a1) (fun v1 => (if v1 < (0 : Int32) then some μ else (if (992 : Int32) ≤ v1 then some μ else gd (inb v1 992) (bv (sL μ 37 v1.toNatClampNeg a2) (fun μ4 => some μ4))))), fun _ _ _ => rfl⟩
noncomputable def p_X8_setVar : Int32 → Int64 → Mem → Option Mem := Classical.choose p_X8_setVar_ex
theorem p_X8_setVar_eq (a1 : Int32) (a2 : Int64) (μ : Mem) : p_X8_setVar a1 a2 μ = bv (((μ.1 30 10) * (32 : Int32)) + a1) (fun v1 => (if v1 < (0 : Int32) then some μ else (if (992 : Int32) ≤ v1 then some μ else gd (inb v1 992) (bv (sL μ 37 v1.toNatClampNeg a2) (fun μ4 => some μ4))))) := Classical.choose_spec p_X8_setVar_ex a1 a2 μ
set_option maxHeartbeats 4000000 in
set_option maxRecDepth 100000 in
theorem t_X8_setVar (l : Launch) (G : Gt) (ad : Nat → Nat) (a1 : Int32) (a2 : Int64) (μ : Mem) {μz : Mem} (h : p_X8_setVar a1 a2 μ = some μz) : Mt l yX8_setVar cX8_setVar 5 none ({ frames := 0, cells := 0, slots := 0, locals := 0 } : Room) G [.ref (ad 30), .int a1, .long a2] (wd 0 G ad μ) (eV 0 G ad μz) := by
  refine Bk.mt (by decide) rfl (Nat.le_of_ble_eq_true rfl) ?_
  intro p e s m below meth c A ls H locs cx hr hlk hA hl hw
  have hx := cx.1
  have hb := cx.2.1
  have hl : lv_has ls 5 [(0, .ref (ad 30)), (1, .int a1), (2, .long a2)] := hl
  rw [p_X8_setVar_eq] at h
  refine lv_aload_n hx hb dX8_setVar_0 rfl (lv_at hl 0 rfl) ?_
  refine g_get cx hw inX8 (ci := 7) rfl 10 (by decide) rfl (v := .int (μ.1 30 10)) shx_30 rfl fl_X8_48 dX8_setVar_1 ?_
  refine lv_bipush (v := 32) hx hb dX8_setVar_4 (by decide) ?_
  refine lv_imul hx hb dX8_setVar_6 ?_
  refine lv_iload_n hx hb dX8_setVar_7 rfl (lv_at hl 1 rfl) ?_
  refine lv_iadd hx hb dX8_setVar_8 ?_
  obtain ⟨v1, ev1, h⟩ := bv_ex h
  refine lv_topi (fun y9 z9 => ?_)
  obtain rfl : v1 = y9 := ev1.trans z9.symm
  refine lv_istore (lv' := [(4, .int v1), (0, .ref (ad 30)), (1, .int a1), (2, .long a2)]) hx hb dX8_setVar_9 hl (by decide) rfl (fun ls hl => ?_)
  refine lv_iload hx hb dX8_setVar_11 (lv_at hl 0 rfl) ?_
  refine lv_if_lt (tgt := 34) hx hb dX8_setVar_13 (by decide) (fun c2 => ?_) (fun c2 => ?_)
  · rw [if_pos c2] at h
    exact g_vret cx hr hlk hw h dX8_setVar_34
  · rw [if_neg c2] at h
    refine lv_iload hx hb dX8_setVar_16 (lv_at hl 0 rfl) ?_
    refine lv_aload_n hx hb dX8_setVar_18 rfl (lv_at hl 1 rfl) ?_
    refine g_get cx hw inX8 (ci := 7) rfl 8 (by decide) rfl (v := .ref (ad 37)) shx_30 rfl fl_X8_35 dX8_setVar_19 ?_
    refine g_alen3 cx hw shx_37 (v := 992) (by decide +kernel) dX8_setVar_22 ?_
    refine lv_icmp_ge (tgt := 34) hx hb dX8_setVar_23 (by decide) (fun c3 => ?_) (fun c3 => ?_)
    · rw [if_pos c3] at h
      exact g_vret cx hr hlk hw h dX8_setVar_34
    · rw [if_neg c3] at h
      refine lv_aload_n hx hb dX8_setVar_26 rfl (lv_at hl 1 rfl) ?_
      refine g_get cx hw inX8 (ci := 7) rfl 8 (by decide) rfl (v := .ref (ad 37)) shx_30 rfl fl_X8_35 dX8_setVar_27 ?_
      refine lv_iload hx hb dX8_setVar_30 (lv_at hl 0 rfl) ?_
      refine lv_lload_n hx hb dX8_setVar_32 rfl (lv_at hl 3 rfl) ?_
      refine g_last cx hw shx_37 h dX8_setVar_33 (fun μ4 H locs h hw => ?_)
      exact g_vret cx hr hlk hw h dX8_setVar_34

theorem p_X10_beginVariant_b87_ex : ∃ f : Nat → Nat → Int32 → Int32 → Mem → Option Mem, (∀ (a2 : Nat) (a3 : Int32) (a4 : Int32) (μ : Mem), f  0 a2 a3 a4 μ = none) ∧ (∀ (n : Nat) (a2 : Nat) (a3 : Int32) (a4 : Int32) (μ : Mem), f  (n + 1) a2 a3 a4 μ = (if a3 ≤ a4 then bd (p_X3_startOf (sel 2 (μ.2.2 137 5)) (μ.1 a2 3) μ) (fun r18 μ17 => bv (sF μ17 137 9 r18) (fun μ19 => some μ19)) else gd (inb a4 8) (bw (p_X8_setVar a4 (μ.2.1 141 a4.toNatClampNeg) μ) (fun μ20 => bv (a4 + 1) (fun v22 => f n a2 a3 v22 μ20))))) := ⟨fun n => Nat.rec (fun (a2 : Nat) (a3 : Int32) (a4 : Int32) (μ : Mem) => none) (fun _ ih => fun (a2 : Nat) (a3 : Int32) (a4 : Int32) (μ : Mem) => (if a3 ≤ a4 then bd (p_X3_startOf (sel 2 (μ.2.2 137 5)) (μ.1 a2 3) μ) (fun r18 μ17 => bv (sF μ17 137 9 r18) (fun μ19 => some μ19)) else gd (inb a4 8) (bw (p_X8_setVar a4 (μ.2.1 141 a4.toNatClampNeg) μ) (fun μ20 => bv (a4 + 1) (fun v22 => ih a2 a3 v22 μ20))))) n, fun  _ _ _ _ => rfl, fun  _ _ _ _ _ => rfl⟩
noncomputable def p_X10_beginVariant_b87 : Nat → Nat → Int32 → Int32 → Mem → Option Mem := Classical.choose p_X10_beginVariant_b87_ex
theorem p_X10_beginVariant_b87_z (a2 : Nat) (a3 : Int32) (a4 : Int32) (μ : Mem) : p_X10_beginVariant_b87  0 a2 a3 a4 μ = none := (Classical.choose_spec p_X10_beginVariant_b87_ex).1  a2 a3 a4 μ
theorem p_X10_beginVariant_b87_s (n : Nat) (a2 : Nat) (a3 : Int32) (a4 : Int32) (μ : Mem) : p_X10_beginVariant_b87  (n + 1) a2 a3 a4 μ = (if a3 ≤ a4 then bd (p_X3_startOf (sel 2 (μ.2.2 137 5)) (μ.1 a2 3) μ) (fun r18 μ17 => bv (sF μ17 137 9 r18) (fun μ19 => some μ19)) else gd (inb a4 8) (bw (p_X8_setVar a4 (μ.2.1 141 a4.toNatClampNeg) μ) (fun μ20 => bv (a4 + 1) (fun v22 => p_X10_beginVariant_b87  n a2 a3 v22 μ20)))) := (Classical.choose_spec p_X10_beginVariant_b87_ex).2  n a2 a3 a4 μ
set_option maxHeartbeats 4000000 in
set_option maxRecDepth 100000 in
theorem t_X10_beginVariant_b87 (l : Launch) (G : Gt) (ad : Nat → Nat) (av : List Value) {μz : Mem} : ∀ (n : Nat) (a2 : Nat) (q2 : sh 0 a2 = (0, 1)) (a3 : Int32) (a4 : Int32) (μ : Mem), p_X10_beginVariant_b87  n a2 a3 a4 μ = some μz → Bk l cX10_beginVariant 5 RX10 none ({ frames := 4, cells := 0, slots := 0, locals := 96 } : Room) G av (eV 0 G ad μz) (wd 0 G ad μ) 87 [(0, .ref (ad 137)), (2, .ref (ad a2)), (3, .int a3), (4, .int a4)] [] := by
  intro n
  induction n with
  | zero => intro a2 q2 a3 a4 μ h; rw [p_X10_beginVariant_b87_z] at h; cases h
  | succ n ih =>
    intro a2 q2 a3 a4 μ h p e s m below meth c A ls H locs cx hr hlk hA hl hw
    have hx := cx.1
    have hb := cx.2.1
    rw [p_X10_beginVariant_b87_s] at h
    refine lv_iload hx hb dX10_beginVariant_87 (lv_at hl 3 rfl) ?_
    refine lv_iload_n hx hb dX10_beginVariant_89 rfl (lv_at hl 2 rfl) ?_
    refine lv_icmp_ge (tgt := 115) hx hb dX10_beginVariant_90 (by decide) (fun c16 => ?_) (fun c16 => ?_)
    · rw [if_pos c16] at h
      refine lv_aload_n hx hb dX10_beginVariant_115 rfl (lv_at hl 0 rfl) ?_
      refine lv_aload_n hx hb dX10_beginVariant_116 rfl (lv_at hl 0 rfl) ?_
      refine g_get cx hw inX10 (ci := 9) rfl 5 (by decide) rfl (v := .ref (ad (sel 2 (μ.2.2 137 5)))) shx_137 rfl fl_X10_29 dX10_beginVariant_117 ?_
      refine lv_aload_n hx hb dX10_beginVariant_120 rfl (lv_at hl 1 rfl) ?_
      refine g_get cx hw inX2 (ci := 1) rfl 3 (by decide) rfl (v := .int (μ.1 a2 3)) q2 rfl fl_X10_76 dX10_beginVariant_121 ?_
      obtain ⟨r18, μ17, gr18, h⟩ := bd_some h
      refine g_callVI (As := [.int (μ.1 a2 3)]) (rest := [.ref (ad 137)]) cx hw hA (t_X3_startOf l G ad (sel 2 (μ.2.2 137 5)) (sel_2 _) (μ.1 a2 3) μ gr18) (sel_2 _) rfl ml_X10_79 im_X3_startOf se_X3_startOf in_X3 co_X3_startOf rfl hd_X3_startOf rfl ⟨(Nat.le_of_ble_eq_true rfl), (Nat.le_of_ble_eq_true rfl)⟩ hl.1 rfl (Nat.le_of_ble_eq_true rfl) dX10_beginVariant_124 ⟨rfl, rfl⟩ (fun H locs hw => ?_)
      refine g_put cx hw inX10 (ci := 9) rfl tyX10_ok nmX10 9 (by decide) rfl rfl rfl rfl shx_137 h fl_X10_73 dX10_beginVariant_127 (fun μ19 H locs h hw => ?_)
      exact g_vret cx hr hlk hw h dX10_beginVariant_130
    · rw [if_neg c16] at h
      refine lv_aload_n hx hb dX10_beginVariant_93 rfl (lv_at hl 0 rfl) ?_
      refine g_get cx hw inX10 (ci := 9) rfl 3 (by decide) rfl (v := .ref (ad 30)) shx_137 rfl fl_X10_21 dX10_beginVariant_94 ?_
      refine lv_iload hx hb dX10_beginVariant_97 (lv_at hl 3 rfl) ?_
      refine lv_aload_n hx hb dX10_beginVariant_99 rfl (lv_at hl 0 rfl) ?_
      refine g_get cx hw inX10 (ci := 9) rfl 17 (by decide) rfl (v := .ref (ad 141)) shx_137 rfl fl_X10_58 dX10_beginVariant_100 ?_
      refine lv_iload hx hb dX10_beginVariant_103 (lv_at hl 3 rfl) ?_
      refine g_lald cx hw shx_141 h dX10_beginVariant_105 (fun h => ?_)
      obtain ⟨μ20, gμ20, h⟩ := bw_some h
      refine g_callVV (As := [.int a4, .long (μ.2.1 141 a4.toNatClampNeg)]) (rest := []) cx hw hA (t_X8_setVar l G ad a4 (μ.2.1 141 a4.toNatClampNeg) μ gμ20) shx_30 rfl ml_X10_128 im_X8_setVar se_X8_setVar in_X8 co_X8_setVar rfl hd_X8_setVar rfl ⟨(Nat.le_of_ble_eq_true rfl), (Nat.le_of_ble_eq_true rfl)⟩ hl.1 rfl (Nat.le_of_ble_eq_true rfl) dX10_beginVariant_106 ⟨rfl, rfl⟩ (fun H locs hw => ?_)
      obtain ⟨v22, ev22, h⟩ := bv_ex h
      refine lv_iinc (v := v22) (lv' := [(4, .int v22), (0, .ref (ad 137)), (2, .ref (ad a2)), (3, .int a3)]) hx hb dX10_beginVariant_109 hl (k := 3) rfl (by rw [ev22]; rfl) (by decide) rfl (fun ls hl => ?_)
      refine lv_goto (tgt := 87) hx hb dX10_beginVariant_112 (by decide) ?_
      exact ih a2 q2 a3 v22 μ20 h p e s m below meth c A ls H locs cx hr hlk hA (lv_sub hl [1, 2, 3, 0] rfl) hw
theorem p_X10_beginVariant_ex : ∃ f : Int32 → Mem → Option Mem, ∀ (a1 : Int32) (μ : Mem), f a1 μ = bv (sF μ 137 7 a1) (fun μ1 => (if a1 < (μ1.1 39 2) then bd (p_X5_patternOf a1 μ1) (fun r4 μ3 => bd (p_X5_addBlock μ3) (fun r6 μ5 => bv (sF μ5 137 8 r6) (fun μ7 => bw (p_X5_setVariant a1 (3 : Int32) (μ7.1 137 8) μ7) (fun μ8 => bw (p_X8_clear μ8) (fun μ10 => bv (sF μ10 137 12 (0 : Int32)) (fun μ12 => bv (sF μ12 137 13 (0 : Int32)) (fun μ13 => bd (p_X8_build r4 140 141 μ13) (fun r15 μ14 => p_X10_beginVariant_b87  FUEL r4 r15 (0 : Int32) μ14)))))))) else some μ1)) := ⟨fun (a1 : Int32) (μ : Mem) => bv (sF μ 137 7 a1) (fun μ1 => (if a1 < (μ1.1 39 2) then bd (p_X5_patternOf a1 μ1) (fun r4 μ3 => bd (p_X5_addBlock μ3) (fun r6 μ5 => bv (sF μ5 137 8 r6) (fun μ7 => bw (p_X5_setVariant a1 (3 : Int32) (μ7.1 137 8) μ7) (fun μ8 => bw (p_X8_clear μ8) (fun μ10 => bv (sF μ10 137 12 (0 : Int32)) (fun μ12 => bv (sF μ12 137 13 (0 : Int32)) (fun μ13 => bd (p_X8_build r4 140 141 μ13) (fun r15 μ14 => p_X10_beginVariant_b87  FUEL r4 r15 (0 : Int32) μ14)))))))) else some μ1)), fun _ _ => rfl⟩
noncomputable def p_X10_beginVariant : Int32 → Mem → Option Mem := Classical.choose p_X10_beginVariant_ex
theorem p_X10_beginVariant_eq (a1 : Int32) (μ : Mem) : p_X10_beginVariant a1 μ = bv (sF μ 137 7 a1) (fun μ1 => (if a1 < (μ1.1 39 2) then bd (p_X5_patternOf a1 μ1) (fun r4 μ3 => bd (p_X5_addBlock μ3) (fun r6 μ5 => bv (sF μ5 137 8 r6) (fun μ7 => bw (p_X5_setVariant a1 (3 : Int32) (μ7.1 137 8) μ7) (fun μ8 => bw (p_X8_clear μ8) (fun μ10 => bv (sF μ10 137 12 (0 : Int32)) (fun μ12 => bv (sF μ12 137 13 (0 : Int32)) (fun μ13 => bd (p_X8_build r4 140 141 μ13) (fun r15 μ14 => p_X10_beginVariant_b87  FUEL r4 r15 (0 : Int32) μ14)))))))) else some μ1)) := Classical.choose_spec p_X10_beginVariant_ex a1 μ
set_option maxHeartbeats 4000000 in
set_option maxRecDepth 100000 in
theorem t_X10_beginVariant (l : Launch) (G : Gt) (ad : Nat → Nat) (a1 : Int32) (μ : Mem) {μz : Mem} (h : p_X10_beginVariant a1 μ = some μz) : Mt l yX10_beginVariant cX10_beginVariant 5 none ({ frames := 4, cells := 0, slots := 0, locals := 96 } : Room) G [.ref (ad 137), .int a1] (wd 0 G ad μ) (eV 0 G ad μz) := by
  refine Bk.mt (by decide) rfl (Nat.le_of_ble_eq_true rfl) ?_
  intro p e s m below meth c A ls H locs cx hr hlk hA hl hw
  have hx := cx.1
  have hb := cx.2.1
  have hl : lv_has ls 5 [(0, .ref (ad 137)), (1, .int a1)] := hl
  rw [p_X10_beginVariant_eq] at h
  refine lv_aload_n hx hb dX10_beginVariant_0 rfl (lv_at hl 0 rfl) ?_
  refine lv_iload_n hx hb dX10_beginVariant_1 rfl (lv_at hl 1 rfl) ?_
  refine g_put cx hw inX10 (ci := 9) rfl tyX10_ok nmX10 7 (by decide) rfl rfl rfl rfl shx_137 h fl_X10_92 dX10_beginVariant_2 (fun μ1 H locs h hw => ?_)
  refine lv_iload_n hx hb dX10_beginVariant_5 rfl (lv_at hl 1 rfl) ?_
  refine lv_aload_n hx hb dX10_beginVariant_6 rfl (lv_at hl 0 rfl) ?_
  refine g_get cx hw inX10 (ci := 9) rfl 4 (by decide) rfl (v := .ref (ad 39)) shx_137 rfl fl_X10_25 dX10_beginVariant_7 ?_
  refine g_get cx hw inX5 (ci := 4) rfl 2 (by decide) rfl (v := .int (μ1.1 39 2)) shx_39 rfl fl_X10_95 dX10_beginVariant_10 ?_
  refine lv_icmp_lt (tgt := 17) hx hb dX10_beginVariant_13 (by decide) (fun c2 => ?_) (fun c2 => ?_)
  · rw [if_pos c2] at h
    refine lv_aload_n hx hb dX10_beginVariant_17 rfl (lv_at hl 0 rfl) ?_
    refine g_get cx hw inX10 (ci := 9) rfl 4 (by decide) rfl (v := .ref (ad 39)) shx_137 rfl fl_X10_25 dX10_beginVariant_18 ?_
    refine lv_iload_n hx hb dX10_beginVariant_21 rfl (lv_at hl 1 rfl) ?_
    obtain ⟨r4, μ3, gr4, h⟩ := bd_some h
    refine g_callVR (As := [.int a1]) (rest := []) cx hw hA (t_X5_patternOf l G ad a1 μ1 gr4) shx_39 rfl ml_X10_100 im_X5_patternOf se_X5_patternOf in_X5 co_X5_patternOf rfl hd_X5_patternOf rfl ⟨(Nat.le_of_ble_eq_true rfl), (Nat.le_of_ble_eq_true rfl)⟩ hl.1 rfl (Nat.le_of_ble_eq_true rfl) dX10_beginVariant_22 ⟨rfl, rfl⟩ (fun H locs hw => ?_)
    have qr4 : sh 0 r4 = (0, 1) := p_X5_patternOf_sh gr4
    refine lv_astore_n (lv' := [(2, .ref (ad r4)), (0, .ref (ad 137)), (1, .int a1)]) hx hb dX10_beginVariant_25 rfl hl (by decide) rfl (fun ls hl => ?_)
    refine lv_aload_n hx hb dX10_beginVariant_26 rfl (lv_at hl 1 rfl) ?_
    refine lv_aload_n hx hb dX10_beginVariant_27 rfl (lv_at hl 1 rfl) ?_
    refine g_get cx hw inX10 (ci := 9) rfl 4 (by decide) rfl (v := .ref (ad 39)) shx_137 rfl fl_X10_25 dX10_beginVariant_28 ?_
    obtain ⟨r6, μ5, gr6, h⟩ := bd_some h
    refine g_callVI (As := []) (rest := [.ref (ad 137)]) cx hw hA (t_X5_addBlock l G ad μ3 gr6) shx_39 rfl ml_X10_104 im_X5_addBlock se_X5_addBlock in_X5 co_X5_addBlock rfl hd_X5_addBlock rfl ⟨(Nat.le_of_ble_eq_true rfl), (Nat.le_of_ble_eq_true rfl)⟩ hl.1 rfl (Nat.le_of_ble_eq_true rfl) dX10_beginVariant_31 ⟨rfl, rfl⟩ (fun H locs hw => ?_)
    refine g_put cx hw inX10 (ci := 9) rfl tyX10_ok nmX10 8 (by decide) rfl rfl rfl rfl shx_137 h fl_X10_108 dX10_beginVariant_34 (fun μ7 H locs h hw => ?_)
    refine lv_aload_n hx hb dX10_beginVariant_37 rfl (lv_at hl 1 rfl) ?_
    refine g_get cx hw inX10 (ci := 9) rfl 4 (by decide) rfl (v := .ref (ad 39)) shx_137 rfl fl_X10_25 dX10_beginVariant_38 ?_
    refine lv_iload_n hx hb dX10_beginVariant_41 rfl (lv_at hl 2 rfl) ?_
    refine lv_iconst (v := 3) hx hb dX10_beginVariant_42 (by decide) ?_
    refine lv_aload_n hx hb dX10_beginVariant_43 rfl (lv_at hl 1 rfl) ?_
    refine g_get cx hw inX10 (ci := 9) rfl 8 (by decide) rfl (v := .int (μ7.1 137 8)) shx_137 rfl fl_X10_108 dX10_beginVariant_44 ?_
    obtain ⟨μ8, gμ8, h⟩ := bw_some h
    refine g_callVV (As := [.int a1, .int 3, .int (μ7.1 137 8)]) (rest := []) cx hw hA (t_X5_setVariant l G ad a1 (3 : Int32) (μ7.1 137 8) μ7 gμ8) shx_39 rfl ml_X10_111 im_X5_setVariant se_X5_setVariant in_X5 co_X5_setVariant rfl hd_X5_setVariant rfl ⟨(Nat.le_of_ble_eq_true rfl), (Nat.le_of_ble_eq_true rfl)⟩ hl.1 rfl (Nat.le_of_ble_eq_true rfl) dX10_beginVariant_47 ⟨rfl, rfl⟩ (fun H locs hw => ?_)
    refine lv_aload_n hx hb dX10_beginVariant_50 rfl (lv_at hl 1 rfl) ?_
    refine g_get cx hw inX10 (ci := 9) rfl 3 (by decide) rfl (v := .ref (ad 30)) shx_137 rfl fl_X10_21 dX10_beginVariant_51 ?_
    obtain ⟨μ10, gμ10, h⟩ := bw_some h
    refine g_callVV (As := []) (rest := []) cx hw hA (t_X8_clear l G ad μ8 gμ10) shx_30 rfl ml_X10_115 im_X8_clear se_X8_clear in_X8 co_X8_clear rfl hd_X8_clear rfl ⟨(Nat.le_of_ble_eq_true rfl), (Nat.le_of_ble_eq_true rfl)⟩ hl.1 rfl (Nat.le_of_ble_eq_true rfl) dX10_beginVariant_54 ⟨rfl, rfl⟩ (fun H locs hw => ?_)
    refine lv_aload_n hx hb dX10_beginVariant_57 rfl (lv_at hl 1 rfl) ?_
    refine lv_iconst (v := 0) hx hb dX10_beginVariant_58 (by decide) ?_
    refine g_put cx hw inX10 (ci := 9) rfl tyX10_ok nmX10 12 (by decide) rfl rfl rfl rfl shx_137 h fl_X10_118 dX10_beginVariant_59 (fun μ12 H locs h hw => ?_)
    refine lv_aload_n hx hb dX10_beginVariant_62 rfl (lv_at hl 1 rfl) ?_
    refine lv_iconst (v := 0) hx hb dX10_beginVariant_63 (by decide) ?_
    refine g_put cx hw inX10 (ci := 9) rfl tyX10_ok nmX10 13 (by decide) rfl rfl rfl rfl shx_137 h fl_X10_121 dX10_beginVariant_64 (fun μ13 H locs h hw => ?_)
    refine lv_aload_n hx hb dX10_beginVariant_67 rfl (lv_at hl 1 rfl) ?_
    refine g_get cx hw inX10 (ci := 9) rfl 3 (by decide) rfl (v := .ref (ad 30)) shx_137 rfl fl_X10_21 dX10_beginVariant_68 ?_
    refine lv_aload_n hx hb dX10_beginVariant_71 rfl (lv_at hl 0 rfl) ?_
    refine lv_aload_n hx hb dX10_beginVariant_72 rfl (lv_at hl 1 rfl) ?_
    refine g_get cx hw inX10 (ci := 9) rfl 16 (by decide) rfl (v := .ref (ad 140)) shx_137 rfl fl_X10_55 dX10_beginVariant_73 ?_
    refine lv_aload_n hx hb dX10_beginVariant_76 rfl (lv_at hl 1 rfl) ?_
    refine g_get cx hw inX10 (ci := 9) rfl 17 (by decide) rfl (v := .ref (ad 141)) shx_137 rfl fl_X10_58 dX10_beginVariant_77 ?_
    obtain ⟨r15, μ14, gr15, h⟩ := bd_some h
    refine g_callVI (As := [.ref (ad r4), .ref (ad 140), .ref (ad 141)]) (rest := []) cx hw hA (t_X8_build l G ad r4 qr4 140 (sh_f shx_140) 141 (sh_f shx_141) μ13 gr15) shx_30 rfl ml_X10_124 im_X8_build se_X8_build in_X8 co_X8_build rfl hd_X8_build rfl ⟨(Nat.le_of_ble_eq_true rfl), (Nat.le_of_ble_eq_true rfl)⟩ hl.1 rfl (Nat.le_of_ble_eq_true rfl) dX10_beginVariant_80 ⟨rfl, rfl⟩ (fun H locs hw => ?_)
    refine lv_istore_n (lv' := [(3, .int r15), (2, .ref (ad r4)), (0, .ref (ad 137)), (1, .int a1)]) hx hb dX10_beginVariant_83 rfl hl (by decide) rfl (fun ls hl => ?_)
    refine lv_iconst (v := 0) hx hb dX10_beginVariant_84 (by decide) ?_
    refine lv_istore (lv' := [(4, .int 0), (3, .int r15), (2, .ref (ad r4)), (0, .ref (ad 137)), (1, .int a1)]) hx hb dX10_beginVariant_85 hl (by decide) rfl (fun ls hl => ?_)
    exact t_X10_beginVariant_b87 l G ad _  FUEL r4 qr4 r15 (0 : Int32) μ14 h p e s m below meth c A ls H locs cx hr hlk hA (lv_sub hl [3, 2, 1, 0] rfl) hw
  · rw [if_neg c2] at h
    exact g_vret cx hr hlk hw h dX10_beginVariant_16

theorem p_X10_begin_ex : ∃ f : Nat → Nat → Mem → Option Mem, ∀ (a1 : Nat) (a2 : Nat) (μ : Mem), f a1 a2 μ = bv (sR μ 137 5 a1) (fun μ1 => bw (p_X5_clear μ1) (fun μ2 => bv (sF μ2 137 6 (0 : Int32)) (fun μ4 => bv (sF μ4 137 9 (-1 : Int32)) (fun μ5 => bd (p_X3_startOf (sel 2 (μ5.2.2 137 5)) (μ5.1 a2 3) μ5) (fun r7 μ6 => (if r7 = (-1 : Int32) then bv (sF μ6 137 6 (-6 : Int32)) (fun μ13 => some μ13) else bd (p_X5_addVariant a2 (-1 : Int32) μ6) (fun r10 μ9 => bw (p_X10_beginVariant (0 : Int32) μ9) (fun μ11 => some μ11)))))))) := ⟨fun (a1 : Nat) (a2 : Nat) (μ : Mem) => bv (sR μ 137 5 a1) (fun μ1 => bw (p_X5_clear μ1) (fun μ2 => bv (sF μ2 137 6 (0 : Int32)) (fun μ4 => bv (sF μ4 137 9 (-1 : Int32)) (fun μ5 => bd (p_X3_startOf (sel 2 (μ5.2.2 137 5)) (μ5.1 a2 3) μ5) (fun r7 μ6 => (if r7 = (-1 : Int32) then bv (sF μ6 137 6 (-6 : Int32)) (fun μ13 => some μ13) else bd (p_X5_addVariant a2 (-1 : Int32) μ6) (fun r10 μ9 => bw (p_X10_beginVariant (0 : Int32) μ9) (fun μ11 => some μ11)))))))), fun _ _ _ => rfl⟩
noncomputable def p_X10_begin : Nat → Nat → Mem → Option Mem := Classical.choose p_X10_begin_ex
theorem p_X10_begin_eq (a1 : Nat) (a2 : Nat) (μ : Mem) : p_X10_begin a1 a2 μ = bv (sR μ 137 5 a1) (fun μ1 => bw (p_X5_clear μ1) (fun μ2 => bv (sF μ2 137 6 (0 : Int32)) (fun μ4 => bv (sF μ4 137 9 (-1 : Int32)) (fun μ5 => bd (p_X3_startOf (sel 2 (μ5.2.2 137 5)) (μ5.1 a2 3) μ5) (fun r7 μ6 => (if r7 = (-1 : Int32) then bv (sF μ6 137 6 (-6 : Int32)) (fun μ13 => some μ13) else bd (p_X5_addVariant a2 (-1 : Int32) μ6) (fun r10 μ9 => bw (p_X10_beginVariant (0 : Int32) μ9) (fun μ11 => some μ11)))))))) := Classical.choose_spec p_X10_begin_ex a1 a2 μ
set_option maxHeartbeats 4000000 in
set_option maxRecDepth 100000 in
theorem t_X10_begin (l : Launch) (G : Gt) (ad : Nat → Nat) (a1 : Nat) (q1 : sh 0 a1 = (0, 2)) (a2 : Nat) (q2 : sh 0 a2 = (0, 1)) (μ : Mem) {μz : Mem} (h : p_X10_begin a1 a2 μ = some μz) : Mt l yX10_begin cX10_begin 3 none ({ frames := 5, cells := 0, slots := 0, locals := 120 } : Room) G [.ref (ad 137), .ref (ad a1), .ref (ad a2)] (wd 0 G ad μ) (eV 0 G ad μz) := by
  refine Bk.mt (by decide) rfl (Nat.le_of_ble_eq_true rfl) ?_
  intro p e s m below meth c A ls H locs cx hr hlk hA hl hw
  have hx := cx.1
  have hb := cx.2.1
  have hl : lv_has ls 3 [(0, .ref (ad 137)), (1, .ref (ad a1)), (2, .ref (ad a2))] := hl
  rw [p_X10_begin_eq] at h
  refine lv_aload_n hx hb dX10_begin_0 rfl (lv_at hl 0 rfl) ?_
  refine lv_aload_n hx hb dX10_begin_1 rfl (lv_at hl 1 rfl) ?_
  refine g_putR cx hw inX10 (ci := 9) rfl tyX10_ok nmX10 5 (by decide) rfl rfl rfl rfl shx_137 q1 h fl_X10_29 dX10_begin_2 (fun μ1 H locs h hw => ?_)
  refine lv_aload_n hx hb dX10_begin_5 rfl (lv_at hl 0 rfl) ?_
  refine g_get cx hw inX10 (ci := 9) rfl 4 (by decide) rfl (v := .ref (ad 39)) shx_137 rfl fl_X10_25 dX10_begin_6 ?_
  obtain ⟨μ2, gμ2, h⟩ := bw_some h
  refine g_callVV (As := []) (rest := []) cx hw hA (t_X5_clear l G ad μ1 gμ2) shx_39 rfl ml_X10_67 im_X5_clear se_X5_clear in_X5 co_X5_clear rfl hd_X5_clear rfl ⟨(Nat.le_of_ble_eq_true rfl), (Nat.le_of_ble_eq_true rfl)⟩ hl.1 rfl (Nat.le_of_ble_eq_true rfl) dX10_begin_9 ⟨rfl, rfl⟩ (fun H locs hw => ?_)
  refine lv_aload_n hx hb dX10_begin_12 rfl (lv_at hl 0 rfl) ?_
  refine lv_iconst (v := 0) hx hb dX10_begin_13 (by decide) ?_
  refine g_put cx hw inX10 (ci := 9) rfl tyX10_ok nmX10 6 (by decide) rfl rfl rfl rfl shx_137 h fl_X10_70 dX10_begin_14 (fun μ4 H locs h hw => ?_)
  refine lv_aload_n hx hb dX10_begin_17 rfl (lv_at hl 0 rfl) ?_
  refine lv_iconst (v := (-1)) hx hb dX10_begin_18 (by decide) ?_
  refine g_put cx hw inX10 (ci := 9) rfl tyX10_ok nmX10 9 (by decide) rfl rfl rfl rfl shx_137 h fl_X10_73 dX10_begin_19 (fun μ5 H locs h hw => ?_)
  refine lv_aload_n hx hb dX10_begin_22 rfl (lv_at hl 0 rfl) ?_
  refine g_get cx hw inX10 (ci := 9) rfl 5 (by decide) rfl (v := .ref (ad (sel 2 (μ5.2.2 137 5)))) shx_137 rfl fl_X10_29 dX10_begin_23 ?_
  refine lv_aload_n hx hb dX10_begin_26 rfl (lv_at hl 2 rfl) ?_
  refine g_get cx hw inX2 (ci := 1) rfl 3 (by decide) rfl (v := .int (μ5.1 a2 3)) q2 rfl fl_X10_76 dX10_begin_27 ?_
  obtain ⟨r7, μ6, gr7, h⟩ := bd_some h
  refine g_callVI (As := [.int (μ5.1 a2 3)]) (rest := []) cx hw hA (t_X3_startOf l G ad (sel 2 (μ5.2.2 137 5)) (sel_2 _) (μ5.1 a2 3) μ5 gr7) (sel_2 _) rfl ml_X10_79 im_X3_startOf se_X3_startOf in_X3 co_X3_startOf rfl hd_X3_startOf rfl ⟨(Nat.le_of_ble_eq_true rfl), (Nat.le_of_ble_eq_true rfl)⟩ hl.1 rfl (Nat.le_of_ble_eq_true rfl) dX10_begin_30 ⟨rfl, rfl⟩ (fun H locs hw => ?_)
  refine lv_iconst (v := (-1)) hx hb dX10_begin_33 (by decide) ?_
  refine lv_icmp_ne (tgt := 44) hx hb dX10_begin_34 (by decide) (fun c8 => ?_) (fun c8 => ?_)
  · rw [if_neg c8] at h
    refine lv_aload_n hx hb dX10_begin_44 rfl (lv_at hl 0 rfl) ?_
    refine g_get cx hw inX10 (ci := 9) rfl 4 (by decide) rfl (v := .ref (ad 39)) shx_137 rfl fl_X10_25 dX10_begin_45 ?_
    refine lv_aload_n hx hb dX10_begin_48 rfl (lv_at hl 2 rfl) ?_
    refine lv_iconst (v := (-1)) hx hb dX10_begin_49 (by decide) ?_
    obtain ⟨r10, μ9, gr10, h⟩ := bd_some h
    refine g_callVI (As := [.ref (ad a2), .int (-1)]) (rest := []) cx hw hA (t_X5_addVariant l G ad a2 q2 (-1 : Int32) μ6 gr10) shx_39 rfl ml_X10_85 im_X5_addVariant se_X5_addVariant in_X5 co_X5_addVariant rfl hd_X5_addVariant rfl ⟨(Nat.le_of_ble_eq_true rfl), (Nat.le_of_ble_eq_true rfl)⟩ hl.1 rfl (Nat.le_of_ble_eq_true rfl) dX10_begin_50 ⟨rfl, rfl⟩ (fun H locs hw => ?_)
    refine lv_pop hx hb dX10_begin_53 rfl ?_
    refine lv_aload_n hx hb dX10_begin_54 rfl (lv_at hl 0 rfl) ?_
    refine lv_iconst (v := 0) hx hb dX10_begin_55 (by decide) ?_
    obtain ⟨μ11, gμ11, h⟩ := bw_some h
    refine g_callVV (As := [.int 0]) (rest := []) cx hw hA (t_X10_beginVariant l G ad (0 : Int32) μ9 gμ11) shx_137 rfl ml_X10_89 im_X10_beginVariant se_X10_beginVariant in_X10 co_X10_beginVariant rfl hd_X10_beginVariant rfl ⟨(Nat.le_of_ble_eq_true rfl), (Nat.le_of_ble_eq_true rfl)⟩ hl.1 rfl (Nat.le_of_ble_eq_true rfl) dX10_begin_56 ⟨rfl, rfl⟩ (fun H locs hw => ?_)
    exact g_vret cx hr hlk hw h dX10_begin_59
  · rw [if_pos c8] at h
    refine lv_aload_n hx hb dX10_begin_37 rfl (lv_at hl 0 rfl) ?_
    refine lv_bipush (v := (-6)) hx hb dX10_begin_38 (by decide) ?_
    refine g_put cx hw inX10 (ci := 9) rfl tyX10_ok nmX10 6 (by decide) rfl rfl rfl rfl shx_137 h fl_X10_70 dX10_begin_40 (fun μ13 H locs h hw => ?_)
    exact g_vret cx hr hlk hw h dX10_begin_43

theorem p_X10_isWorking_ex : ∃ f : Mem → Option (Int32 × Mem), ∀  (μ : Mem), f  μ = (if (μ.1 137 6) = (0 : Int32) then (if (μ.1 39 2) ≤ (μ.1 137 7) then some ((0 : Int32), μ) else some ((1 : Int32), μ)) else some ((0 : Int32), μ)) := ⟨fun  (μ : Mem) => (if (μ.1 137 6) = (0 : Int32) then (if (μ.1 39 2) ≤ (μ.1 137 7) then some ((0 : Int32), μ) else some ((1 : Int32), μ)) else some ((0 : Int32), μ)), fun _ => rfl⟩
noncomputable def p_X10_isWorking : Mem → Option (Int32 × Mem) := Classical.choose p_X10_isWorking_ex
theorem p_X10_isWorking_eq  (μ : Mem) : p_X10_isWorking  μ = (if (μ.1 137 6) = (0 : Int32) then (if (μ.1 39 2) ≤ (μ.1 137 7) then some ((0 : Int32), μ) else some ((1 : Int32), μ)) else some ((0 : Int32), μ)) := Classical.choose_spec p_X10_isWorking_ex  μ
set_option maxHeartbeats 4000000 in
set_option maxRecDepth 100000 in
theorem t_X10_isWorking (l : Launch) (G : Gt) (ad : Nat → Nat)  (μ : Mem) {r : Int32} {μz : Mem} (h : p_X10_isWorking  μ = some (r, μz)) : Mt l yX10_isWorking cX10_isWorking 1 (some .boolean) ({ frames := 0, cells := 0, slots := 0, locals := 0 } : Room) G [.ref (ad 137)] (wd 0 G ad μ) (eI 0 G ad r μz) := by
  refine Bk.mt (by decide) rfl (Nat.le_of_ble_eq_true rfl) ?_
  intro p e s m below meth c A ls H locs cx hr hlk hA hl hw
  have hx := cx.1
  have hb := cx.2.1
  have hl : lv_has ls 1 [(0, .ref (ad 137))] := hl
  rw [p_X10_isWorking_eq] at h
  refine lv_aload_n hx hb dX10_isWorking_0 rfl (lv_at hl 0 rfl) ?_
  refine g_get cx hw inX10 (ci := 9) rfl 6 (by decide) rfl (v := .int (μ.1 137 6)) shx_137 rfl fl_X10_70 dX10_isWorking_1 ?_
  refine lv_if_ne (tgt := 25) hx hb dX10_isWorking_4 (by decide) (fun c1 => ?_) (fun c1 => ?_)
  · rw [if_neg c1] at h
    refine lv_iconst (v := 0) hx hb dX10_isWorking_25 (by decide) ?_
    exact g_zret cx hr hlk rfl hw h dX10_isWorking_26
  · rw [if_pos c1] at h
    refine lv_aload_n hx hb dX10_isWorking_7 rfl (lv_at hl 0 rfl) ?_
    refine g_get cx hw inX10 (ci := 9) rfl 7 (by decide) rfl (v := .int (μ.1 137 7)) shx_137 rfl fl_X10_92 dX10_isWorking_8 ?_
    refine lv_aload_n hx hb dX10_isWorking_11 rfl (lv_at hl 0 rfl) ?_
    refine g_get cx hw inX10 (ci := 9) rfl 4 (by decide) rfl (v := .ref (ad 39)) shx_137 rfl fl_X10_25 dX10_isWorking_12 ?_
    refine g_get cx hw inX5 (ci := 4) rfl 2 (by decide) rfl (v := .int (μ.1 39 2)) shx_39 rfl fl_X10_95 dX10_isWorking_15 ?_
    refine lv_icmp_ge (tgt := 25) hx hb dX10_isWorking_18 (by decide) (fun c2 => ?_) (fun c2 => ?_)
    · rw [if_pos c2] at h
      refine lv_iconst (v := 0) hx hb dX10_isWorking_25 (by decide) ?_
      exact g_zret cx hr hlk rfl hw h dX10_isWorking_26
    · rw [if_neg c2] at h
      refine lv_iconst (v := 1) hx hb dX10_isWorking_21 (by decide) ?_
      refine lv_goto (tgt := 26) hx hb dX10_isWorking_22 (by decide) ?_
      exact g_zret cx hr hlk rfl hw h dX10_isWorking_26

theorem p_X3_stepAt_ex : ∃ f : Nat → Int32 → Mem → Option (Int32 × Mem), ∀ (a0 : Nat) (a1 : Int32) (μ : Mem), f a0 a1 μ = (if a1 < (0 : Int32) then some ((14 : Int32), μ) else (if (μ.1 a0 2) ≤ a1 then some ((14 : Int32), μ) else gd (inb a1 2472) (some ((μ.1 (a0 + 4) a1.toNatClampNeg), μ)))) := ⟨fun (a0 : Nat) (a1 : Int32) (μ : Mem) => (if a1 < (0 : Int32) then some ((14 : Int32), μ) else (if (μ.1 a0 2) ≤ a1 then some ((14 : Int32), μ) else gd (inb a1 2472) (some ((μ.1 (a0 + 4) a1.toNatClampNeg), μ)))), fun _ _ _ => rfl⟩
noncomputable def p_X3_stepAt : Nat → Int32 → Mem → Option (Int32 × Mem) := Classical.choose p_X3_stepAt_ex
theorem p_X3_stepAt_eq (a0 : Nat) (a1 : Int32) (μ : Mem) : p_X3_stepAt a0 a1 μ = (if a1 < (0 : Int32) then some ((14 : Int32), μ) else (if (μ.1 a0 2) ≤ a1 then some ((14 : Int32), μ) else gd (inb a1 2472) (some ((μ.1 (a0 + 4) a1.toNatClampNeg), μ)))) := Classical.choose_spec p_X3_stepAt_ex a0 a1 μ
set_option maxHeartbeats 4000000 in
set_option maxRecDepth 100000 in
theorem t_X3_stepAt (l : Launch) (G : Gt) (ad : Nat → Nat) (a0 : Nat) (q0 : sh 0 a0 = (0, 2)) (a1 : Int32) (μ : Mem) {r : Int32} {μz : Mem} (h : p_X3_stepAt a0 a1 μ = some (r, μz)) : Mt l yX3_stepAt cX3_stepAt 2 (some .int) ({ frames := 0, cells := 0, slots := 0, locals := 0 } : Room) G [.ref (ad a0), .int a1] (wd 0 G ad μ) (eI 0 G ad r μz) := by
  refine Bk.mt (by decide) rfl (Nat.le_of_ble_eq_true rfl) ?_
  intro p e s m below meth c A ls H locs cx hr hlk hA hl hw
  have hx := cx.1
  have hb := cx.2.1
  have hl : lv_has ls 2 [(0, .ref (ad a0)), (1, .int a1)] := hl
  rw [p_X3_stepAt_eq] at h
  refine lv_iload_n hx hb dX3_stepAt_0 rfl (lv_at hl 1 rfl) ?_
  refine lv_if_lt (tgt := 21) hx hb dX3_stepAt_1 (by decide) (fun c1 => ?_) (fun c1 => ?_)
  · rw [if_pos c1] at h
    refine lv_bipush (v := 14) hx hb dX3_stepAt_21 (by decide) ?_
    exact g_iret cx hr hlk hw h dX3_stepAt_23
  · rw [if_neg c1] at h
    refine lv_iload_n hx hb dX3_stepAt_4 rfl (lv_at hl 1 rfl) ?_
    refine lv_aload_n hx hb dX3_stepAt_5 rfl (lv_at hl 0 rfl) ?_
    refine g_get cx hw inX3 (ci := 2) rfl 2 (by decide) rfl (v := .int (μ.1 a0 2)) q0 rfl fl_X3_37 dX3_stepAt_6 ?_
    refine lv_icmp_ge (tgt := 21) hx hb dX3_stepAt_9 (by decide) (fun c2 => ?_) (fun c2 => ?_)
    · rw [if_pos c2] at h
      refine lv_bipush (v := 14) hx hb dX3_stepAt_21 (by decide) ?_
      exact g_iret cx hr hlk hw h dX3_stepAt_23
    · rw [if_neg c2] at h
      refine lv_aload_n hx hb dX3_stepAt_12 rfl (lv_at hl 0 rfl) ?_
      refine g_get cx hw inX3 (ci := 2) rfl 6 (by decide) rfl (v := .ref (ad (a0 + 4))) q0 rfl fl_X3_21 dX3_stepAt_13 ?_
      refine lv_iload_n hx hb dX3_stepAt_16 rfl (lv_at hl 1 rfl) ?_
      refine g_iald cx hw (rl_X3_6 q0) h dX3_stepAt_17 (fun h => ?_)
      refine lv_goto (tgt := 23) hx hb dX3_stepAt_18 (by decide) ?_
      exact g_iret cx hr hlk hw h dX3_stepAt_23

theorem p_X3_markAt_ex : ∃ f : Nat → Int32 → Mem → Option (Int32 × Mem), ∀ (a0 : Nat) (a1 : Int32) (μ : Mem), f a0 a1 μ = (if a1 < (0 : Int32) then some ((0 : Int32), μ) else (if (μ.1 a0 2) ≤ a1 then some ((0 : Int32), μ) else gd (inb a1 2472) (some ((μ.1 (a0 + 5) a1.toNatClampNeg), μ)))) := ⟨fun (a0 : Nat) (a1 : Int32) (μ : Mem) => (if a1 < (0 : Int32) then some ((0 : Int32), μ) else (if (μ.1 a0 2) ≤ a1 then some ((0 : Int32), μ) else gd (inb a1 2472) (some ((μ.1 (a0 + 5) a1.toNatClampNeg), μ)))), fun _ _ _ => rfl⟩
noncomputable def p_X3_markAt : Nat → Int32 → Mem → Option (Int32 × Mem) := Classical.choose p_X3_markAt_ex
theorem p_X3_markAt_eq (a0 : Nat) (a1 : Int32) (μ : Mem) : p_X3_markAt a0 a1 μ = (if a1 < (0 : Int32) then some ((0 : Int32), μ) else (if (μ.1 a0 2) ≤ a1 then some ((0 : Int32), μ) else gd (inb a1 2472) (some ((μ.1 (a0 + 5) a1.toNatClampNeg), μ)))) := Classical.choose_spec p_X3_markAt_ex a0 a1 μ
set_option maxHeartbeats 4000000 in
set_option maxRecDepth 100000 in
theorem t_X3_markAt (l : Launch) (G : Gt) (ad : Nat → Nat) (a0 : Nat) (q0 : sh 0 a0 = (0, 2)) (a1 : Int32) (μ : Mem) {r : Int32} {μz : Mem} (h : p_X3_markAt a0 a1 μ = some (r, μz)) : Mt l yX3_markAt cX3_markAt 2 (some .int) ({ frames := 0, cells := 0, slots := 0, locals := 0 } : Room) G [.ref (ad a0), .int a1] (wd 0 G ad μ) (eI 0 G ad r μz) := by
  refine Bk.mt (by decide) rfl (Nat.le_of_ble_eq_true rfl) ?_
  intro p e s m below meth c A ls H locs cx hr hlk hA hl hw
  have hx := cx.1
  have hb := cx.2.1
  have hl : lv_has ls 2 [(0, .ref (ad a0)), (1, .int a1)] := hl
  rw [p_X3_markAt_eq] at h
  refine lv_iload_n hx hb dX3_markAt_0 rfl (lv_at hl 1 rfl) ?_
  refine lv_if_lt (tgt := 21) hx hb dX3_markAt_1 (by decide) (fun c1 => ?_) (fun c1 => ?_)
  · rw [if_pos c1] at h
    refine lv_iconst (v := 0) hx hb dX3_markAt_21 (by decide) ?_
    exact g_iret cx hr hlk hw h dX3_markAt_22
  · rw [if_neg c1] at h
    refine lv_iload_n hx hb dX3_markAt_4 rfl (lv_at hl 1 rfl) ?_
    refine lv_aload_n hx hb dX3_markAt_5 rfl (lv_at hl 0 rfl) ?_
    refine g_get cx hw inX3 (ci := 2) rfl 2 (by decide) rfl (v := .int (μ.1 a0 2)) q0 rfl fl_X3_37 dX3_markAt_6 ?_
    refine lv_icmp_ge (tgt := 21) hx hb dX3_markAt_9 (by decide) (fun c2 => ?_) (fun c2 => ?_)
    · rw [if_pos c2] at h
      refine lv_iconst (v := 0) hx hb dX3_markAt_21 (by decide) ?_
      exact g_iret cx hr hlk hw h dX3_markAt_22
    · rw [if_neg c2] at h
      refine lv_aload_n hx hb dX3_markAt_12 rfl (lv_at hl 0 rfl) ?_
      refine g_get cx hw inX3 (ci := 2) rfl 7 (by decide) rfl (v := .ref (ad (a0 + 5))) q0 rfl fl_X3_24 dX3_markAt_13 ?_
      refine lv_iload_n hx hb dX3_markAt_16 rfl (lv_at hl 1 rfl) ?_
      refine g_iald cx hw (rl_X3_7 q0) h dX3_markAt_17 (fun h => ?_)
      refine lv_goto (tgt := 22) hx hb dX3_markAt_18 (by decide) ?_
      exact g_iret cx hr hlk hw h dX3_markAt_22

theorem p_X3_bitsAt_ex : ∃ f : Nat → Int32 → Mem → Option (Int32 × Mem), ∀ (a0 : Nat) (a1 : Int32) (μ : Mem), f a0 a1 μ = (if a1 < (0 : Int32) then some ((0 : Int32), μ) else (if (μ.1 a0 2) ≤ a1 then some ((0 : Int32), μ) else gd (inb a1 2472) (some ((μ.1 (a0 + 6) a1.toNatClampNeg), μ)))) := ⟨fun (a0 : Nat) (a1 : Int32) (μ : Mem) => (if a1 < (0 : Int32) then some ((0 : Int32), μ) else (if (μ.1 a0 2) ≤ a1 then some ((0 : Int32), μ) else gd (inb a1 2472) (some ((μ.1 (a0 + 6) a1.toNatClampNeg), μ)))), fun _ _ _ => rfl⟩
noncomputable def p_X3_bitsAt : Nat → Int32 → Mem → Option (Int32 × Mem) := Classical.choose p_X3_bitsAt_ex
theorem p_X3_bitsAt_eq (a0 : Nat) (a1 : Int32) (μ : Mem) : p_X3_bitsAt a0 a1 μ = (if a1 < (0 : Int32) then some ((0 : Int32), μ) else (if (μ.1 a0 2) ≤ a1 then some ((0 : Int32), μ) else gd (inb a1 2472) (some ((μ.1 (a0 + 6) a1.toNatClampNeg), μ)))) := Classical.choose_spec p_X3_bitsAt_ex a0 a1 μ
set_option maxHeartbeats 4000000 in
set_option maxRecDepth 100000 in
theorem t_X3_bitsAt (l : Launch) (G : Gt) (ad : Nat → Nat) (a0 : Nat) (q0 : sh 0 a0 = (0, 2)) (a1 : Int32) (μ : Mem) {r : Int32} {μz : Mem} (h : p_X3_bitsAt a0 a1 μ = some (r, μz)) : Mt l yX3_bitsAt cX3_bitsAt 2 (some .int) ({ frames := 0, cells := 0, slots := 0, locals := 0 } : Room) G [.ref (ad a0), .int a1] (wd 0 G ad μ) (eI 0 G ad r μz) := by
  refine Bk.mt (by decide) rfl (Nat.le_of_ble_eq_true rfl) ?_
  intro p e s m below meth c A ls H locs cx hr hlk hA hl hw
  have hx := cx.1
  have hb := cx.2.1
  have hl : lv_has ls 2 [(0, .ref (ad a0)), (1, .int a1)] := hl
  rw [p_X3_bitsAt_eq] at h
  refine lv_iload_n hx hb dX3_bitsAt_0 rfl (lv_at hl 1 rfl) ?_
  refine lv_if_lt (tgt := 21) hx hb dX3_bitsAt_1 (by decide) (fun c1 => ?_) (fun c1 => ?_)
  · rw [if_pos c1] at h
    refine lv_iconst (v := 0) hx hb dX3_bitsAt_21 (by decide) ?_
    exact g_iret cx hr hlk hw h dX3_bitsAt_22
  · rw [if_neg c1] at h
    refine lv_iload_n hx hb dX3_bitsAt_4 rfl (lv_at hl 1 rfl) ?_
    refine lv_aload_n hx hb dX3_bitsAt_5 rfl (lv_at hl 0 rfl) ?_
    refine g_get cx hw inX3 (ci := 2) rfl 2 (by decide) rfl (v := .int (μ.1 a0 2)) q0 rfl fl_X3_37 dX3_bitsAt_6 ?_
    refine lv_icmp_ge (tgt := 21) hx hb dX3_bitsAt_9 (by decide) (fun c2 => ?_) (fun c2 => ?_)
    · rw [if_pos c2] at h
      refine lv_iconst (v := 0) hx hb dX3_bitsAt_21 (by decide) ?_
      exact g_iret cx hr hlk hw h dX3_bitsAt_22
    · rw [if_neg c2] at h
      refine lv_aload_n hx hb dX3_bitsAt_12 rfl (lv_at hl 0 rfl) ?_
      refine g_get cx hw inX3 (ci := 2) rfl 8 (by decide) rfl (v := .ref (ad (a0 + 6))) q0 rfl fl_X3_27 dX3_bitsAt_13 ?_
      refine lv_iload_n hx hb dX3_bitsAt_16 rfl (lv_at hl 1 rfl) ?_
      refine g_iald cx hw (rl_X3_8 q0) h dX3_bitsAt_17 (fun h => ?_)
      refine lv_goto (tgt := 22) hx hb dX3_bitsAt_18 (by decide) ?_
      exact g_iret cx hr hlk hw h dX3_bitsAt_22

theorem p_X8_push_ex : ∃ f : Int64 → Mem → Option Mem, ∀ (a1 : Int64) (μ : Mem), f a1 μ = (if (2480 : Int32) ≤ (μ.1 30 7) then some μ else gd (inb (μ.1 30 7) 2480) (bv (sL μ 36 (μ.1 30 7).toNatClampNeg a1) (fun μ2 => bv (sF μ2 30 7 ((μ2.1 30 7) + (1 : Int32))) (fun μ3 => some μ3)))) := ⟨fun (a1 : Int64) (μ : Mem) => (if (2480 : Int32) ≤ (μ.1 30 7) then some μ else gd (inb (μ.1 30 7) 2480) (bv (sL μ 36 (μ.1 30 7).toNatClampNeg a1) (fun μ2 => bv (sF μ2 30 7 ((μ2.1 30 7) + (1 : Int32))) (fun μ3 => some μ3)))), fun _ _ => rfl⟩
noncomputable def p_X8_push : Int64 → Mem → Option Mem := Classical.choose p_X8_push_ex
theorem p_X8_push_eq (a1 : Int64) (μ : Mem) : p_X8_push a1 μ = (if (2480 : Int32) ≤ (μ.1 30 7) then some μ else gd (inb (μ.1 30 7) 2480) (bv (sL μ 36 (μ.1 30 7).toNatClampNeg a1) (fun μ2 => bv (sF μ2 30 7 ((μ2.1 30 7) + (1 : Int32))) (fun μ3 => some μ3)))) := Classical.choose_spec p_X8_push_ex a1 μ
set_option maxHeartbeats 4000000 in
set_option maxRecDepth 100000 in
theorem t_X8_push (l : Launch) (G : Gt) (ad : Nat → Nat) (a1 : Int64) (μ : Mem) {μz : Mem} (h : p_X8_push a1 μ = some μz) : Mt l yX8_push cX8_push 3 none ({ frames := 0, cells := 0, slots := 0, locals := 0 } : Room) G [.ref (ad 30), .long a1] (wd 0 G ad μ) (eV 0 G ad μz) := by
  refine Bk.mt (by decide) rfl (Nat.le_of_ble_eq_true rfl) ?_
  intro p e s m below meth c A ls H locs cx hr hlk hA hl hw
  have hx := cx.1
  have hb := cx.2.1
  have hl : lv_has ls 3 [(0, .ref (ad 30)), (1, .long a1)] := hl
  rw [p_X8_push_eq] at h
  refine lv_aload_n hx hb dX8_push_0 rfl (lv_at hl 0 rfl) ?_
  refine g_get cx hw inX8 (ci := 7) rfl 7 (by decide) rfl (v := .int (μ.1 30 7)) shx_30 rfl fl_X8_45 dX8_push_1 ?_
  refine lv_aload_n hx hb dX8_push_4 rfl (lv_at hl 0 rfl) ?_
  refine g_get cx hw inX8 (ci := 7) rfl 6 (by decide) rfl (v := .ref (ad 36)) shx_30 rfl fl_X8_32 dX8_push_5 ?_
  refine g_alen3 cx hw shx_36 (v := 2480) (by decide +kernel) dX8_push_8 ?_
  refine lv_icmp_ge (tgt := 32) hx hb dX8_push_9 (by decide) (fun c1 => ?_) (fun c1 => ?_)
  · rw [if_pos c1] at h
    exact g_vret cx hr hlk hw h dX8_push_32
  · rw [if_neg c1] at h
    refine lv_aload_n hx hb dX8_push_12 rfl (lv_at hl 0 rfl) ?_
    refine g_get cx hw inX8 (ci := 7) rfl 6 (by decide) rfl (v := .ref (ad 36)) shx_30 rfl fl_X8_32 dX8_push_13 ?_
    refine lv_aload_n hx hb dX8_push_16 rfl (lv_at hl 0 rfl) ?_
    refine g_get cx hw inX8 (ci := 7) rfl 7 (by decide) rfl (v := .int (μ.1 30 7)) shx_30 rfl fl_X8_45 dX8_push_17 ?_
    refine lv_lload_n hx hb dX8_push_20 rfl (lv_at hl 1 rfl) ?_
    refine g_last cx hw shx_36 h dX8_push_21 (fun μ2 H locs h hw => ?_)
    refine lv_aload_n hx hb dX8_push_22 rfl (lv_at hl 0 rfl) ?_
    refine lv_dup hx hb dX8_push_23 rfl ?_
    refine g_get cx hw inX8 (ci := 7) rfl 7 (by decide) rfl (v := .int (μ2.1 30 7)) shx_30 rfl fl_X8_45 dX8_push_24 ?_
    refine lv_iconst (v := 1) hx hb dX8_push_27 (by decide) ?_
    refine lv_iadd hx hb dX8_push_28 ?_
    refine g_put cx hw inX8 (ci := 7) rfl tyX8_ok nmX8 7 (by decide) rfl rfl rfl rfl shx_30 h fl_X8_45 dX8_push_29 (fun μ3 H locs h hw => ?_)
    exact g_vret cx hr hlk hw h dX8_push_32

theorem p_X8_varAt_ex : ∃ f : Int32 → Mem → Option (Int64 × Mem), ∀ (a1 : Int32) (μ : Mem), f a1 μ = bv (((μ.1 30 10) * (32 : Int32)) + a1) (fun v1 => (if v1 < (0 : Int32) then some ((0 : Int64), μ) else (if (992 : Int32) ≤ v1 then some ((0 : Int64), μ) else gd (inb v1 992) (some ((μ.2.1 37 v1.toNatClampNeg), μ))))) := ⟨fun (a1 : Int32) (μ : Mem) => bv (((μ.1 30 10) * (32 : Int32)) + a1) (fun v1 => (if v1 < (0 : Int32) then some ((0 : Int64), μ) else (if (992 : Int32) ≤ v1 then some ((0 : Int64), μ) else gd (inb v1 992) (some ((μ.2.1 37 v1.toNatClampNeg), μ))))), fun _ _ => rfl⟩
noncomputable def p_X8_varAt : Int32 → Mem → Option (Int64 × Mem) := Classical.choose p_X8_varAt_ex
theorem p_X8_varAt_eq (a1 : Int32) (μ : Mem) : p_X8_varAt a1 μ = bv (((μ.1 30 10) * (32 : Int32)) + a1) (fun v1 => (if v1 < (0 : Int32) then some ((0 : Int64), μ) else (if (992 : Int32) ≤ v1 then some ((0 : Int64), μ) else gd (inb v1 992) (some ((μ.2.1 37 v1.toNatClampNeg), μ))))) := Classical.choose_spec p_X8_varAt_ex a1 μ
set_option maxHeartbeats 4000000 in
set_option maxRecDepth 100000 in
theorem t_X8_varAt (l : Launch) (G : Gt) (ad : Nat → Nat) (a1 : Int32) (μ : Mem) {r : Int64} {μz : Mem} (h : p_X8_varAt a1 μ = some (r, μz)) : Mt l yX8_varAt cX8_varAt 3 (some .long) ({ frames := 0, cells := 0, slots := 0, locals := 0 } : Room) G [.ref (ad 30), .int a1] (wd 0 G ad μ) (eL 0 G ad r μz) := by
  refine Bk.mt (by decide) rfl (Nat.le_of_ble_eq_true rfl) ?_
  intro p e s m below meth c A ls H locs cx hr hlk hA hl hw
  have hx := cx.1
  have hb := cx.2.1
  have hl : lv_has ls 3 [(0, .ref (ad 30)), (1, .int a1)] := hl
  rw [p_X8_varAt_eq] at h
  refine lv_aload_n hx hb dX8_varAt_0 rfl (lv_at hl 0 rfl) ?_
  refine g_get cx hw inX8 (ci := 7) rfl 10 (by decide) rfl (v := .int (μ.1 30 10)) shx_30 rfl fl_X8_48 dX8_varAt_1 ?_
  refine lv_bipush (v := 32) hx hb dX8_varAt_4 (by decide) ?_
  refine lv_imul hx hb dX8_varAt_6 ?_
  refine lv_iload_n hx hb dX8_varAt_7 rfl (lv_at hl 1 rfl) ?_
  refine lv_iadd hx hb dX8_varAt_8 ?_
  obtain ⟨v1, ev1, h⟩ := bv_ex h
  refine lv_topi (fun y9 z9 => ?_)
  obtain rfl : v1 = y9 := ev1.trans z9.symm
  refine lv_istore_n (lv' := [(2, .int v1), (0, .ref (ad 30)), (1, .int a1)]) hx hb dX8_varAt_9 rfl hl (by decide) rfl (fun ls hl => ?_)
  refine lv_iload_n hx hb dX8_varAt_10 rfl (lv_at hl 0 rfl) ?_
  refine lv_if_lt (tgt := 32) hx hb dX8_varAt_11 (by decide) (fun c2 => ?_) (fun c2 => ?_)
  · rw [if_pos c2] at h
    refine lv_lconst (v := 0) hx hb dX8_varAt_32 (by decide) ?_
    exact g_lret cx hr hlk hw h dX8_varAt_33
  · rw [if_neg c2] at h
    refine lv_iload_n hx hb dX8_varAt_14 rfl (lv_at hl 0 rfl) ?_
    refine lv_aload_n hx hb dX8_varAt_15 rfl (lv_at hl 1 rfl) ?_
    refine g_get cx hw inX8 (ci := 7) rfl 8 (by decide) rfl (v := .ref (ad 37)) shx_30 rfl fl_X8_35 dX8_varAt_16 ?_
    refine g_alen3 cx hw shx_37 (v := 992) (by decide +kernel) dX8_varAt_19 ?_
    refine lv_icmp_ge (tgt := 32) hx hb dX8_varAt_20 (by decide) (fun c3 => ?_) (fun c3 => ?_)
    · rw [if_pos c3] at h
      refine lv_lconst (v := 0) hx hb dX8_varAt_32 (by decide) ?_
      exact g_lret cx hr hlk hw h dX8_varAt_33
    · rw [if_neg c3] at h
      refine lv_aload_n hx hb dX8_varAt_23 rfl (lv_at hl 1 rfl) ?_
      refine g_get cx hw inX8 (ci := 7) rfl 8 (by decide) rfl (v := .ref (ad 37)) shx_30 rfl fl_X8_35 dX8_varAt_24 ?_
      refine lv_iload_n hx hb dX8_varAt_27 rfl (lv_at hl 0 rfl) ?_
      refine g_lald cx hw shx_37 h dX8_varAt_28 (fun h => ?_)
      refine lv_goto (tgt := 33) hx hb dX8_varAt_29 (by decide) ?_
      exact g_lret cx hr hlk hw h dX8_varAt_33

theorem p_X8_pop_ex : ∃ f : Mem → Option (Int64 × Mem), ∀  (μ : Mem), f  μ = (if (1 : Int32) ≤ (μ.1 30 7) then bv (sF μ 30 7 ((μ.1 30 7) - (1 : Int32))) (fun μ2 => gd (inb (μ2.1 30 7) 2480) (some ((μ2.2.1 36 (μ2.1 30 7).toNatClampNeg), μ2))) else some ((0 : Int64), μ)) := ⟨fun  (μ : Mem) => (if (1 : Int32) ≤ (μ.1 30 7) then bv (sF μ 30 7 ((μ.1 30 7) - (1 : Int32))) (fun μ2 => gd (inb (μ2.1 30 7) 2480) (some ((μ2.2.1 36 (μ2.1 30 7).toNatClampNeg), μ2))) else some ((0 : Int64), μ)), fun _ => rfl⟩
noncomputable def p_X8_pop : Mem → Option (Int64 × Mem) := Classical.choose p_X8_pop_ex
theorem p_X8_pop_eq  (μ : Mem) : p_X8_pop  μ = (if (1 : Int32) ≤ (μ.1 30 7) then bv (sF μ 30 7 ((μ.1 30 7) - (1 : Int32))) (fun μ2 => gd (inb (μ2.1 30 7) 2480) (some ((μ2.2.1 36 (μ2.1 30 7).toNatClampNeg), μ2))) else some ((0 : Int64), μ)) := Classical.choose_spec p_X8_pop_ex  μ
set_option maxHeartbeats 4000000 in
set_option maxRecDepth 100000 in
theorem t_X8_pop (l : Launch) (G : Gt) (ad : Nat → Nat)  (μ : Mem) {r : Int64} {μz : Mem} (h : p_X8_pop  μ = some (r, μz)) : Mt l yX8_pop cX8_pop 1 (some .long) ({ frames := 0, cells := 0, slots := 0, locals := 0 } : Room) G [.ref (ad 30)] (wd 0 G ad μ) (eL 0 G ad r μz) := by
  refine Bk.mt (by decide) rfl (Nat.le_of_ble_eq_true rfl) ?_
  intro p e s m below meth c A ls H locs cx hr hlk hA hl hw
  have hx := cx.1
  have hb := cx.2.1
  have hl : lv_has ls 1 [(0, .ref (ad 30))] := hl
  rw [p_X8_pop_eq] at h
  refine lv_aload_n hx hb dX8_pop_0 rfl (lv_at hl 0 rfl) ?_
  refine g_get cx hw inX8 (ci := 7) rfl 7 (by decide) rfl (v := .int (μ.1 30 7)) shx_30 rfl fl_X8_45 dX8_pop_1 ?_
  refine lv_iconst (v := 1) hx hb dX8_pop_4 (by decide) ?_
  refine lv_icmp_ge (tgt := 10) hx hb dX8_pop_5 (by decide) (fun c1 => ?_) (fun c1 => ?_)
  · rw [if_pos c1] at h
    refine lv_aload_n hx hb dX8_pop_10 rfl (lv_at hl 0 rfl) ?_
    refine lv_dup hx hb dX8_pop_11 rfl ?_
    refine g_get cx hw inX8 (ci := 7) rfl 7 (by decide) rfl (v := .int (μ.1 30 7)) shx_30 rfl fl_X8_45 dX8_pop_12 ?_
    refine lv_iconst (v := 1) hx hb dX8_pop_15 (by decide) ?_
    refine lv_isub hx hb dX8_pop_16 ?_
    refine g_put cx hw inX8 (ci := 7) rfl tyX8_ok nmX8 7 (by decide) rfl rfl rfl rfl shx_30 h fl_X8_45 dX8_pop_17 (fun μ2 H locs h hw => ?_)
    refine lv_aload_n hx hb dX8_pop_20 rfl (lv_at hl 0 rfl) ?_
    refine g_get cx hw inX8 (ci := 7) rfl 6 (by decide) rfl (v := .ref (ad 36)) shx_30 rfl fl_X8_32 dX8_pop_21 ?_
    refine lv_aload_n hx hb dX8_pop_24 rfl (lv_at hl 0 rfl) ?_
    refine g_get cx hw inX8 (ci := 7) rfl 7 (by decide) rfl (v := .int (μ2.1 30 7)) shx_30 rfl fl_X8_45 dX8_pop_25 ?_
    refine g_lald cx hw shx_36 h dX8_pop_28 (fun h => ?_)
    exact g_lret cx hr hlk hw h dX8_pop_29
  · rw [if_neg c1] at h
    refine lv_lconst (v := 0) hx hb dX8_pop_8 (by decide) ?_
    exact g_lret cx hr hlk hw h dX8_pop_9

theorem p_X8_firstOf_ex : ∃ f : Int64 → Mem → Option (Int64 × Mem), ∀ (a1 : Int64) (μ : Mem), f a1 μ = bd (p_X8_isPair a1 μ) (fun r2 μ1 => (if r2 = (0 : Int32) then some (a1, μ1) else gd (inb (s_X0_bits a1) 30200) (some ((μ1.2.1 31 (s_X0_bits a1).toNatClampNeg), μ1)))) := ⟨fun (a1 : Int64) (μ : Mem) => bd (p_X8_isPair a1 μ) (fun r2 μ1 => (if r2 = (0 : Int32) then some (a1, μ1) else gd (inb (s_X0_bits a1) 30200) (some ((μ1.2.1 31 (s_X0_bits a1).toNatClampNeg), μ1)))), fun _ _ => rfl⟩
noncomputable def p_X8_firstOf : Int64 → Mem → Option (Int64 × Mem) := Classical.choose p_X8_firstOf_ex
theorem p_X8_firstOf_eq (a1 : Int64) (μ : Mem) : p_X8_firstOf a1 μ = bd (p_X8_isPair a1 μ) (fun r2 μ1 => (if r2 = (0 : Int32) then some (a1, μ1) else gd (inb (s_X0_bits a1) 30200) (some ((μ1.2.1 31 (s_X0_bits a1).toNatClampNeg), μ1)))) := Classical.choose_spec p_X8_firstOf_ex a1 μ
set_option maxHeartbeats 4000000 in
set_option maxRecDepth 100000 in
theorem t_X8_firstOf (l : Launch) (G : Gt) (ad : Nat → Nat) (a1 : Int64) (μ : Mem) {r : Int64} {μz : Mem} (h : p_X8_firstOf a1 μ = some (r, μz)) : Mt l yX8_firstOf cX8_firstOf 3 (some .long) ({ frames := 1, cells := 0, slots := 0, locals := 22 } : Room) G [.ref (ad 30), .long a1] (wd 0 G ad μ) (eL 0 G ad r μz) := by
  refine Bk.mt (by decide) rfl (Nat.le_of_ble_eq_true rfl) ?_
  intro p e s m below meth c A ls H locs cx hr hlk hA hl hw
  have hx := cx.1
  have hb := cx.2.1
  have hl : lv_has ls 3 [(0, .ref (ad 30)), (1, .long a1)] := hl
  rw [p_X8_firstOf_eq] at h
  refine lv_aload_n hx hb dX8_firstOf_0 rfl (lv_at hl 0 rfl) ?_
  refine lv_lload_n hx hb dX8_firstOf_1 rfl (lv_at hl 1 rfl) ?_
  obtain ⟨r2, μ1, gr2, h⟩ := bd_some h
  refine g_callVI (As := [.long a1]) (rest := []) cx hw hA (t_X8_isPair l G ad a1 μ gr2) shx_30 rfl ml_X8_88 im_X8_isPair se_X8_isPair in_X8 co_X8_isPair rfl hd_X8_isPair rfl ⟨(Nat.le_of_ble_eq_true rfl), (Nat.le_of_ble_eq_true rfl)⟩ hl.1 rfl (Nat.le_of_ble_eq_true rfl) dX8_firstOf_2 ⟨rfl, rfl⟩ (fun H locs hw => ?_)
  refine lv_if_eq (tgt := 20) hx hb dX8_firstOf_5 (by decide) (fun c3 => ?_) (fun c3 => ?_)
  · rw [if_pos c3] at h
    refine lv_lload_n hx hb dX8_firstOf_20 rfl (lv_at hl 1 rfl) ?_
    exact g_lret cx hr hlk hw h dX8_firstOf_21
  · rw [if_neg c3] at h
    refine lv_aload_n hx hb dX8_firstOf_8 rfl (lv_at hl 0 rfl) ?_
    refine g_get cx hw inX8 (ci := 7) rfl 0 (by decide) rfl (v := .ref (ad 31)) shx_30 rfl fl_X8_13 dX8_firstOf_9 ?_
    refine lv_lload_n hx hb dX8_firstOf_12 rfl (lv_at hl 1 rfl) ?_
    refine s_callI (As := [.long a1]) (rest := [.ref (ad 31)]) cx hw hA (t_X0_bits l G a1) ml_X8_92 st_X0_bits in_X0 co_X0_bits hd_X0_bits rfl ⟨(Nat.le_of_ble_eq_true rfl), (Nat.le_of_ble_eq_true rfl)⟩ hl.1 rfl (Nat.le_of_ble_eq_true rfl) dX8_firstOf_13 rfl (fun H locs hw => ?_)
    refine g_lald cx hw shx_31 h dX8_firstOf_16 (fun h => ?_)
    refine lv_goto (tgt := 21) hx hb dX8_firstOf_17 (by decide) ?_
    exact g_lret cx hr hlk hw h dX8_firstOf_21

theorem p_X8_num_b5_ex : ∃ f : Nat → Int64 → Int32 → Mem → Option (Int64 × Mem), (∀ (a3 : Int64) (a5 : Int32) (μ : Mem), f  0 a3 a5 μ = none) ∧ (∀ (n : Nat) (a3 : Int64) (a5 : Int32) (μ : Mem), f  (n + 1) a3 a5 μ = (if (64 : Int32) ≤ a5 then some (a3, μ) else bd (p_X8_isPair a3 μ) (fun r3 μ2 => (if r3 = (0 : Int32) then some (a3, μ2) else bd (p_X8_firstOf a3 μ2) (fun r6 μ5 => bv (a5 + 1) (fun v7 => f n r6 v7 μ5)))))) := ⟨fun n => Nat.rec (fun (a3 : Int64) (a5 : Int32) (μ : Mem) => none) (fun _ ih => fun (a3 : Int64) (a5 : Int32) (μ : Mem) => (if (64 : Int32) ≤ a5 then some (a3, μ) else bd (p_X8_isPair a3 μ) (fun r3 μ2 => (if r3 = (0 : Int32) then some (a3, μ2) else bd (p_X8_firstOf a3 μ2) (fun r6 μ5 => bv (a5 + 1) (fun v7 => ih r6 v7 μ5)))))) n, fun  _ _ _ => rfl, fun  _ _ _ _ => rfl⟩
noncomputable def p_X8_num_b5 : Nat → Int64 → Int32 → Mem → Option (Int64 × Mem) := Classical.choose p_X8_num_b5_ex
theorem p_X8_num_b5_z (a3 : Int64) (a5 : Int32) (μ : Mem) : p_X8_num_b5  0 a3 a5 μ = none := (Classical.choose_spec p_X8_num_b5_ex).1  a3 a5 μ
theorem p_X8_num_b5_s (n : Nat) (a3 : Int64) (a5 : Int32) (μ : Mem) : p_X8_num_b5  (n + 1) a3 a5 μ = (if (64 : Int32) ≤ a5 then some (a3, μ) else bd (p_X8_isPair a3 μ) (fun r3 μ2 => (if r3 = (0 : Int32) then some (a3, μ2) else bd (p_X8_firstOf a3 μ2) (fun r6 μ5 => bv (a5 + 1) (fun v7 => p_X8_num_b5  n r6 v7 μ5))))) := (Classical.choose_spec p_X8_num_b5_ex).2  n a3 a5 μ
set_option maxHeartbeats 4000000 in
set_option maxRecDepth 100000 in
theorem t_X8_num_b5 (l : Launch) (G : Gt) (ad : Nat → Nat) (av : List Value) {r : Int64} {μz : Mem} : ∀ (n : Nat) (a3 : Int64) (a5 : Int32) (μ : Mem), p_X8_num_b5  n a3 a5 μ = some (r, μz) → Bk l cX8_num 6 RX8 (some .long) ({ frames := 2, cells := 0, slots := 0, locals := 44 } : Room) G av (eL 0 G ad r μz) (wd 0 G ad μ) 5 [(0, .ref (ad 30)), (3, .long a3), (5, .int a5)] [] := by
  intro n
  induction n with
  | zero => intro a3 a5 μ h; rw [p_X8_num_b5_z] at h; cases h
  | succ n ih =>
    intro a3 a5 μ h p e s m below meth c A ls H locs cx hr hlk hA hl hw
    have hx := cx.1
    have hb := cx.2.1
    rw [p_X8_num_b5_s] at h
    refine lv_iload hx hb dX8_num_5 (lv_at hl 2 rfl) ?_
    refine lv_bipush (v := 64) hx hb dX8_num_7 (by decide) ?_
    refine lv_icmp_ge (tgt := 32) hx hb dX8_num_9 (by decide) (fun c1 => ?_) (fun c1 => ?_)
    · rw [if_pos c1] at h
      refine lv_lload_n hx hb dX8_num_32 rfl (lv_at hl 1 rfl) ?_
      exact g_lret cx hr hlk hw h dX8_num_33
    · rw [if_neg c1] at h
      refine lv_aload_n hx hb dX8_num_12 rfl (lv_at hl 0 rfl) ?_
      refine lv_lload_n hx hb dX8_num_13 rfl (lv_at hl 1 rfl) ?_
      obtain ⟨r3, μ2, gr3, h⟩ := bd_some h
      refine g_callVI (As := [.long a3]) (rest := []) cx hw hA (t_X8_isPair l G ad a3 μ gr3) shx_30 rfl ml_X8_88 im_X8_isPair se_X8_isPair in_X8 co_X8_isPair rfl hd_X8_isPair rfl ⟨(Nat.le_of_ble_eq_true rfl), (Nat.le_of_ble_eq_true rfl)⟩ hl.1 rfl (Nat.le_of_ble_eq_true rfl) dX8_num_14 ⟨rfl, rfl⟩ (fun H locs hw => ?_)
      refine lv_if_eq (tgt := 32) hx hb dX8_num_17 (by decide) (fun c4 => ?_) (fun c4 => ?_)
      · rw [if_pos c4] at h
        refine lv_lload_n hx hb dX8_num_32 rfl (lv_at hl 1 rfl) ?_
        exact g_lret cx hr hlk hw h dX8_num_33
      · rw [if_neg c4] at h
        refine lv_aload_n hx hb dX8_num_20 rfl (lv_at hl 0 rfl) ?_
        refine lv_lload_n hx hb dX8_num_21 rfl (lv_at hl 1 rfl) ?_
        obtain ⟨r6, μ5, gr6, h⟩ := bd_some h
        refine g_callVL (As := [.long a3]) (rest := []) cx hw hA (t_X8_firstOf l G ad a3 μ2 gr6) shx_30 rfl ml_X8_95 im_X8_firstOf se_X8_firstOf in_X8 co_X8_firstOf rfl hd_X8_firstOf rfl ⟨(Nat.le_of_ble_eq_true rfl), (Nat.le_of_ble_eq_true rfl)⟩ hl.1 rfl (Nat.le_of_ble_eq_true rfl) dX8_num_22 ⟨rfl, rfl⟩ (fun H locs hw => ?_)
        refine lv_lstore_n (lv' := [(3, .long r6), (0, .ref (ad 30)), (5, .int a5)]) hx hb dX8_num_25 rfl hl (by decide) rfl (fun ls hl => ?_)
        obtain ⟨v7, ev7, h⟩ := bv_ex h
        refine lv_iinc (v := v7) (lv' := [(5, .int v7), (3, .long r6), (0, .ref (ad 30))]) hx hb dX8_num_26 hl (k := 2) rfl (by rw [ev7]; rfl) (by decide) rfl (fun ls hl => ?_)
        refine lv_goto (tgt := 5) hx hb dX8_num_29 (by decide) ?_
        exact ih r6 v7 μ5 h p e s m below meth c A ls H locs cx hr hlk hA (lv_sub hl [2, 1, 0] rfl) hw
theorem p_X8_num_ex : ∃ f : Int64 → Mem → Option (Int64 × Mem), ∀ (a1 : Int64) (μ : Mem), f a1 μ = p_X8_num_b5  FUEL a1 (0 : Int32) μ := ⟨fun (a1 : Int64) (μ : Mem) => p_X8_num_b5  FUEL a1 (0 : Int32) μ, fun _ _ => rfl⟩
noncomputable def p_X8_num : Int64 → Mem → Option (Int64 × Mem) := Classical.choose p_X8_num_ex
theorem p_X8_num_eq (a1 : Int64) (μ : Mem) : p_X8_num a1 μ = p_X8_num_b5  FUEL a1 (0 : Int32) μ := Classical.choose_spec p_X8_num_ex a1 μ
set_option maxHeartbeats 4000000 in
set_option maxRecDepth 100000 in
theorem t_X8_num (l : Launch) (G : Gt) (ad : Nat → Nat) (a1 : Int64) (μ : Mem) {r : Int64} {μz : Mem} (h : p_X8_num a1 μ = some (r, μz)) : Mt l yX8_num cX8_num 6 (some .long) ({ frames := 2, cells := 0, slots := 0, locals := 44 } : Room) G [.ref (ad 30), .long a1] (wd 0 G ad μ) (eL 0 G ad r μz) := by
  refine Bk.mt (by decide) rfl (Nat.le_of_ble_eq_true rfl) ?_
  intro p e s m below meth c A ls H locs cx hr hlk hA hl hw
  have hx := cx.1
  have hb := cx.2.1
  have hl : lv_has ls 6 [(0, .ref (ad 30)), (1, .long a1)] := hl
  rw [p_X8_num_eq] at h
  refine lv_lload_n hx hb dX8_num_0 rfl (lv_at hl 1 rfl) ?_
  refine lv_lstore_n (lv' := [(3, .long a1), (0, .ref (ad 30)), (1, .long a1)]) hx hb dX8_num_1 rfl hl (by decide) rfl (fun ls hl => ?_)
  refine lv_iconst (v := 0) hx hb dX8_num_2 (by decide) ?_
  refine lv_istore (lv' := [(5, .int 0), (3, .long a1), (0, .ref (ad 30)), (1, .long a1)]) hx hb dX8_num_3 hl (by decide) rfl (fun ls hl => ?_)
  exact t_X8_num_b5 l G ad _  FUEL a1 (0 : Int32) μ h p e s m below meth c A ls H locs cx hr hlk hA (lv_sub hl [2, 1, 0] rfl) hw

theorem p_X8_popNum_ex : ∃ f : Mem → Option (Int64 × Mem), ∀  (μ : Mem), f  μ = bd (p_X8_pop μ) (fun r2 μ1 => bd (p_X8_num r2 μ1) (fun r4 μ3 => some (r4, μ3))) := ⟨fun  (μ : Mem) => bd (p_X8_pop μ) (fun r2 μ1 => bd (p_X8_num r2 μ1) (fun r4 μ3 => some (r4, μ3))), fun _ => rfl⟩
noncomputable def p_X8_popNum : Mem → Option (Int64 × Mem) := Classical.choose p_X8_popNum_ex
theorem p_X8_popNum_eq  (μ : Mem) : p_X8_popNum  μ = bd (p_X8_pop μ) (fun r2 μ1 => bd (p_X8_num r2 μ1) (fun r4 μ3 => some (r4, μ3))) := Classical.choose_spec p_X8_popNum_ex  μ
set_option maxHeartbeats 4000000 in
set_option maxRecDepth 100000 in
theorem t_X8_popNum (l : Launch) (G : Gt) (ad : Nat → Nat)  (μ : Mem) {r : Int64} {μz : Mem} (h : p_X8_popNum  μ = some (r, μz)) : Mt l yX8_popNum cX8_popNum 1 (some .long) ({ frames := 3, cells := 0, slots := 0, locals := 69 } : Room) G [.ref (ad 30)] (wd 0 G ad μ) (eL 0 G ad r μz) := by
  refine Bk.mt (by decide) rfl (Nat.le_of_ble_eq_true rfl) ?_
  intro p e s m below meth c A ls H locs cx hr hlk hA hl hw
  have hx := cx.1
  have hb := cx.2.1
  have hl : lv_has ls 1 [(0, .ref (ad 30))] := hl
  rw [p_X8_popNum_eq] at h
  refine lv_aload_n hx hb dX8_popNum_0 rfl (lv_at hl 0 rfl) ?_
  refine lv_aload_n hx hb dX8_popNum_1 rfl (lv_at hl 0 rfl) ?_
  obtain ⟨r2, μ1, gr2, h⟩ := bd_some h
  refine g_callVL (As := []) (rest := [.ref (ad 30)]) cx hw hA (t_X8_pop l G ad μ gr2) shx_30 rfl ml_X8_53 im_X8_pop se_X8_pop in_X8 co_X8_pop rfl hd_X8_pop rfl ⟨(Nat.le_of_ble_eq_true rfl), (Nat.le_of_ble_eq_true rfl)⟩ hl.1 rfl (Nat.le_of_ble_eq_true rfl) dX8_popNum_2 ⟨rfl, rfl⟩ (fun H locs hw => ?_)
  obtain ⟨r4, μ3, gr4, h⟩ := bd_some h
  refine g_callVL (As := [.long r2]) (rest := []) cx hw hA (t_X8_num l G ad r2 μ1 gr4) shx_30 rfl ml_X8_57 im_X8_num se_X8_num in_X8 co_X8_num rfl hd_X8_num rfl ⟨(Nat.le_of_ble_eq_true rfl), (Nat.le_of_ble_eq_true rfl)⟩ hl.1 rfl (Nat.le_of_ble_eq_true rfl) dX8_popNum_5 ⟨rfl, rfl⟩ (fun H locs hw => ?_)
  exact g_lret cx hr hlk hw h dX8_popNum_8

theorem s_X0_isKnown_ex : ∃ f : Int64 → Int32, ∀ (a0 : Int64), f a0 = (if (0 : Int32) < (lg_cmp ((a0.toUInt64 >>> ((32 : Int32).toInt64.toUInt64 &&& Int64.toUInt64 63)).toInt64) (1 : Int64)) then (0 : Int32) else (1 : Int32)) := ⟨fun (a0 : Int64) => (if (0 : Int32) < (lg_cmp ((a0.toUInt64 >>> ((32 : Int32).toInt64.toUInt64 &&& Int64.toUInt64 63)).toInt64) (1 : Int64)) then (0 : Int32) else (1 : Int32)), fun _ => rfl⟩
noncomputable def s_X0_isKnown : Int64 → Int32 := Classical.choose s_X0_isKnown_ex
theorem s_X0_isKnown_eq (a0 : Int64) : s_X0_isKnown a0 = (if (0 : Int32) < (lg_cmp ((a0.toUInt64 >>> ((32 : Int32).toInt64.toUInt64 &&& Int64.toUInt64 63)).toInt64) (1 : Int64)) then (0 : Int32) else (1 : Int32)) := Classical.choose_spec s_X0_isKnown_ex a0
set_option maxHeartbeats 4000000 in
set_option maxRecDepth 100000 in
theorem t_X0_isKnown (l : Launch) (G : Gt) (a0 : Int64) : Mt l yX0_isKnown cX0_isKnown 2 (some .boolean) ({ frames := 0, cells := 0, slots := 0, locals := 0 } : Room) G [.long a0] [] (sI G (s_X0_isKnown a0)) := by
  obtain ⟨r, h⟩ : ∃ r, s_X0_isKnown a0 = r := ⟨_, rfl⟩
  rw [h]
  refine Bk.mt (by decide) rfl (Nat.le_of_ble_eq_true rfl) ?_
  intro p e s m below meth c A ls H locs cx hr hlk hA hl hw
  have hx := cx.1
  have hb := cx.2.1
  have hl : lv_has ls 2 [(0, .long a0)] := hl
  rw [s_X0_isKnown_eq] at h
  refine lv_lload_n hx hb dX0_isKnown_0 rfl (lv_at hl 0 rfl) ?_
  refine lv_bipush (v := 32) hx hb dX0_isKnown_1 (by decide) ?_
  refine lv_lushr hx hb dX0_isKnown_3 rfl ?_
  refine lv_lconst (v := 1) hx hb dX0_isKnown_4 (by decide) ?_
  refine W.lcmp hx hb dX0_isKnown_5 ?_
  refine lv_if_gt (tgt := 13) hx hb dX0_isKnown_6 (by decide) (fun c1 => ?_) (fun c1 => ?_)
  · rw [if_pos c1] at h
    refine lv_iconst (v := 0) hx hb dX0_isKnown_13 (by decide) ?_
    exact s_zret cx hr hlk rfl hw h dX0_isKnown_14
  · rw [if_neg c1] at h
    refine lv_iconst (v := 1) hx hb dX0_isKnown_9 (by decide) ?_
    refine lv_goto (tgt := 14) hx hb dX0_isKnown_10 (by decide) ?_
    exact s_zret cx hr hlk rfl hw h dX0_isKnown_14

theorem s_X0_cut_b75_ex : ∃ f : Int32 → Int64 → Int32, ∀ (a2 : Int32) (k0 : Int64), f a2 k0 = bv (k0.toInt32) (fun v8 => (if (0 : Int32) ≤ a2 then v8 else (-v8))) := ⟨fun (a2 : Int32) (k0 : Int64) => bv (k0.toInt32) (fun v8 => (if (0 : Int32) ≤ a2 then v8 else (-v8))), fun _ _ => rfl⟩
noncomputable def s_X0_cut_b75 : Int32 → Int64 → Int32 := Classical.choose s_X0_cut_b75_ex
theorem s_X0_cut_b75_eq (a2 : Int32) (k0 : Int64) : s_X0_cut_b75 a2 k0 = bv (k0.toInt32) (fun v8 => (if (0 : Int32) ≤ a2 then v8 else (-v8))) := Classical.choose_spec s_X0_cut_b75_ex a2 k0
set_option maxHeartbeats 4000000 in
set_option maxRecDepth 100000 in
theorem t_X0_cut_b75 (l : Launch) (G : Gt) (av : List Value) {r : Int32} (a2 : Int32) (k0 : Int64) (h : s_X0_cut_b75  a2 k0 = r) : Bk l cX0_cut 5 RX0 (some .int) ({ frames := 1, cells := 0, slots := 0, locals := 21 } : Room) G av (sI G r) [] 75 [(2, .int a2)] [.long k0] := by
  intro p e s m below meth c A ls H locs cx hr hlk hA hl hw
  have hx := cx.1
  have hb := cx.2.1
  rw [s_X0_cut_b75_eq] at h
  refine lv_l2i hx hb dX0_cut_75 rfl ?_
  obtain ⟨v8, ev8, h⟩ := bv_ex h
  refine lv_topi (fun y9 z9 => ?_)
  obtain rfl : v8 = y9 := ev8.trans z9.symm
  refine lv_istore (lv' := [(4, .int v8), (2, .int a2)]) hx hb dX0_cut_76 hl (by decide) rfl (fun ls hl => ?_)
  refine lv_iload_n hx hb dX0_cut_78 rfl (lv_at hl 1 rfl) ?_
  refine lv_if_ge (tgt := 88) hx hb dX0_cut_79 (by decide) (fun c9 => ?_) (fun c9 => ?_)
  · rw [if_pos c9] at h
    refine lv_iload hx hb dX0_cut_88 (lv_at hl 0 rfl) ?_
    exact s_iret cx hr hlk hw h dX0_cut_90
  · rw [if_neg c9] at h
    refine lv_iload hx hb dX0_cut_82 (lv_at hl 0 rfl) ?_
    refine lv_ineg hx hb dX0_cut_84 ?_
    refine lv_goto (tgt := 90) hx hb dX0_cut_85 (by decide) ?_
    exact s_iret cx hr hlk hw h dX0_cut_90
theorem s_X0_cut_ex : ∃ f : Int64 → Int32, ∀ (a0 : Int64), f a0 = bv (s_X0_bits a0) (fun v1 => (if (s_X0_kind a0) = (1 : Int32) then (if (s_X0_isNan v1) = (0 : Int32) then bv (s_X0_lastBitOf v1) (fun v4 => (if v4 ≤ (7 : Int32) then (if (-24 : Int32) ≤ v4 then (if v4 < (0 : Int32) then s_X0_cut_b75  v1 ((s_X0_wholeOf v1) >>> ((-v4).toInt64 &&& 63)) else s_X0_cut_b75  v1 ((s_X0_wholeOf v1) <<< (v4.toInt64 &&& 63))) else (0 : Int32)) else (if (0 : Int32) ≤ v1 then (2147483647 : Int32) else (-2147483648 : Int32)))) else (0 : Int32)) else v1)) := ⟨fun (a0 : Int64) => bv (s_X0_bits a0) (fun v1 => (if (s_X0_kind a0) = (1 : Int32) then (if (s_X0_isNan v1) = (0 : Int32) then bv (s_X0_lastBitOf v1) (fun v4 => (if v4 ≤ (7 : Int32) then (if (-24 : Int32) ≤ v4 then (if v4 < (0 : Int32) then s_X0_cut_b75  v1 ((s_X0_wholeOf v1) >>> ((-v4).toInt64 &&& 63)) else s_X0_cut_b75  v1 ((s_X0_wholeOf v1) <<< (v4.toInt64 &&& 63))) else (0 : Int32)) else (if (0 : Int32) ≤ v1 then (2147483647 : Int32) else (-2147483648 : Int32)))) else (0 : Int32)) else v1)), fun _ => rfl⟩
noncomputable def s_X0_cut : Int64 → Int32 := Classical.choose s_X0_cut_ex
theorem s_X0_cut_eq (a0 : Int64) : s_X0_cut a0 = bv (s_X0_bits a0) (fun v1 => (if (s_X0_kind a0) = (1 : Int32) then (if (s_X0_isNan v1) = (0 : Int32) then bv (s_X0_lastBitOf v1) (fun v4 => (if v4 ≤ (7 : Int32) then (if (-24 : Int32) ≤ v4 then (if v4 < (0 : Int32) then s_X0_cut_b75  v1 ((s_X0_wholeOf v1) >>> ((-v4).toInt64 &&& 63)) else s_X0_cut_b75  v1 ((s_X0_wholeOf v1) <<< (v4.toInt64 &&& 63))) else (0 : Int32)) else (if (0 : Int32) ≤ v1 then (2147483647 : Int32) else (-2147483648 : Int32)))) else (0 : Int32)) else v1)) := Classical.choose_spec s_X0_cut_ex a0
set_option maxHeartbeats 4000000 in
set_option maxRecDepth 100000 in
theorem t_X0_cut (l : Launch) (G : Gt) (a0 : Int64) : Mt l yX0_cut cX0_cut 5 (some .int) ({ frames := 1, cells := 0, slots := 0, locals := 21 } : Room) G [.long a0] [] (sI G (s_X0_cut a0)) := by
  obtain ⟨r, h⟩ : ∃ r, s_X0_cut a0 = r := ⟨_, rfl⟩
  rw [h]
  refine Bk.mt (by decide) rfl (Nat.le_of_ble_eq_true rfl) ?_
  intro p e s m below meth c A ls H locs cx hr hlk hA hl hw
  have hx := cx.1
  have hb := cx.2.1
  have hl : lv_has ls 5 [(0, .long a0)] := hl
  rw [s_X0_cut_eq] at h
  refine lv_lload_n hx hb dX0_cut_0 rfl (lv_at hl 0 rfl) ?_
  refine s_callI (As := [.long a0]) (rest := []) cx hw hA (t_X0_bits l G a0) ml_X0_26 st_X0_bits in_X0 co_X0_bits hd_X0_bits rfl ⟨(Nat.le_of_ble_eq_true rfl), (Nat.le_of_ble_eq_true rfl)⟩ hl.1 rfl (Nat.le_of_ble_eq_true rfl) dX0_cut_1 rfl (fun H locs hw => ?_)
  obtain ⟨v1, ev1, h⟩ := bv_ex h
  refine lv_topi (fun y9 z9 => ?_)
  obtain rfl : v1 = y9 := ev1.trans z9.symm
  refine lv_istore_n (lv' := [(2, .int v1), (0, .long a0)]) hx hb dX0_cut_4 rfl hl (by decide) rfl (fun ls hl => ?_)
  refine lv_lload_n hx hb dX0_cut_5 rfl (lv_at hl 1 rfl) ?_
  refine s_callI (As := [.long a0]) (rest := []) cx hw hA (t_X0_kind l G a0) ml_X0_23 st_X0_kind in_X0 co_X0_kind hd_X0_kind rfl ⟨(Nat.le_of_ble_eq_true rfl), (Nat.le_of_ble_eq_true rfl)⟩ hl.1 rfl (Nat.le_of_ble_eq_true rfl) dX0_cut_6 rfl (fun H locs hw => ?_)
  refine lv_iconst (v := 1) hx hb dX0_cut_9 (by decide) ?_
  refine lv_icmp_eq (tgt := 15) hx hb dX0_cut_10 (by decide) (fun c2 => ?_) (fun c2 => ?_)
  · rw [if_pos c2] at h
    refine lv_iload_n hx hb dX0_cut_15 rfl (lv_at hl 0 rfl) ?_
    refine s_callI (As := [.int v1]) (rest := []) cx hw hA (t_X0_isNan l G v1) ml_X0_36 st_X0_isNan in_X0 co_X0_isNan hd_X0_isNan rfl ⟨(Nat.le_of_ble_eq_true rfl), (Nat.le_of_ble_eq_true rfl)⟩ hl.1 rfl (Nat.le_of_ble_eq_true rfl) dX0_cut_16 rfl (fun H locs hw => ?_)
    refine lv_if_eq (tgt := 24) hx hb dX0_cut_19 (by decide) (fun c3 => ?_) (fun c3 => ?_)
    · rw [if_pos c3] at h
      refine lv_iload_n hx hb dX0_cut_24 rfl (lv_at hl 0 rfl) ?_
      refine s_callI (As := [.int v1]) (rest := []) cx hw hA (t_X0_lastBitOf l G v1) ml_X0_63 st_X0_lastBitOf in_X0 co_X0_lastBitOf hd_X0_lastBitOf rfl ⟨(Nat.le_of_ble_eq_true rfl), (Nat.le_of_ble_eq_true rfl)⟩ hl.1 rfl (Nat.le_of_ble_eq_true rfl) dX0_cut_25 rfl (fun H locs hw => ?_)
      obtain ⟨v4, ev4, h⟩ := bv_ex h
      refine lv_topi (fun y9 z9 => ?_)
      obtain rfl : v4 = y9 := ev4.trans z9.symm
      refine lv_istore_n (lv' := [(3, .int v4), (2, .int v1), (0, .long a0)]) hx hb dX0_cut_28 rfl hl (by decide) rfl (fun ls hl => ?_)
      refine lv_iload_n hx hb dX0_cut_29 rfl (lv_at hl 0 rfl) ?_
      refine lv_bipush (v := 7) hx hb dX0_cut_30 (by decide) ?_
      refine lv_icmp_le (tgt := 47) hx hb dX0_cut_32 (by decide) (fun c5 => ?_) (fun c5 => ?_)
      · rw [if_pos c5] at h
        refine lv_iload_n hx hb dX0_cut_47 rfl (lv_at hl 0 rfl) ?_
        refine lv_bipush (v := (-24)) hx hb dX0_cut_48 (by decide) ?_
        refine lv_icmp_ge (tgt := 55) hx hb dX0_cut_50 (by decide) (fun c6 => ?_) (fun c6 => ?_)
        · rw [if_pos c6] at h
          refine lv_iload_n hx hb dX0_cut_55 rfl (lv_at hl 0 rfl) ?_
          refine lv_if_lt (tgt := 68) hx hb dX0_cut_56 (by decide) (fun c7 => ?_) (fun c7 => ?_)
          · rw [if_pos c7] at h
            refine lv_iload_n hx hb dX0_cut_68 rfl (lv_at hl 1 rfl) ?_
            refine s_callL (As := [.int v1]) (rest := []) cx hw hA (t_X0_wholeOf l G v1) ml_X0_67 st_X0_wholeOf in_X0 co_X0_wholeOf hd_X0_wholeOf rfl ⟨(Nat.le_of_ble_eq_true rfl), (Nat.le_of_ble_eq_true rfl)⟩ hl.1 rfl (Nat.le_of_ble_eq_true rfl) dX0_cut_69 rfl (fun H locs hw => ?_)
            refine lv_iload_n hx hb dX0_cut_72 rfl (lv_at hl 0 rfl) ?_
            refine lv_ineg hx hb dX0_cut_73 ?_
            refine lv_lshr hx hb dX0_cut_74 rfl ?_
            exact t_X0_cut_b75 l G _  v1 ((s_X0_wholeOf v1) >>> ((-v4).toInt64 &&& 63)) h p e s m below meth c A ls H locs cx hr hlk hA (lv_sub hl [1] rfl) hw
          · rw [if_neg c7] at h
            refine lv_iload_n hx hb dX0_cut_59 rfl (lv_at hl 1 rfl) ?_
            refine s_callL (As := [.int v1]) (rest := []) cx hw hA (t_X0_wholeOf l G v1) ml_X0_67 st_X0_wholeOf in_X0 co_X0_wholeOf hd_X0_wholeOf rfl ⟨(Nat.le_of_ble_eq_true rfl), (Nat.le_of_ble_eq_true rfl)⟩ hl.1 rfl (Nat.le_of_ble_eq_true rfl) dX0_cut_60 rfl (fun H locs hw => ?_)
            refine lv_iload_n hx hb dX0_cut_63 rfl (lv_at hl 0 rfl) ?_
            refine lv_lshl hx hb dX0_cut_64 rfl ?_
            refine lv_goto (tgt := 75) hx hb dX0_cut_65 (by decide) ?_
            exact t_X0_cut_b75 l G _  v1 ((s_X0_wholeOf v1) <<< (v4.toInt64 &&& 63)) h p e s m below meth c A ls H locs cx hr hlk hA (lv_sub hl [1] rfl) hw
        · rw [if_neg c6] at h
          refine lv_iconst (v := 0) hx hb dX0_cut_53 (by decide) ?_
          exact s_iret cx hr hlk hw h dX0_cut_54
      · rw [if_neg c5] at h
        refine lv_iload_n hx hb dX0_cut_35 rfl (lv_at hl 1 rfl) ?_
        refine lv_if_ge (tgt := 44) hx hb dX0_cut_36 (by decide) (fun c10 => ?_) (fun c10 => ?_)
        · rw [if_pos c10] at h
          refine lv_ldc hx hb cx.2.2.2.1 (cx.2.2.2.2.1 _ cs_X0_58) dX0_cut_44 ?_
          exact s_iret cx hr hlk hw h dX0_cut_46
        · rw [if_neg c10] at h
          refine lv_ldc hx hb cx.2.2.2.1 (cx.2.2.2.2.1 _ cs_X0_51) dX0_cut_39 ?_
          refine lv_goto (tgt := 46) hx hb dX0_cut_41 (by decide) ?_
          exact s_iret cx hr hlk hw h dX0_cut_46
    · rw [if_neg c3] at h
      refine lv_iconst (v := 0) hx hb dX0_cut_22 (by decide) ?_
      exact s_iret cx hr hlk hw h dX0_cut_23
  · rw [if_neg c2] at h
    refine lv_iload_n hx hb dX0_cut_13 rfl (lv_at hl 0 rfl) ?_
    exact s_iret cx hr hlk hw h dX0_cut_14

theorem s_X0_rest_ex : ∃ f : Int32 → Int32 → Int32, ∀ (a0 : Int32) (a1 : Int32), f a0 a1 = (if a1 = (0 : Int32) then (0 : Int32) else (if a1 = (-1 : Int32) then (0 : Int32) else (a0 - a0 / a1 * a1))) := ⟨fun (a0 : Int32) (a1 : Int32) => (if a1 = (0 : Int32) then (0 : Int32) else (if a1 = (-1 : Int32) then (0 : Int32) else (a0 - a0 / a1 * a1))), fun _ _ => rfl⟩
noncomputable def s_X0_rest : Int32 → Int32 → Int32 := Classical.choose s_X0_rest_ex
theorem s_X0_rest_eq (a0 : Int32) (a1 : Int32) : s_X0_rest a0 a1 = (if a1 = (0 : Int32) then (0 : Int32) else (if a1 = (-1 : Int32) then (0 : Int32) else (a0 - a0 / a1 * a1))) := Classical.choose_spec s_X0_rest_ex a0 a1
set_option maxHeartbeats 4000000 in
set_option maxRecDepth 100000 in
theorem t_X0_rest (l : Launch) (G : Gt) (a0 : Int32) (a1 : Int32) : Mt l yX0_rest cX0_rest 2 (some .int) ({ frames := 0, cells := 0, slots := 0, locals := 0 } : Room) G [.int a0, .int a1] [] (sI G (s_X0_rest a0 a1)) := by
  obtain ⟨r, h⟩ : ∃ r, s_X0_rest a0 a1 = r := ⟨_, rfl⟩
  rw [h]
  refine Bk.mt (by decide) rfl (Nat.le_of_ble_eq_true rfl) ?_
  intro p e s m below meth c A ls H locs cx hr hlk hA hl hw
  have hx := cx.1
  have hb := cx.2.1
  have hl : lv_has ls 2 [(0, .int a0), (1, .int a1)] := hl
  rw [s_X0_rest_eq] at h
  refine lv_iload_n hx hb dX0_rest_0 rfl (lv_at hl 1 rfl) ?_
  refine lv_if_eq (tgt := 9) hx hb dX0_rest_1 (by decide) (fun c1 => ?_) (fun c1 => ?_)
  · rw [if_pos c1] at h
    refine lv_iconst (v := 0) hx hb dX0_rest_9 (by decide) ?_
    refine lv_goto (tgt := 16) hx hb dX0_rest_10 (by decide) ?_
    exact s_iret cx hr hlk hw h dX0_rest_16
  · rw [if_neg c1] at h
    refine lv_iload_n hx hb dX0_rest_4 rfl (lv_at hl 1 rfl) ?_
    refine lv_iconst (v := (-1)) hx hb dX0_rest_5 (by decide) ?_
    refine lv_icmp_ne (tgt := 13) hx hb dX0_rest_6 (by decide) (fun c2 => ?_) (fun c2 => ?_)
    · rw [if_neg c2] at h
      refine lv_iload_n hx hb dX0_rest_13 rfl (lv_at hl 0 rfl) ?_
      refine lv_iload_n hx hb dX0_rest_14 rfl (lv_at hl 1 rfl) ?_
      refine lv_irem hx hb dX0_rest_15 c1 ?_
      exact s_iret cx hr hlk hw h dX0_rest_16
    · rw [if_pos c2] at h
      refine lv_iconst (v := 0) hx hb dX0_rest_9 (by decide) ?_
      refine lv_goto (tgt := 16) hx hb dX0_rest_10 (by decide) ?_
      exact s_iret cx hr hlk hw h dX0_rest_16

theorem s_X0_applyInts_ex : ∃ f : Int32 → Int32 → Int32 → Int32, ∀ (a0 : Int32) (a1 : Int32) (a2 : Int32), f a0 a1 a2 = (if a0 = (42 : Int32) then (a1 * a2) else (if a0 = (43 : Int32) then (a1 + a2) else (if a0 = (45 : Int32) then (a1 - a2) else (if a0 = (47 : Int32) then (if a2 = (0 : Int32) then (0 : Int32) else (a1 / a2)) else (if a0 = (60 : Int32) then (if a2 ≤ a1 then (0 : Int32) else (1 : Int32)) else (if a1 = a2 then (1 : Int32) else (0 : Int32))))))) := ⟨fun (a0 : Int32) (a1 : Int32) (a2 : Int32) => (if a0 = (42 : Int32) then (a1 * a2) else (if a0 = (43 : Int32) then (a1 + a2) else (if a0 = (45 : Int32) then (a1 - a2) else (if a0 = (47 : Int32) then (if a2 = (0 : Int32) then (0 : Int32) else (a1 / a2)) else (if a0 = (60 : Int32) then (if a2 ≤ a1 then (0 : Int32) else (1 : Int32)) else (if a1 = a2 then (1 : Int32) else (0 : Int32))))))), fun _ _ _ => rfl⟩
noncomputable def s_X0_applyInts : Int32 → Int32 → Int32 → Int32 := Classical.choose s_X0_applyInts_ex
theorem s_X0_applyInts_eq (a0 : Int32) (a1 : Int32) (a2 : Int32) : s_X0_applyInts a0 a1 a2 = (if a0 = (42 : Int32) then (a1 * a2) else (if a0 = (43 : Int32) then (a1 + a2) else (if a0 = (45 : Int32) then (a1 - a2) else (if a0 = (47 : Int32) then (if a2 = (0 : Int32) then (0 : Int32) else (a1 / a2)) else (if a0 = (60 : Int32) then (if a2 ≤ a1 then (0 : Int32) else (1 : Int32)) else (if a1 = a2 then (1 : Int32) else (0 : Int32))))))) := Classical.choose_spec s_X0_applyInts_ex a0 a1 a2
set_option maxHeartbeats 4000000 in
set_option maxRecDepth 100000 in
theorem t_X0_applyInts (l : Launch) (G : Gt) (a0 : Int32) (a1 : Int32) (a2 : Int32) : Mt l yX0_applyInts cX0_applyInts 3 (some .int) ({ frames := 0, cells := 0, slots := 0, locals := 0 } : Room) G [.int a0, .int a1, .int a2] [] (sI G (s_X0_applyInts a0 a1 a2)) := by
  obtain ⟨r, h⟩ : ∃ r, s_X0_applyInts a0 a1 a2 = r := ⟨_, rfl⟩
  rw [h]
  refine Bk.mt (by decide) rfl (Nat.le_of_ble_eq_true rfl) ?_
  intro p e s m below meth c A ls H locs cx hr hlk hA hl hw
  have hx := cx.1
  have hb := cx.2.1
  have hl : lv_has ls 3 [(0, .int a0), (1, .int a1), (2, .int a2)] := hl
  rw [s_X0_applyInts_eq] at h
  refine lv_iload_n hx hb dX0_applyInts_0 rfl (lv_at hl 0 rfl) ?_
  refine lv_topi (fun v1 ev1 => ?_)
  by_cases c2 : a0 = (42 : Int32)
  · rw [if_pos c2] at h
    have z9 := ev1.trans c2
    subst z9
    refine lv_lookup (tgt := 60) hx hb dX0_applyInts_1 (by decide +kernel) rfl (by decide) ?_
    refine lv_iload_n hx hb dX0_applyInts_60 rfl (lv_at hl 1 rfl) ?_
    refine lv_iload_n hx hb dX0_applyInts_61 rfl (lv_at hl 2 rfl) ?_
    refine lv_imul hx hb dX0_applyInts_62 ?_
    exact s_iret cx hr hlk hw h dX0_applyInts_63
  rw [if_neg c2] at h
  by_cases c3 : a0 = (43 : Int32)
  · rw [if_pos c3] at h
    have z9 := ev1.trans c3
    subst z9
    refine lv_lookup (tgt := 52) hx hb dX0_applyInts_1 (by decide +kernel) rfl (by decide) ?_
    refine lv_iload_n hx hb dX0_applyInts_52 rfl (lv_at hl 1 rfl) ?_
    refine lv_iload_n hx hb dX0_applyInts_53 rfl (lv_at hl 2 rfl) ?_
    refine lv_iadd hx hb dX0_applyInts_54 ?_
    exact s_iret cx hr hlk hw h dX0_applyInts_55
  rw [if_neg c3] at h
  by_cases c4 : a0 = (45 : Int32)
  · rw [if_pos c4] at h
    have z9 := ev1.trans c4
    subst z9
    refine lv_lookup (tgt := 56) hx hb dX0_applyInts_1 (by decide +kernel) rfl (by decide) ?_
    refine lv_iload_n hx hb dX0_applyInts_56 rfl (lv_at hl 1 rfl) ?_
    refine lv_iload_n hx hb dX0_applyInts_57 rfl (lv_at hl 2 rfl) ?_
    refine lv_isub hx hb dX0_applyInts_58 ?_
    exact s_iret cx hr hlk hw h dX0_applyInts_59
  rw [if_neg c4] at h
  by_cases c5 : a0 = (47 : Int32)
  · rw [if_pos c5] at h
    have z9 := ev1.trans c5
    subst z9
    refine lv_lookup (tgt := 64) hx hb dX0_applyInts_1 (by decide +kernel) rfl (by decide) ?_
    refine lv_iload_n hx hb dX0_applyInts_64 rfl (lv_at hl 2 rfl) ?_
    refine lv_if_ne (tgt := 72) hx hb dX0_applyInts_65 (by decide) (fun c6 => ?_) (fun c6 => ?_)
    · rw [if_neg c6] at h
      refine lv_iload_n hx hb dX0_applyInts_72 rfl (lv_at hl 1 rfl) ?_
      refine lv_iload_n hx hb dX0_applyInts_73 rfl (lv_at hl 2 rfl) ?_
      refine lv_idiv hx hb dX0_applyInts_74 c6 ?_
      exact s_iret cx hr hlk hw h dX0_applyInts_75
    · rw [if_pos c6] at h
      refine lv_iconst (v := 0) hx hb dX0_applyInts_68 (by decide) ?_
      refine lv_goto (tgt := 75) hx hb dX0_applyInts_69 (by decide) ?_
      exact s_iret cx hr hlk hw h dX0_applyInts_75
  rw [if_neg c5] at h
  by_cases c7 : a0 = (60 : Int32)
  · rw [if_pos c7] at h
    have z9 := ev1.trans c7
    subst z9
    refine lv_lookup (tgt := 76) hx hb dX0_applyInts_1 (by decide +kernel) rfl (by decide) ?_
    refine lv_iload_n hx hb dX0_applyInts_76 rfl (lv_at hl 1 rfl) ?_
    refine lv_iload_n hx hb dX0_applyInts_77 rfl (lv_at hl 2 rfl) ?_
    refine lv_icmp_ge (tgt := 85) hx hb dX0_applyInts_78 (by decide) (fun c8 => ?_) (fun c8 => ?_)
    · rw [if_pos c8] at h
      refine lv_iconst (v := 0) hx hb dX0_applyInts_85 (by decide) ?_
      exact s_iret cx hr hlk hw h dX0_applyInts_86
    · rw [if_neg c8] at h
      refine lv_iconst (v := 1) hx hb dX0_applyInts_81 (by decide) ?_
      refine lv_goto (tgt := 86) hx hb dX0_applyInts_82 (by decide) ?_
      exact s_iret cx hr hlk hw h dX0_applyInts_86
  rw [if_neg c7] at h
  rw [ev1]
  refine lv_lookup (tgt := 87) hx hb dX0_applyInts_1 (by decide +kernel) (off := 86) (by simp [Op.lookupswitch.offset, sw_nq (42) (by decide) c2, sw_nq (43) (by decide) c3, sw_nq (45) (by decide) c4, sw_nq (47) (by decide) c5, sw_nq (60) (by decide) c7]) (by decide) ?_
  refine lv_iload_n hx hb dX0_applyInts_87 rfl (lv_at hl 1 rfl) ?_
  refine lv_iload_n hx hb dX0_applyInts_88 rfl (lv_at hl 2 rfl) ?_
  refine lv_icmp_ne (tgt := 96) hx hb dX0_applyInts_89 (by decide) (fun c9 => ?_) (fun c9 => ?_)
  · rw [if_neg c9] at h
    refine lv_iconst (v := 0) hx hb dX0_applyInts_96 (by decide) ?_
    exact s_iret cx hr hlk hw h dX0_applyInts_97
  · rw [if_pos c9] at h
    refine lv_iconst (v := 1) hx hb dX0_applyInts_92 (by decide) ?_
    refine lv_goto (tgt := 97) hx hb dX0_applyInts_93 (by decide) ?_
    exact s_iret cx hr hlk hw h dX0_applyInts_97

theorem s_X0_ordered_ex : ∃ f : Int32 → Int32, ∀ (a0 : Int32), f a0 = (if (0 : Int32) ≤ a0 then a0 else (-(a0 &&& (2147483647 : Int32)))) := ⟨fun (a0 : Int32) => (if (0 : Int32) ≤ a0 then a0 else (-(a0 &&& (2147483647 : Int32)))), fun _ => rfl⟩
noncomputable def s_X0_ordered : Int32 → Int32 := Classical.choose s_X0_ordered_ex
theorem s_X0_ordered_eq (a0 : Int32) : s_X0_ordered a0 = (if (0 : Int32) ≤ a0 then a0 else (-(a0 &&& (2147483647 : Int32)))) := Classical.choose_spec s_X0_ordered_ex a0
set_option maxHeartbeats 4000000 in
set_option maxRecDepth 100000 in
theorem t_X0_ordered (l : Launch) (G : Gt) (a0 : Int32) : Mt l yX0_ordered cX0_ordered 1 (some .int) ({ frames := 0, cells := 0, slots := 0, locals := 0 } : Room) G [.int a0] [] (sI G (s_X0_ordered a0)) := by
  obtain ⟨r, h⟩ : ∃ r, s_X0_ordered a0 = r := ⟨_, rfl⟩
  rw [h]
  refine Bk.mt (by decide) rfl (Nat.le_of_ble_eq_true rfl) ?_
  intro p e s m below meth c A ls H locs cx hr hlk hA hl hw
  have hx := cx.1
  have hb := cx.2.1
  have hl : lv_has ls 1 [(0, .int a0)] := hl
  rw [s_X0_ordered_eq] at h
  refine lv_iload_n hx hb dX0_ordered_0 rfl (lv_at hl 0 rfl) ?_
  refine lv_if_ge (tgt := 12) hx hb dX0_ordered_1 (by decide) (fun c1 => ?_) (fun c1 => ?_)
  · rw [if_pos c1] at h
    refine lv_iload_n hx hb dX0_ordered_12 rfl (lv_at hl 0 rfl) ?_
    exact s_iret cx hr hlk hw h dX0_ordered_13
  · rw [if_neg c1] at h
    refine lv_iload_n hx hb dX0_ordered_4 rfl (lv_at hl 0 rfl) ?_
    refine lv_ldc hx hb cx.2.2.2.1 (cx.2.2.2.2.1 _ cs_X0_58) dX0_ordered_5 ?_
    refine lv_iand hx hb dX0_ordered_7 ?_
    refine lv_ineg hx hb dX0_ordered_8 ?_
    refine lv_goto (tgt := 13) hx hb dX0_ordered_9 (by decide) ?_
    exact s_iret cx hr hlk hw h dX0_ordered_13

theorem s_X0_isBelow_ex : ∃ f : Int32 → Int32 → Int32, ∀ (a0 : Int32) (a1 : Int32), f a0 a1 = (if (s_X0_isNan a0) = (0 : Int32) then (if (s_X0_isNan a1) = (0 : Int32) then (if (s_X0_ordered a1) ≤ (s_X0_ordered a0) then (0 : Int32) else (1 : Int32)) else (0 : Int32)) else (0 : Int32)) := ⟨fun (a0 : Int32) (a1 : Int32) => (if (s_X0_isNan a0) = (0 : Int32) then (if (s_X0_isNan a1) = (0 : Int32) then (if (s_X0_ordered a1) ≤ (s_X0_ordered a0) then (0 : Int32) else (1 : Int32)) else (0 : Int32)) else (0 : Int32)), fun _ _ => rfl⟩
noncomputable def s_X0_isBelow : Int32 → Int32 → Int32 := Classical.choose s_X0_isBelow_ex
theorem s_X0_isBelow_eq (a0 : Int32) (a1 : Int32) : s_X0_isBelow a0 a1 = (if (s_X0_isNan a0) = (0 : Int32) then (if (s_X0_isNan a1) = (0 : Int32) then (if (s_X0_ordered a1) ≤ (s_X0_ordered a0) then (0 : Int32) else (1 : Int32)) else (0 : Int32)) else (0 : Int32)) := Classical.choose_spec s_X0_isBelow_ex a0 a1
set_option maxHeartbeats 4000000 in
set_option maxRecDepth 100000 in
theorem t_X0_isBelow (l : Launch) (G : Gt) (a0 : Int32) (a1 : Int32) : Mt l yX0_isBelow cX0_isBelow 2 (some .boolean) ({ frames := 1, cells := 0, slots := 0, locals := 20 } : Room) G [.int a0, .int a1] [] (sI G (s_X0_isBelow a0 a1)) := by
  obtain ⟨r, h⟩ : ∃ r, s_X0_isBelow a0 a1 = r := ⟨_, rfl⟩
  rw [h]
  refine Bk.mt (by decide) rfl (Nat.le_of_ble_eq_true rfl) ?_
  intro p e s m below meth c A ls H locs cx hr hlk hA hl hw
  have hx := cx.1
  have hb := cx.2.1
  have hl : lv_has ls 2 [(0, .int a0), (1, .int a1)] := hl
  rw [s_X0_isBelow_eq] at h
  refine lv_iload_n hx hb dX0_isBelow_0 rfl (lv_at hl 0 rfl) ?_
  refine s_callI (As := [.int a0]) (rest := []) cx hw hA (t_X0_isNan l G a0) ml_X0_36 st_X0_isNan in_X0 co_X0_isNan hd_X0_isNan rfl ⟨(Nat.le_of_ble_eq_true rfl), (Nat.le_of_ble_eq_true rfl)⟩ hl.1 rfl (Nat.le_of_ble_eq_true rfl) dX0_isBelow_1 rfl (fun H locs hw => ?_)
  refine lv_if_ne (tgt := 29) hx hb dX0_isBelow_4 (by decide) (fun c1 => ?_) (fun c1 => ?_)
  · rw [if_neg c1] at h
    refine lv_iconst (v := 0) hx hb dX0_isBelow_29 (by decide) ?_
    exact s_zret cx hr hlk rfl hw h dX0_isBelow_30
  · rw [if_pos c1] at h
    refine lv_iload_n hx hb dX0_isBelow_7 rfl (lv_at hl 1 rfl) ?_
    refine s_callI (As := [.int a1]) (rest := []) cx hw hA (t_X0_isNan l G a1) ml_X0_36 st_X0_isNan in_X0 co_X0_isNan hd_X0_isNan rfl ⟨(Nat.le_of_ble_eq_true rfl), (Nat.le_of_ble_eq_true rfl)⟩ hl.1 rfl (Nat.le_of_ble_eq_true rfl) dX0_isBelow_8 rfl (fun H locs hw => ?_)
    refine lv_if_ne (tgt := 29) hx hb dX0_isBelow_11 (by decide) (fun c2 => ?_) (fun c2 => ?_)
    · rw [if_neg c2] at h
      refine lv_iconst (v := 0) hx hb dX0_isBelow_29 (by decide) ?_
      exact s_zret cx hr hlk rfl hw h dX0_isBelow_30
    · rw [if_pos c2] at h
      refine lv_iload_n hx hb dX0_isBelow_14 rfl (lv_at hl 0 rfl) ?_
      refine s_callI (As := [.int a0]) (rest := []) cx hw hA (t_X0_ordered l G a0) ml_X0_72 st_X0_ordered in_X0 co_X0_ordered hd_X0_ordered rfl ⟨(Nat.le_of_ble_eq_true rfl), (Nat.le_of_ble_eq_true rfl)⟩ hl.1 rfl (Nat.le_of_ble_eq_true rfl) dX0_isBelow_15 rfl (fun H locs hw => ?_)
      refine lv_iload_n hx hb dX0_isBelow_18 rfl (lv_at hl 1 rfl) ?_
      refine s_callI (As := [.int a1]) (rest := [.int (s_X0_ordered a0)]) cx hw hA (t_X0_ordered l G a1) ml_X0_72 st_X0_ordered in_X0 co_X0_ordered hd_X0_ordered rfl ⟨(Nat.le_of_ble_eq_true rfl), (Nat.le_of_ble_eq_true rfl)⟩ hl.1 rfl (Nat.le_of_ble_eq_true rfl) dX0_isBelow_19 rfl (fun H locs hw => ?_)
      refine lv_icmp_ge (tgt := 29) hx hb dX0_isBelow_22 (by decide) (fun c3 => ?_) (fun c3 => ?_)
      · rw [if_pos c3] at h
        refine lv_iconst (v := 0) hx hb dX0_isBelow_29 (by decide) ?_
        exact s_zret cx hr hlk rfl hw h dX0_isBelow_30
      · rw [if_neg c3] at h
        refine lv_iconst (v := 1) hx hb dX0_isBelow_25 (by decide) ?_
        refine lv_goto (tgt := 30) hx hb dX0_isBelow_26 (by decide) ?_
        exact s_zret cx hr hlk rfl hw h dX0_isBelow_30

theorem s_X0_isEqual_ex : ∃ f : Int32 → Int32 → Int32, ∀ (a0 : Int32) (a1 : Int32), f a0 a1 = (if (s_X0_isNan a0) = (0 : Int32) then (if (s_X0_isNan a1) = (0 : Int32) then (if (s_X0_ordered a0) = (s_X0_ordered a1) then (1 : Int32) else (0 : Int32)) else (0 : Int32)) else (0 : Int32)) := ⟨fun (a0 : Int32) (a1 : Int32) => (if (s_X0_isNan a0) = (0 : Int32) then (if (s_X0_isNan a1) = (0 : Int32) then (if (s_X0_ordered a0) = (s_X0_ordered a1) then (1 : Int32) else (0 : Int32)) else (0 : Int32)) else (0 : Int32)), fun _ _ => rfl⟩
noncomputable def s_X0_isEqual : Int32 → Int32 → Int32 := Classical.choose s_X0_isEqual_ex
theorem s_X0_isEqual_eq (a0 : Int32) (a1 : Int32) : s_X0_isEqual a0 a1 = (if (s_X0_isNan a0) = (0 : Int32) then (if (s_X0_isNan a1) = (0 : Int32) then (if (s_X0_ordered a0) = (s_X0_ordered a1) then (1 : Int32) else (0 : Int32)) else (0 : Int32)) else (0 : Int32)) := Classical.choose_spec s_X0_isEqual_ex a0 a1
set_option maxHeartbeats 4000000 in
set_option maxRecDepth 100000 in
theorem t_X0_isEqual (l : Launch) (G : Gt) (a0 : Int32) (a1 : Int32) : Mt l yX0_isEqual cX0_isEqual 2 (some .boolean) ({ frames := 1, cells := 0, slots := 0, locals := 20 } : Room) G [.int a0, .int a1] [] (sI G (s_X0_isEqual a0 a1)) := by
  obtain ⟨r, h⟩ : ∃ r, s_X0_isEqual a0 a1 = r := ⟨_, rfl⟩
  rw [h]
  refine Bk.mt (by decide) rfl (Nat.le_of_ble_eq_true rfl) ?_
  intro p e s m below meth c A ls H locs cx hr hlk hA hl hw
  have hx := cx.1
  have hb := cx.2.1
  have hl : lv_has ls 2 [(0, .int a0), (1, .int a1)] := hl
  rw [s_X0_isEqual_eq] at h
  refine lv_iload_n hx hb dX0_isEqual_0 rfl (lv_at hl 0 rfl) ?_
  refine s_callI (As := [.int a0]) (rest := []) cx hw hA (t_X0_isNan l G a0) ml_X0_36 st_X0_isNan in_X0 co_X0_isNan hd_X0_isNan rfl ⟨(Nat.le_of_ble_eq_true rfl), (Nat.le_of_ble_eq_true rfl)⟩ hl.1 rfl (Nat.le_of_ble_eq_true rfl) dX0_isEqual_1 rfl (fun H locs hw => ?_)
  refine lv_if_ne (tgt := 29) hx hb dX0_isEqual_4 (by decide) (fun c1 => ?_) (fun c1 => ?_)
  · rw [if_neg c1] at h
    refine lv_iconst (v := 0) hx hb dX0_isEqual_29 (by decide) ?_
    exact s_zret cx hr hlk rfl hw h dX0_isEqual_30
  · rw [if_pos c1] at h
    refine lv_iload_n hx hb dX0_isEqual_7 rfl (lv_at hl 1 rfl) ?_
    refine s_callI (As := [.int a1]) (rest := []) cx hw hA (t_X0_isNan l G a1) ml_X0_36 st_X0_isNan in_X0 co_X0_isNan hd_X0_isNan rfl ⟨(Nat.le_of_ble_eq_true rfl), (Nat.le_of_ble_eq_true rfl)⟩ hl.1 rfl (Nat.le_of_ble_eq_true rfl) dX0_isEqual_8 rfl (fun H locs hw => ?_)
    refine lv_if_ne (tgt := 29) hx hb dX0_isEqual_11 (by decide) (fun c2 => ?_) (fun c2 => ?_)
    · rw [if_neg c2] at h
      refine lv_iconst (v := 0) hx hb dX0_isEqual_29 (by decide) ?_
      exact s_zret cx hr hlk rfl hw h dX0_isEqual_30
    · rw [if_pos c2] at h
      refine lv_iload_n hx hb dX0_isEqual_14 rfl (lv_at hl 0 rfl) ?_
      refine s_callI (As := [.int a0]) (rest := []) cx hw hA (t_X0_ordered l G a0) ml_X0_72 st_X0_ordered in_X0 co_X0_ordered hd_X0_ordered rfl ⟨(Nat.le_of_ble_eq_true rfl), (Nat.le_of_ble_eq_true rfl)⟩ hl.1 rfl (Nat.le_of_ble_eq_true rfl) dX0_isEqual_15 rfl (fun H locs hw => ?_)
      refine lv_iload_n hx hb dX0_isEqual_18 rfl (lv_at hl 1 rfl) ?_
      refine s_callI (As := [.int a1]) (rest := [.int (s_X0_ordered a0)]) cx hw hA (t_X0_ordered l G a1) ml_X0_72 st_X0_ordered in_X0 co_X0_ordered hd_X0_ordered rfl ⟨(Nat.le_of_ble_eq_true rfl), (Nat.le_of_ble_eq_true rfl)⟩ hl.1 rfl (Nat.le_of_ble_eq_true rfl) dX0_isEqual_19 rfl (fun H locs hw => ?_)
      refine lv_icmp_ne (tgt := 29) hx hb dX0_isEqual_22 (by decide) (fun c3 => ?_) (fun c3 => ?_)
      · rw [if_neg c3] at h
        refine lv_iconst (v := 0) hx hb dX0_isEqual_29 (by decide) ?_
        exact s_zret cx hr hlk rfl hw h dX0_isEqual_30
      · rw [if_pos c3] at h
        refine lv_iconst (v := 1) hx hb dX0_isEqual_25 (by decide) ?_
        refine lv_goto (tgt := 30) hx hb dX0_isEqual_26 (by decide) ?_
        exact s_zret cx hr hlk rfl hw h dX0_isEqual_30
