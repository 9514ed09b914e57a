theorem p_X12_program_ex : ∃ f : Mem → Option (Int32 × Mem), ∀  (μ : Mem), f  μ = bd (p_X12_readProgram μ) (fun r2 μ1 => bv (sF μ1 0 3 (0 : Int32)) (fun μ3 => (if r2 = (0 : Int32) then some ((-1 : Int32), μ3) else bv (sF μ3 0 95 (0 : Int32)) (fun μ5 => bv (sF μ5 0 17 (μ5.1 0 27)) (fun μ6 => bv (sF μ6 0 18 (μ6.1 0 28)) (fun μ7 => bw (p_X12_copy 11 (0 : Int32) (μ7.1 0 17) 2 (0 : Int32) μ7) (fun μ8 => bw (p_X12_copy 12 (0 : Int32) (μ8.1 0 17) 3 (0 : Int32) μ8) (fun μ10 => bw (p_X12_copy 13 (0 : Int32) ((5 : Int32) * (μ10.1 0 17)) 4 (0 : Int32) μ10) (fun μ12 => bw (p_X12_copy 14 (0 : Int32) (μ12.1 0 17) 5 (0 : Int32) μ12) (fun μ14 => bw (p_X12_copy 15 (0 : Int32) (μ14.1 0 17) 6 (0 : Int32) μ14) (fun μ16 => bw (p_X12_copy 16 (0 : Int32) (μ16.1 0 18) 7 (0 : Int32) μ16) (fun μ18 => bw (p_X12_copy 17 (0 : Int32) (μ18.1 0 18) 8 (0 : Int32) μ18) (fun μ20 => bw (p_X12_copy 18 (0 : Int32) (μ20.1 0 18) 9 (0 : Int32) μ20) (fun μ22 => bw (p_X12_layBehind μ22) (fun μ24 => some ((μ24.1 0 17), μ24)))))))))))))))) := ⟨fun  (μ : Mem) => bd (p_X12_readProgram μ) (fun r2 μ1 => bv (sF μ1 0 3 (0 : Int32)) (fun μ3 => (if r2 = (0 : Int32) then some ((-1 : Int32), μ3) else bv (sF μ3 0 95 (0 : Int32)) (fun μ5 => bv (sF μ5 0 17 (μ5.1 0 27)) (fun μ6 => bv (sF μ6 0 18 (μ6.1 0 28)) (fun μ7 => bw (p_X12_copy 11 (0 : Int32) (μ7.1 0 17) 2 (0 : Int32) μ7) (fun μ8 => bw (p_X12_copy 12 (0 : Int32) (μ8.1 0 17) 3 (0 : Int32) μ8) (fun μ10 => bw (p_X12_copy 13 (0 : Int32) ((5 : Int32) * (μ10.1 0 17)) 4 (0 : Int32) μ10) (fun μ12 => bw (p_X12_copy 14 (0 : Int32) (μ12.1 0 17) 5 (0 : Int32) μ12) (fun μ14 => bw (p_X12_copy 15 (0 : Int32) (μ14.1 0 17) 6 (0 : Int32) μ14) (fun μ16 => bw (p_X12_copy 16 (0 : Int32) (μ16.1 0 18) 7 (0 : Int32) μ16) (fun μ18 => bw (p_X12_copy 17 (0 : Int32) (μ18.1 0 18) 8 (0 : Int32) μ18) (fun μ20 => bw (p_X12_copy 18 (0 : Int32) (μ20.1 0 18) 9 (0 : Int32) μ20) (fun μ22 => bw (p_X12_layBehind μ22) (fun μ24 => some ((μ24.1 0 17), μ24)))))))))))))))), fun _ => rfl⟩
noncomputable def p_X12_program : Mem → Option (Int32 × Mem) := Classical.choose p_X12_program_ex
theorem p_X12_program_eq  (μ : Mem) : p_X12_program  μ = bd (p_X12_readProgram μ) (fun r2 μ1 => bv (sF μ1 0 3 (0 : Int32)) (fun μ3 => (if r2 = (0 : Int32) then some ((-1 : Int32), μ3) else bv (sF μ3 0 95 (0 : Int32)) (fun μ5 => bv (sF μ5 0 17 (μ5.1 0 27)) (fun μ6 => bv (sF μ6 0 18 (μ6.1 0 28)) (fun μ7 => bw (p_X12_copy 11 (0 : Int32) (μ7.1 0 17) 2 (0 : Int32) μ7) (fun μ8 => bw (p_X12_copy 12 (0 : Int32) (μ8.1 0 17) 3 (0 : Int32) μ8) (fun μ10 => bw (p_X12_copy 13 (0 : Int32) ((5 : Int32) * (μ10.1 0 17)) 4 (0 : Int32) μ10) (fun μ12 => bw (p_X12_copy 14 (0 : Int32) (μ12.1 0 17) 5 (0 : Int32) μ12) (fun μ14 => bw (p_X12_copy 15 (0 : Int32) (μ14.1 0 17) 6 (0 : Int32) μ14) (fun μ16 => bw (p_X12_copy 16 (0 : Int32) (μ16.1 0 18) 7 (0 : Int32) μ16) (fun μ18 => bw (p_X12_copy 17 (0 : Int32) (μ18.1 0 18) 8 (0 : Int32) μ18) (fun μ20 => bw (p_X12_copy 18 (0 : Int32) (μ20.1 0 18) 9 (0 : Int32) μ20) (fun μ22 => bw (p_X12_layBehind μ22) (fun μ24 => some ((μ24.1 0 17), μ24)))))))))))))))) := Classical.choose_spec p_X12_program_ex  μ
set_option maxHeartbeats 4000000 in
set_option maxRecDepth 100000 in
theorem t_X12_program (l : Launch) (G : Gt) (ad : Nat → Nat)  (μ : Mem) {r : Int32} {μz : Mem} (h : p_X12_program  μ = some (r, μz)) : Mt l yX12_program cX12_program 2 (some .int) ({ frames := 8, cells := 0, slots := 0, locals := 177 } : Room) G [.ref (ad 0)] (wd 1 G ad μ) (eI 1 G ad r μz) := by
  refine Bk.mt (by decide) rfl (Nat.le_of_ble_eq_true rfl) ?_
  intro p e s m below meth c A ls H locs cx hr hlk hA hl hw
  have hx := cx.1
  have hb := cx.2.1
  have hl : lv_has ls 2 [(0, .ref (ad 0))] := hl
  rw [p_X12_program_eq] at h
  refine lv_aload_n hx hb dX12_program_0 rfl (lv_at hl 0 rfl) ?_
  obtain ⟨r2, μ1, gr2, h⟩ := bd_some h
  refine g_callVI (As := []) (rest := []) cx hw hA (t_X12_readProgram l G ad μ gr2) shm_0 rfl ml_X12_461 im_X12_readProgram se_X12_readProgram in_X12 co_X12_readProgram rfl hd_X12_readProgram rfl ⟨(Nat.le_of_ble_eq_true rfl), (Nat.le_of_ble_eq_true rfl)⟩ hl.1 rfl (Nat.le_of_ble_eq_true rfl) dX12_program_1 ⟨rfl, rfl⟩ (fun H locs hw => ?_)
  refine lv_istore_n (lv' := [(1, .int r2), (0, .ref (ad 0))]) hx hb dX12_program_4 rfl hl (by decide) rfl (fun ls hl => ?_)
  refine lv_aload_n hx hb dX12_program_5 rfl (lv_at hl 1 rfl) ?_
  refine lv_iconst (v := 0) hx hb dX12_program_6 (by decide) ?_
  refine g_put cx hw inX12 (ci := 11) rfl tyX12_ok nmX12 3 (by decide) rfl rfl rfl rfl shm_0 h fl_X12_352 dX12_program_7 (fun μ3 H locs h hw => ?_)
  refine lv_iload_n hx hb dX12_program_10 rfl (lv_at hl 0 rfl) ?_
  refine lv_if_ne (tgt := 16) hx hb dX12_program_11 (by decide) (fun c4 => ?_) (fun c4 => ?_)
  · rw [if_neg c4] at h
    refine lv_aload_n hx hb dX12_program_16 rfl (lv_at hl 1 rfl) ?_
    refine lv_iconst (v := 0) hx hb dX12_program_17 (by decide) ?_
    refine g_put cx hw inX12 (ci := 11) rfl tyX12_ok nmX12 95 (by decide) rfl rfl rfl rfl shm_0 h fl_X12_464 dX12_program_18 (fun μ5 H locs h hw => ?_)
    refine lv_aload_n hx hb dX12_program_21 rfl (lv_at hl 1 rfl) ?_
    refine lv_aload_n hx hb dX12_program_22 rfl (lv_at hl 1 rfl) ?_
    refine g_get cx hw inX12 (ci := 11) rfl 27 (by decide) rfl (v := .int (μ5.1 0 27)) shm_0 rfl fl_X12_413 dX12_program_23 ?_
    refine g_put cx hw inX12 (ci := 11) rfl tyX12_ok nmX12 17 (by decide) rfl rfl rfl rfl shm_0 h fl_X12_468 dX12_program_26 (fun μ6 H locs h hw => ?_)
    refine lv_aload_n hx hb dX12_program_29 rfl (lv_at hl 1 rfl) ?_
    refine lv_aload_n hx hb dX12_program_30 rfl (lv_at hl 1 rfl) ?_
    refine g_get cx hw inX12 (ci := 11) rfl 28 (by decide) rfl (v := .int (μ6.1 0 28)) shm_0 rfl fl_X12_387 dX12_program_31 ?_
    refine g_put cx hw inX12 (ci := 11) rfl tyX12_ok nmX12 18 (by decide) rfl rfl rfl rfl shm_0 h fl_X12_458 dX12_program_34 (fun μ7 H locs h hw => ?_)
    refine lv_aload_n hx hb dX12_program_37 rfl (lv_at hl 1 rfl) ?_
    refine g_get cx hw inX12 (ci := 11) rfl 19 (by decide) rfl (v := .ref (ad 11)) shm_0 rfl fl_X12_45 dX12_program_38 ?_
    refine lv_iconst (v := 0) hx hb dX12_program_41 (by decide) ?_
    refine lv_aload_n hx hb dX12_program_42 rfl (lv_at hl 1 rfl) ?_
    refine g_get cx hw inX12 (ci := 11) rfl 17 (by decide) rfl (v := .int (μ7.1 0 17)) shm_0 rfl fl_X12_468 dX12_program_43 ?_
    refine lv_aload_n hx hb dX12_program_46 rfl (lv_at hl 1 rfl) ?_
    refine g_get cx hw inX12 (ci := 11) rfl 8 (by decide) rfl (v := .ref (ad 2)) shm_0 rfl fl_X12_17 dX12_program_47 ?_
    refine lv_iconst (v := 0) hx hb dX12_program_50 (by decide) ?_
    obtain ⟨μ8, gμ8, h⟩ := bw_some h
    refine g_callSV (As := [.ref (ad 11), .int 0, .int (μ7.1 0 17), .ref (ad 2), .int 0]) (rest := []) cx hw hA (t_X12_copy l G ad 11 (sh_f shm_11) (0 : Int32) (μ7.1 0 17) 2 (sh_f shm_2) (0 : Int32) μ7 gμ8) ml_X12_471 st_X12_copy in_X12 co_X12_copy hd_X12_copy rfl ⟨(Nat.le_of_ble_eq_true rfl), (Nat.le_of_ble_eq_true rfl)⟩ hl.1 rfl (Nat.le_of_ble_eq_true rfl) dX12_program_51 ⟨rfl, rfl⟩ (fun H locs hw => ?_)
    refine lv_aload_n hx hb dX12_program_54 rfl (lv_at hl 1 rfl) ?_
    refine g_get cx hw inX12 (ci := 11) rfl 20 (by decide) rfl (v := .ref (ad 12)) shm_0 rfl fl_X12_48 dX12_program_55 ?_
    refine lv_iconst (v := 0) hx hb dX12_program_58 (by decide) ?_
    refine lv_aload_n hx hb dX12_program_59 rfl (lv_at hl 1 rfl) ?_
    refine g_get cx hw inX12 (ci := 11) rfl 17 (by decide) rfl (v := .int (μ8.1 0 17)) shm_0 rfl fl_X12_468 dX12_program_60 ?_
    refine lv_aload_n hx hb dX12_program_63 rfl (lv_at hl 1 rfl) ?_
    refine g_get cx hw inX12 (ci := 11) rfl 9 (by decide) rfl (v := .ref (ad 3)) shm_0 rfl fl_X12_21 dX12_program_64 ?_
    refine lv_iconst (v := 0) hx hb dX12_program_67 (by decide) ?_
    obtain ⟨μ10, gμ10, h⟩ := bw_some h
    refine g_callSV (As := [.ref (ad 12), .int 0, .int (μ8.1 0 17), .ref (ad 3), .int 0]) (rest := []) cx hw hA (t_X12_copy l G ad 12 (sh_f shm_12) (0 : Int32) (μ8.1 0 17) 3 (sh_f shm_3) (0 : Int32) μ8 gμ10) ml_X12_471 st_X12_copy in_X12 co_X12_copy hd_X12_copy rfl ⟨(Nat.le_of_ble_eq_true rfl), (Nat.le_of_ble_eq_true rfl)⟩ hl.1 rfl (Nat.le_of_ble_eq_true rfl) dX12_program_68 ⟨rfl, rfl⟩ (fun H locs hw => ?_)
    refine lv_aload_n hx hb dX12_program_71 rfl (lv_at hl 1 rfl) ?_
    refine g_get cx hw inX12 (ci := 11) rfl 21 (by decide) rfl (v := .ref (ad 13)) shm_0 rfl fl_X12_51 dX12_program_72 ?_
    refine lv_iconst (v := 0) hx hb dX12_program_75 (by decide) ?_
    refine lv_iconst (v := 5) hx hb dX12_program_76 (by decide) ?_
    refine lv_aload_n hx hb dX12_program_77 rfl (lv_at hl 1 rfl) ?_
    refine g_get cx hw inX12 (ci := 11) rfl 17 (by decide) rfl (v := .int (μ10.1 0 17)) shm_0 rfl fl_X12_468 dX12_program_78 ?_
    refine lv_imul hx hb dX12_program_81 ?_
    refine lv_aload_n hx hb dX12_program_82 rfl (lv_at hl 1 rfl) ?_
    refine g_get cx hw inX12 (ci := 11) rfl 10 (by decide) rfl (v := .ref (ad 4)) shm_0 rfl fl_X12_24 dX12_program_83 ?_
    refine lv_iconst (v := 0) hx hb dX12_program_86 (by decide) ?_
    obtain ⟨μ12, gμ12, h⟩ := bw_some h
    refine g_callSV (As := [.ref (ad 13), .int 0, .int ((5 : Int32) * (μ10.1 0 17)), .ref (ad 4), .int 0]) (rest := []) cx hw hA (t_X12_copy l G ad 13 (sh_f shm_13) (0 : Int32) ((5 : Int32) * (μ10.1 0 17)) 4 (sh_f shm_4) (0 : Int32) μ10 gμ12) ml_X12_471 st_X12_copy in_X12 co_X12_copy hd_X12_copy rfl ⟨(Nat.le_of_ble_eq_true rfl), (Nat.le_of_ble_eq_true rfl)⟩ hl.1 rfl (Nat.le_of_ble_eq_true rfl) dX12_program_87 ⟨rfl, rfl⟩ (fun H locs hw => ?_)
    refine lv_aload_n hx hb dX12_program_90 rfl (lv_at hl 1 rfl) ?_
    refine g_get cx hw inX12 (ci := 11) rfl 22 (by decide) rfl (v := .ref (ad 14)) shm_0 rfl fl_X12_54 dX12_program_91 ?_
    refine lv_iconst (v := 0) hx hb dX12_program_94 (by decide) ?_
    refine lv_aload_n hx hb dX12_program_95 rfl (lv_at hl 1 rfl) ?_
    refine g_get cx hw inX12 (ci := 11) rfl 17 (by decide) rfl (v := .int (μ12.1 0 17)) shm_0 rfl fl_X12_468 dX12_program_96 ?_
    refine lv_aload_n hx hb dX12_program_99 rfl (lv_at hl 1 rfl) ?_
    refine g_get cx hw inX12 (ci := 11) rfl 11 (by decide) rfl (v := .ref (ad 5)) shm_0 rfl fl_X12_27 dX12_program_100 ?_
    refine lv_iconst (v := 0) hx hb dX12_program_103 (by decide) ?_
    obtain ⟨μ14, gμ14, h⟩ := bw_some h
    refine g_callSV (As := [.ref (ad 14), .int 0, .int (μ12.1 0 17), .ref (ad 5), .int 0]) (rest := []) cx hw hA (t_X12_copy l G ad 14 (sh_f shm_14) (0 : Int32) (μ12.1 0 17) 5 (sh_f shm_5) (0 : Int32) μ12 gμ14) ml_X12_471 st_X12_copy in_X12 co_X12_copy hd_X12_copy rfl ⟨(Nat.le_of_ble_eq_true rfl), (Nat.le_of_ble_eq_true rfl)⟩ hl.1 rfl (Nat.le_of_ble_eq_true rfl) dX12_program_104 ⟨rfl, rfl⟩ (fun H locs hw => ?_)
    refine lv_aload_n hx hb dX12_program_107 rfl (lv_at hl 1 rfl) ?_
    refine g_get cx hw inX12 (ci := 11) rfl 23 (by decide) rfl (v := .ref (ad 15)) shm_0 rfl fl_X12_57 dX12_program_108 ?_
    refine lv_iconst (v := 0) hx hb dX12_program_111 (by decide) ?_
    refine lv_aload_n hx hb dX12_program_112 rfl (lv_at hl 1 rfl) ?_
    refine g_get cx hw inX12 (ci := 11) rfl 17 (by decide) rfl (v := .int (μ14.1 0 17)) shm_0 rfl fl_X12_468 dX12_program_113 ?_
    refine lv_aload_n hx hb dX12_program_116 rfl (lv_at hl 1 rfl) ?_
    refine g_get cx hw inX12 (ci := 11) rfl 12 (by decide) rfl (v := .ref (ad 6)) shm_0 rfl fl_X12_30 dX12_program_117 ?_
    refine lv_iconst (v := 0) hx hb dX12_program_120 (by decide) ?_
    obtain ⟨μ16, gμ16, h⟩ := bw_some h
    refine g_callSV (As := [.ref (ad 15), .int 0, .int (μ14.1 0 17), .ref (ad 6), .int 0]) (rest := []) cx hw hA (t_X12_copy l G ad 15 (sh_f shm_15) (0 : Int32) (μ14.1 0 17) 6 (sh_f shm_6) (0 : Int32) μ14 gμ16) ml_X12_471 st_X12_copy in_X12 co_X12_copy hd_X12_copy rfl ⟨(Nat.le_of_ble_eq_true rfl), (Nat.le_of_ble_eq_true rfl)⟩ hl.1 rfl (Nat.le_of_ble_eq_true rfl) dX12_program_121 ⟨rfl, rfl⟩ (fun H locs hw => ?_)
    refine lv_aload_n hx hb dX12_program_124 rfl (lv_at hl 1 rfl) ?_
    refine g_get cx hw inX12 (ci := 11) rfl 24 (by decide) rfl (v := .ref (ad 16)) shm_0 rfl fl_X12_60 dX12_program_125 ?_
    refine lv_iconst (v := 0) hx hb dX12_program_128 (by decide) ?_
    refine lv_aload_n hx hb dX12_program_129 rfl (lv_at hl 1 rfl) ?_
    refine g_get cx hw inX12 (ci := 11) rfl 18 (by decide) rfl (v := .int (μ16.1 0 18)) shm_0 rfl fl_X12_458 dX12_program_130 ?_
    refine lv_aload_n hx hb dX12_program_133 rfl (lv_at hl 1 rfl) ?_
    refine g_get cx hw inX12 (ci := 11) rfl 13 (by decide) rfl (v := .ref (ad 7)) shm_0 rfl fl_X12_33 dX12_program_134 ?_
    refine lv_iconst (v := 0) hx hb dX12_program_137 (by decide) ?_
    obtain ⟨μ18, gμ18, h⟩ := bw_some h
    refine g_callSV (As := [.ref (ad 16), .int 0, .int (μ16.1 0 18), .ref (ad 7), .int 0]) (rest := []) cx hw hA (t_X12_copy l G ad 16 (sh_f shm_16) (0 : Int32) (μ16.1 0 18) 7 (sh_f shm_7) (0 : Int32) μ16 gμ18) ml_X12_471 st_X12_copy in_X12 co_X12_copy hd_X12_copy rfl ⟨(Nat.le_of_ble_eq_true rfl), (Nat.le_of_ble_eq_true rfl)⟩ hl.1 rfl (Nat.le_of_ble_eq_true rfl) dX12_program_138 ⟨rfl, rfl⟩ (fun H locs hw => ?_)
    refine lv_aload_n hx hb dX12_program_141 rfl (lv_at hl 1 rfl) ?_
    refine g_get cx hw inX12 (ci := 11) rfl 25 (by decide) rfl (v := .ref (ad 17)) shm_0 rfl fl_X12_63 dX12_program_142 ?_
    refine lv_iconst (v := 0) hx hb dX12_program_145 (by decide) ?_
    refine lv_aload_n hx hb dX12_program_146 rfl (lv_at hl 1 rfl) ?_
    refine g_get cx hw inX12 (ci := 11) rfl 18 (by decide) rfl (v := .int (μ18.1 0 18)) shm_0 rfl fl_X12_458 dX12_program_147 ?_
    refine lv_aload_n hx hb dX12_program_150 rfl (lv_at hl 1 rfl) ?_
    refine g_get cx hw inX12 (ci := 11) rfl 14 (by decide) rfl (v := .ref (ad 8)) shm_0 rfl fl_X12_36 dX12_program_151 ?_
    refine lv_iconst (v := 0) hx hb dX12_program_154 (by decide) ?_
    obtain ⟨μ20, gμ20, h⟩ := bw_some h
    refine g_callSV (As := [.ref (ad 17), .int 0, .int (μ18.1 0 18), .ref (ad 8), .int 0]) (rest := []) cx hw hA (t_X12_copy l G ad 17 (sh_f shm_17) (0 : Int32) (μ18.1 0 18) 8 (sh_f shm_8) (0 : Int32) μ18 gμ20) ml_X12_471 st_X12_copy in_X12 co_X12_copy hd_X12_copy rfl ⟨(Nat.le_of_ble_eq_true rfl), (Nat.le_of_ble_eq_true rfl)⟩ hl.1 rfl (Nat.le_of_ble_eq_true rfl) dX12_program_155 ⟨rfl, rfl⟩ (fun H locs hw => ?_)
    refine lv_aload_n hx hb dX12_program_158 rfl (lv_at hl 1 rfl) ?_
    refine g_get cx hw inX12 (ci := 11) rfl 26 (by decide) rfl (v := .ref (ad 18)) shm_0 rfl fl_X12_66 dX12_program_159 ?_
    refine lv_iconst (v := 0) hx hb dX12_program_162 (by decide) ?_
    refine lv_aload_n hx hb dX12_program_163 rfl (lv_at hl 1 rfl) ?_
    refine g_get cx hw inX12 (ci := 11) rfl 18 (by decide) rfl (v := .int (μ20.1 0 18)) shm_0 rfl fl_X12_458 dX12_program_164 ?_
    refine lv_aload_n hx hb dX12_program_167 rfl (lv_at hl 1 rfl) ?_
    refine g_get cx hw inX12 (ci := 11) rfl 15 (by decide) rfl (v := .ref (ad 9)) shm_0 rfl fl_X12_39 dX12_program_168 ?_
    refine lv_iconst (v := 0) hx hb dX12_program_171 (by decide) ?_
    obtain ⟨μ22, gμ22, h⟩ := bw_some h
    refine g_callSV (As := [.ref (ad 18), .int 0, .int (μ20.1 0 18), .ref (ad 9), .int 0]) (rest := []) cx hw hA (t_X12_copy l G ad 18 (sh_f shm_18) (0 : Int32) (μ20.1 0 18) 9 (sh_f shm_9) (0 : Int32) μ20 gμ22) ml_X12_471 st_X12_copy in_X12 co_X12_copy hd_X12_copy rfl ⟨(Nat.le_of_ble_eq_true rfl), (Nat.le_of_ble_eq_true rfl)⟩ hl.1 rfl (Nat.le_of_ble_eq_true rfl) dX12_program_172 ⟨rfl, rfl⟩ (fun H locs hw => ?_)
    refine lv_aload_n hx hb dX12_program_175 rfl (lv_at hl 1 rfl) ?_
    obtain ⟨μ24, gμ24, h⟩ := bw_some h
    refine g_callVV (As := []) (rest := []) cx hw hA (t_X12_layBehind l G ad μ22 gμ24) shm_0 rfl ml_X12_475 im_X12_layBehind se_X12_layBehind in_X12 co_X12_layBehind rfl hd_X12_layBehind rfl ⟨(Nat.le_of_ble_eq_true rfl), (Nat.le_of_ble_eq_true rfl)⟩ hl.1 rfl (Nat.le_of_ble_eq_true rfl) dX12_program_176 ⟨rfl, rfl⟩ (fun H locs hw => ?_)
    refine lv_aload_n hx hb dX12_program_179 rfl (lv_at hl 1 rfl) ?_
    refine g_get cx hw inX12 (ci := 11) rfl 17 (by decide) rfl (v := .int (μ24.1 0 17)) shm_0 rfl fl_X12_468 dX12_program_180 ?_
    exact g_iret cx hr hlk hw h dX12_program_183
  · rw [if_pos c4] at h
    refine lv_iconst (v := (-1)) hx hb dX12_program_14 (by decide) ?_
    exact g_iret cx hr hlk hw h dX12_program_15

theorem p_X12_functionOf_b32_ex : ∃ f : (Int32 → Int32 → Int32 → Mem → Option (Int32 × Mem)) → Int32 → Int32 → Int32 → Mem → Option (Int32 × Mem), ∀ (K2 : Int32 → Int32 → Int32 → Mem → Option (Int32 × Mem)) (a1 : Int32) (a2 : Int32) (a3 : Int32) (μ : Mem), f K2 a1 a2 a3 μ = bv (a3 + 1) (fun v3 => K2 a1 a2 v3 μ) := ⟨fun (K2 : Int32 → Int32 → Int32 → Mem → Option (Int32 × Mem)) (a1 : Int32) (a2 : Int32) (a3 : Int32) (μ : Mem) => bv (a3 + 1) (fun v3 => K2 a1 a2 v3 μ), fun _ _ _ _ _ => rfl⟩
noncomputable def p_X12_functionOf_b32 : (Int32 → Int32 → Int32 → Mem → Option (Int32 × Mem)) → Int32 → Int32 → Int32 → Mem → Option (Int32 × Mem) := Classical.choose p_X12_functionOf_b32_ex
theorem p_X12_functionOf_b32_eq (K2 : Int32 → Int32 → Int32 → Mem → Option (Int32 × Mem)) (a1 : Int32) (a2 : Int32) (a3 : Int32) (μ : Mem) : p_X12_functionOf_b32 K2 a1 a2 a3 μ = bv (a3 + 1) (fun v3 => K2 a1 a2 v3 μ) := Classical.choose_spec p_X12_functionOf_b32_ex K2 a1 a2 a3 μ
set_option maxHeartbeats 4000000 in
set_option maxRecDepth 100000 in
theorem t_X12_functionOf_b32 (l : Launch) (G : Gt) (ad : Nat → Nat) (av : List Value) {r : Int32} {μz : Mem} (K2 : Int32 → Int32 → Int32 → Mem → Option (Int32 × Mem)) (hK2 : ∀ (z1 : Int32) (z2 : Int32) (z3 : Int32) (μ1 : Mem), K2 z1 z2 z3 μ1 = some (r, μz) → Bk l cX12_functionOf 4 RX12 (some .int) ({ frames := 0, cells := 0, slots := 0, locals := 0 } : Room) G av (eI 1 G ad r μz) (wd 1 G ad μ1) 2 [(0, .ref (ad 0)), (1, .int z1), (2, .int z2), (3, .int z3)] []) (a1 : Int32) (a2 : Int32) (a3 : Int32) (μ : Mem) (h : p_X12_functionOf_b32 K2 a1 a2 a3 μ = some (r, μz)) : Bk l cX12_functionOf 4 RX12 (some .int) ({ frames := 0, cells := 0, slots := 0, locals := 0 } : Room) G av (eI 1 G ad r μz) (wd 1 G ad μ) 32 [(0, .ref (ad 0)), (1, .int a1), (2, .int a2), (3, .int a3)] [] := by
  intro p e s m below meth c A ls H locs cx hr hlk hA hl hw
  have hx := cx.1
  have hb := cx.2.1
  rw [p_X12_functionOf_b32_eq] at h
  obtain ⟨v3, ev3, h⟩ := bv_ex h
  refine lv_iinc (v := v3) (lv' := [(3, .int v3), (0, .ref (ad 0)), (1, .int a1), (2, .int a2)]) hx hb dX12_functionOf_32 hl (k := 3) rfl (by rw [ev3]; rfl) (by decide) rfl (fun ls hl => ?_)
  refine lv_goto (tgt := 2) hx hb dX12_functionOf_35 (by decide) ?_
  exact hK2 a1 a2 v3 μ h p e s m below meth c A ls H locs cx hr hlk hA (lv_sub hl [1, 2, 3, 0] rfl) hw
theorem p_X12_functionOf_b2_ex : ∃ f : Nat → Int32 → Int32 → Int32 → Mem → Option (Int32 × Mem), (∀ (a1 : Int32) (a2 : Int32) (a3 : Int32) (μ : Mem), f  0 a1 a2 a3 μ = none) ∧ (∀ (n : Nat) (a1 : Int32) (a2 : Int32) (a3 : Int32) (μ : Mem), f  (n + 1) a1 a2 a3 μ = (if (μ.1 0 17) ≤ a3 then some ((-1 : Int32), μ) else gd (inb a3 73) ((if (μ.1 2 a3.toNatClampNeg) = a1 then gd (inb a3 73) ((if (μ.1 3 a3.toNatClampNeg) = a2 then some (a3, μ) else p_X12_functionOf_b32 (f n) a1 a2 a3 μ)) else p_X12_functionOf_b32 (f n) a1 a2 a3 μ)))) := ⟨fun n => Nat.rec (fun (a1 : Int32) (a2 : Int32) (a3 : Int32) (μ : Mem) => none) (fun _ ih => fun (a1 : Int32) (a2 : Int32) (a3 : Int32) (μ : Mem) => (if (μ.1 0 17) ≤ a3 then some ((-1 : Int32), μ) else gd (inb a3 73) ((if (μ.1 2 a3.toNatClampNeg) = a1 then gd (inb a3 73) ((if (μ.1 3 a3.toNatClampNeg) = a2 then some (a3, μ) else p_X12_functionOf_b32 (ih) a1 a2 a3 μ)) else p_X12_functionOf_b32 (ih) a1 a2 a3 μ)))) n, fun  _ _ _ _ => rfl, fun  _ _ _ _ _ => rfl⟩
noncomputable def p_X12_functionOf_b2 : Nat → Int32 → Int32 → Int32 → Mem → Option (Int32 × Mem) := Classical.choose p_X12_functionOf_b2_ex
theorem p_X12_functionOf_b2_z (a1 : Int32) (a2 : Int32) (a3 : Int32) (μ : Mem) : p_X12_functionOf_b2  0 a1 a2 a3 μ = none := (Classical.choose_spec p_X12_functionOf_b2_ex).1  a1 a2 a3 μ
theorem p_X12_functionOf_b2_s (n : Nat) (a1 : Int32) (a2 : Int32) (a3 : Int32) (μ : Mem) : p_X12_functionOf_b2  (n + 1) a1 a2 a3 μ = (if (μ.1 0 17) ≤ a3 then some ((-1 : Int32), μ) else gd (inb a3 73) ((if (μ.1 2 a3.toNatClampNeg) = a1 then gd (inb a3 73) ((if (μ.1 3 a3.toNatClampNeg) = a2 then some (a3, μ) else p_X12_functionOf_b32 (p_X12_functionOf_b2  n) a1 a2 a3 μ)) else p_X12_functionOf_b32 (p_X12_functionOf_b2  n) a1 a2 a3 μ))) := (Classical.choose_spec p_X12_functionOf_b2_ex).2  n a1 a2 a3 μ
set_option maxHeartbeats 4000000 in
set_option maxRecDepth 100000 in
theorem t_X12_functionOf_b2 (l : Launch) (G : Gt) (ad : Nat → Nat) (av : List Value) {r : Int32} {μz : Mem} : ∀ (n : Nat) (a1 : Int32) (a2 : Int32) (a3 : Int32) (μ : Mem), p_X12_functionOf_b2  n a1 a2 a3 μ = some (r, μz) → Bk l cX12_functionOf 4 RX12 (some .int) ({ frames := 0, cells := 0, slots := 0, locals := 0 } : Room) G av (eI 1 G ad r μz) (wd 1 G ad μ) 2 [(0, .ref (ad 0)), (1, .int a1), (2, .int a2), (3, .int a3)] [] := by
  intro n
  induction n with
  | zero => intro a1 a2 a3 μ h; rw [p_X12_functionOf_b2_z] at h; cases h
  | succ n ih =>
    intro a1 a2 a3 μ h p e s m below meth c A ls H locs cx hr hlk hA hl hw
    have hx := cx.1
    have hb := cx.2.1
    rw [p_X12_functionOf_b2_s] at h
    refine lv_iload_n hx hb dX12_functionOf_2 rfl (lv_at hl 3 rfl) ?_
    refine lv_aload_n hx hb dX12_functionOf_3 rfl (lv_at hl 0 rfl) ?_
    refine g_get cx hw inX12 (ci := 11) rfl 17 (by decide) rfl (v := .int (μ.1 0 17)) shm_0 rfl fl_X12_468 dX12_functionOf_4 ?_
    refine lv_icmp_ge (tgt := 38) hx hb dX12_functionOf_7 (by decide) (fun c1 => ?_) (fun c1 => ?_)
    · rw [if_pos c1] at h
      refine lv_iconst (v := (-1)) hx hb dX12_functionOf_38 (by decide) ?_
      exact g_iret cx hr hlk hw h dX12_functionOf_39
    · rw [if_neg c1] at h
      refine lv_aload_n hx hb dX12_functionOf_10 rfl (lv_at hl 0 rfl) ?_
      refine g_get cx hw inX12 (ci := 11) rfl 8 (by decide) rfl (v := .ref (ad 2)) shm_0 rfl fl_X12_17 dX12_functionOf_11 ?_
      refine lv_iload_n hx hb dX12_functionOf_14 rfl (lv_at hl 3 rfl) ?_
      refine g_iald cx hw shm_2 h dX12_functionOf_15 (fun h => ?_)
      refine lv_iload_n hx hb dX12_functionOf_16 rfl (lv_at hl 1 rfl) ?_
      refine lv_icmp_ne (tgt := 32) hx hb dX12_functionOf_17 (by decide) (fun c2 => ?_) (fun c2 => ?_)
      · rw [if_neg c2] at h
        exact t_X12_functionOf_b32 l G ad av _ ih a1 a2 a3 μ h p e s m below meth c A ls H locs cx hr hlk hA (lv_sub hl [0, 1, 2, 3] rfl) hw
      · rw [if_pos c2] at h
        refine lv_aload_n hx hb dX12_functionOf_20 rfl (lv_at hl 0 rfl) ?_
        refine g_get cx hw inX12 (ci := 11) rfl 9 (by decide) rfl (v := .ref (ad 3)) shm_0 rfl fl_X12_21 dX12_functionOf_21 ?_
        refine lv_iload_n hx hb dX12_functionOf_24 rfl (lv_at hl 3 rfl) ?_
        refine g_iald cx hw shm_3 h dX12_functionOf_25 (fun h => ?_)
        refine lv_iload_n hx hb dX12_functionOf_26 rfl (lv_at hl 2 rfl) ?_
        refine lv_icmp_ne (tgt := 32) hx hb dX12_functionOf_27 (by decide) (fun c4 => ?_) (fun c4 => ?_)
        · rw [if_neg c4] at h
          exact t_X12_functionOf_b32 l G ad av _ ih a1 a2 a3 μ h p e s m below meth c A ls H locs cx hr hlk hA (lv_sub hl [0, 1, 2, 3] rfl) hw
        · rw [if_pos c4] at h
          refine lv_iload_n hx hb dX12_functionOf_30 rfl (lv_at hl 3 rfl) ?_
          exact g_iret cx hr hlk hw h dX12_functionOf_31
theorem p_X12_functionOf_ex : ∃ f : Int32 → Int32 → Mem → Option (Int32 × Mem), ∀ (a1 : Int32) (a2 : Int32) (μ : Mem), f a1 a2 μ = p_X12_functionOf_b2  FUEL a1 a2 (0 : Int32) μ := ⟨fun (a1 : Int32) (a2 : Int32) (μ : Mem) => p_X12_functionOf_b2  FUEL a1 a2 (0 : Int32) μ, fun _ _ _ => rfl⟩
noncomputable def p_X12_functionOf : Int32 → Int32 → Mem → Option (Int32 × Mem) := Classical.choose p_X12_functionOf_ex
theorem p_X12_functionOf_eq (a1 : Int32) (a2 : Int32) (μ : Mem) : p_X12_functionOf a1 a2 μ = p_X12_functionOf_b2  FUEL a1 a2 (0 : Int32) μ := Classical.choose_spec p_X12_functionOf_ex a1 a2 μ
set_option maxHeartbeats 4000000 in
set_option maxRecDepth 100000 in
theorem t_X12_functionOf (l : Launch) (G : Gt) (ad : Nat → Nat) (a1 : Int32) (a2 : Int32) (μ : Mem) {r : Int32} {μz : Mem} (h : p_X12_functionOf a1 a2 μ = some (r, μz)) : Mt l yX12_functionOf cX12_functionOf 4 (some .int) ({ frames := 0, cells := 0, slots := 0, locals := 0 } : Room) G [.ref (ad 0), .int a1, .int a2] (wd 1 G ad μ) (eI 1 G ad r μz) := by
  refine Bk.mt (by decide) rfl (Nat.le_of_ble_eq_true rfl) ?_
  intro p e s m below meth c A ls H locs cx hr hlk hA hl hw
  have hx := cx.1
  have hb := cx.2.1
  have hl : lv_has ls 4 [(0, .ref (ad 0)), (1, .int a1), (2, .int a2)] := hl
  rw [p_X12_functionOf_eq] at h
  refine lv_iconst (v := 0) hx hb dX12_functionOf_0 (by decide) ?_
  refine lv_istore_n (lv' := [(3, .int 0), (0, .ref (ad 0)), (1, .int a1), (2, .int a2)]) hx hb dX12_functionOf_1 rfl hl (by decide) rfl (fun ls hl => ?_)
  exact t_X12_functionOf_b2 l G ad _  FUEL a1 a2 (0 : Int32) μ h p e s m below meth c A ls H locs cx hr hlk hA (lv_sub hl [1, 2, 3, 0] rfl) hw

theorem p_X12_layRead_ex : ∃ f : Int32 → Int32 → Mem → Option Mem, ∀ (a1 : Int32) (a2 : Int32) (μ : Mem), f a1 a2 μ = gd (inb (μ.1 0 36) 30) (bv (sF μ 22 (μ.1 0 36).toNatClampNeg a1) (fun μ1 => gd (inb (μ1.1 0 36) 30) (bv (sF μ1 23 (μ1.1 0 36).toNatClampNeg a2) (fun μ2 => bv (sF μ2 0 36 ((μ2.1 0 36) + (1 : Int32))) (fun μ3 => some μ3))))) := ⟨fun (a1 : Int32) (a2 : Int32) (μ : Mem) => gd (inb (μ.1 0 36) 30) (bv (sF μ 22 (μ.1 0 36).toNatClampNeg a1) (fun μ1 => gd (inb (μ1.1 0 36) 30) (bv (sF μ1 23 (μ1.1 0 36).toNatClampNeg a2) (fun μ2 => bv (sF μ2 0 36 ((μ2.1 0 36) + (1 : Int32))) (fun μ3 => some μ3))))), fun _ _ _ => rfl⟩
noncomputable def p_X12_layRead : Int32 → Int32 → Mem → Option Mem := Classical.choose p_X12_layRead_ex
theorem p_X12_layRead_eq (a1 : Int32) (a2 : Int32) (μ : Mem) : p_X12_layRead a1 a2 μ = gd (inb (μ.1 0 36) 30) (bv (sF μ 22 (μ.1 0 36).toNatClampNeg a1) (fun μ1 => gd (inb (μ1.1 0 36) 30) (bv (sF μ1 23 (μ1.1 0 36).toNatClampNeg a2) (fun μ2 => bv (sF μ2 0 36 ((μ2.1 0 36) + (1 : Int32))) (fun μ3 => some μ3))))) := Classical.choose_spec p_X12_layRead_ex a1 a2 μ
set_option maxHeartbeats 4000000 in
set_option maxRecDepth 100000 in
theorem t_X12_layRead (l : Launch) (G : Gt) (ad : Nat → Nat) (a1 : Int32) (a2 : Int32) (μ : Mem) {μz : Mem} (h : p_X12_layRead a1 a2 μ = some μz) : Mt l yX12_layRead cX12_layRead 3 none ({ frames := 0, cells := 0, slots := 0, locals := 0 } : Room) G [.ref (ad 0), .int a1, .int a2] (wd 1 G ad μ) (eV 1 G ad μz) := by
  refine Bk.mt (by decide) rfl (Nat.le_of_ble_eq_true rfl) ?_
  intro p e s m below meth c A ls H locs cx hr hlk hA hl hw
  have hx := cx.1
  have hb := cx.2.1
  have hl : lv_has ls 3 [(0, .ref (ad 0)), (1, .int a1), (2, .int a2)] := hl
  rw [p_X12_layRead_eq] at h
  refine lv_aload_n hx hb dX12_layRead_0 rfl (lv_at hl 0 rfl) ?_
  refine g_get cx hw inX12 (ci := 11) rfl 33 (by decide) rfl (v := .ref (ad 22)) shm_0 rfl fl_X12_78 dX12_layRead_1 ?_
  refine lv_aload_n hx hb dX12_layRead_4 rfl (lv_at hl 0 rfl) ?_
  refine g_get cx hw inX12 (ci := 11) rfl 36 (by decide) rfl (v := .int (μ.1 0 36)) shm_0 rfl fl_X12_478 dX12_layRead_5 ?_
  refine lv_iload_n hx hb dX12_layRead_8 rfl (lv_at hl 1 rfl) ?_
  refine g_iast cx hw shm_22 h dX12_layRead_9 (fun μ1 H locs h hw => ?_)
  refine lv_aload_n hx hb dX12_layRead_10 rfl (lv_at hl 0 rfl) ?_
  refine g_get cx hw inX12 (ci := 11) rfl 34 (by decide) rfl (v := .ref (ad 23)) shm_0 rfl fl_X12_81 dX12_layRead_11 ?_
  refine lv_aload_n hx hb dX12_layRead_14 rfl (lv_at hl 0 rfl) ?_
  refine g_get cx hw inX12 (ci := 11) rfl 36 (by decide) rfl (v := .int (μ1.1 0 36)) shm_0 rfl fl_X12_478 dX12_layRead_15 ?_
  refine lv_iload_n hx hb dX12_layRead_18 rfl (lv_at hl 2 rfl) ?_
  refine g_iast cx hw shm_23 h dX12_layRead_19 (fun μ2 H locs h hw => ?_)
  refine lv_aload_n hx hb dX12_layRead_20 rfl (lv_at hl 0 rfl) ?_
  refine lv_dup hx hb dX12_layRead_21 rfl ?_
  refine g_get cx hw inX12 (ci := 11) rfl 36 (by decide) rfl (v := .int (μ2.1 0 36)) shm_0 rfl fl_X12_478 dX12_layRead_22 ?_
  refine lv_iconst (v := 1) hx hb dX12_layRead_25 (by decide) ?_
  refine lv_iadd hx hb dX12_layRead_26 ?_
  refine g_put cx hw inX12 (ci := 11) rfl tyX12_ok nmX12 36 (by decide) rfl rfl rfl rfl shm_0 h fl_X12_478 dX12_layRead_27 (fun μ3 H locs h hw => ?_)
  exact g_vret cx hr hlk hw h dX12_layRead_30

theorem p_X12_closeAll_b2_ex : ∃ f : Nat → Int32 → Mem → Option (Int32 × Mem), (∀ (a2 : Int32) (μ : Mem), f  0 a2 μ = none) ∧ (∀ (n : Nat) (a2 : Int32) (μ : Mem), f  (n + 1) a2 μ = (if a2 ≤ (0 : Int32) then some ((0 : Int32), μ) else bv (a2 - (1 : Int32)) (fun v2 => gd (inb v2 30) (gd (inb v2 30) (bv (sF μ 24 v2.toNatClampNeg ((μ.1 24 v2.toNatClampNeg) + (1 : Int32))) (fun μ3 => gd (inb (a2 - (1 : Int32)) 30) ((if (μ3.1 24 (a2 - (1 : Int32)).toNatClampNeg) = (1 : Int32) then bd (p_X12_takes (44 : Int32) μ3) (fun r10 μ9 => some (a2, μ9)) else bd (p_X12_takes (93 : Int32) μ3) (fun r6 μ5 => (if r6 = (0 : Int32) then some (a2, μ5) else bv (a2 + (-1)) (fun v8 => f n v8 μ5))))))))))) := ⟨fun n => Nat.rec (fun (a2 : Int32) (μ : Mem) => none) (fun _ ih => fun (a2 : Int32) (μ : Mem) => (if a2 ≤ (0 : Int32) then some ((0 : Int32), μ) else bv (a2 - (1 : Int32)) (fun v2 => gd (inb v2 30) (gd (inb v2 30) (bv (sF μ 24 v2.toNatClampNeg ((μ.1 24 v2.toNatClampNeg) + (1 : Int32))) (fun μ3 => gd (inb (a2 - (1 : Int32)) 30) ((if (μ3.1 24 (a2 - (1 : Int32)).toNatClampNeg) = (1 : Int32) then bd (p_X12_takes (44 : Int32) μ3) (fun r10 μ9 => some (a2, μ9)) else bd (p_X12_takes (93 : Int32) μ3) (fun r6 μ5 => (if r6 = (0 : Int32) then some (a2, μ5) else bv (a2 + (-1)) (fun v8 => ih v8 μ5))))))))))) n, fun  _ _ => rfl, fun  _ _ _ => rfl⟩
noncomputable def p_X12_closeAll_b2 : Nat → Int32 → Mem → Option (Int32 × Mem) := Classical.choose p_X12_closeAll_b2_ex
theorem p_X12_closeAll_b2_z (a2 : Int32) (μ : Mem) : p_X12_closeAll_b2  0 a2 μ = none := (Classical.choose_spec p_X12_closeAll_b2_ex).1  a2 μ
theorem p_X12_closeAll_b2_s (n : Nat) (a2 : Int32) (μ : Mem) : p_X12_closeAll_b2  (n + 1) a2 μ = (if a2 ≤ (0 : Int32) then some ((0 : Int32), μ) else bv (a2 - (1 : Int32)) (fun v2 => gd (inb v2 30) (gd (inb v2 30) (bv (sF μ 24 v2.toNatClampNeg ((μ.1 24 v2.toNatClampNeg) + (1 : Int32))) (fun μ3 => gd (inb (a2 - (1 : Int32)) 30) ((if (μ3.1 24 (a2 - (1 : Int32)).toNatClampNeg) = (1 : Int32) then bd (p_X12_takes (44 : Int32) μ3) (fun r10 μ9 => some (a2, μ9)) else bd (p_X12_takes (93 : Int32) μ3) (fun r6 μ5 => (if r6 = (0 : Int32) then some (a2, μ5) else bv (a2 + (-1)) (fun v8 => p_X12_closeAll_b2  n v8 μ5)))))))))) := (Classical.choose_spec p_X12_closeAll_b2_ex).2  n a2 μ
set_option maxHeartbeats 4000000 in
set_option maxRecDepth 100000 in
theorem t_X12_closeAll_b2 (l : Launch) (G : Gt) (ad : Nat → Nat) (av : List Value) {r : Int32} {μz : Mem} : ∀ (n : Nat) (a2 : Int32) (μ : Mem), p_X12_closeAll_b2  n a2 μ = some (r, μz) → Bk l cX12_closeAll 4 RX12 (some .int) ({ frames := 2, cells := 0, slots := 0, locals := 42 } : Room) G av (eI 1 G ad r μz) (wd 1 G ad μ) 2 [(0, .ref (ad 0)), (2, .int a2)] [] := by
  intro n
  induction n with
  | zero => intro a2 μ h; rw [p_X12_closeAll_b2_z] at h; cases h
  | succ n ih =>
    intro a2 μ h p e s m below meth c A ls H locs cx hr hlk hA hl hw
    have hx := cx.1
    have hb := cx.2.1
    rw [p_X12_closeAll_b2_s] at h
    refine lv_iload_n hx hb dX12_closeAll_2 rfl (lv_at hl 1 rfl) ?_
    refine lv_if_le (tgt := 56) hx hb dX12_closeAll_3 (by decide) (fun c1 => ?_) (fun c1 => ?_)
    · rw [if_pos c1] at h
      refine lv_iconst (v := 0) hx hb dX12_closeAll_56 (by decide) ?_
      exact g_iret cx hr hlk hw h dX12_closeAll_57
    · rw [if_neg c1] at h
      refine lv_aload_n hx hb dX12_closeAll_6 rfl (lv_at hl 0 rfl) ?_
      refine g_get cx hw inX12 (ci := 11) rfl 35 (by decide) rfl (v := .ref (ad 24)) shm_0 rfl fl_X12_84 dX12_closeAll_7 ?_
      refine lv_iload_n hx hb dX12_closeAll_10 rfl (lv_at hl 1 rfl) ?_
      refine lv_iconst (v := 1) hx hb dX12_closeAll_11 (by decide) ?_
      refine lv_isub hx hb dX12_closeAll_12 ?_
      obtain ⟨v2, ev2, h⟩ := bv_ex h
      refine lv_topi (fun y9 z9 => ?_)
      obtain rfl : v2 = y9 := ev2.trans z9.symm
      refine lv_dup2_11 hx hb dX12_closeAll_13 rfl rfl ?_
      refine g_iald cx hw shm_24 h dX12_closeAll_14 (fun h => ?_)
      refine lv_iconst (v := 1) hx hb dX12_closeAll_15 (by decide) ?_
      refine lv_iadd hx hb dX12_closeAll_16 ?_
      refine g_iast cx hw shm_24 h dX12_closeAll_17 (fun μ3 H locs h hw => ?_)
      refine lv_aload_n hx hb dX12_closeAll_18 rfl (lv_at hl 0 rfl) ?_
      refine g_get cx hw inX12 (ci := 11) rfl 35 (by decide) rfl (v := .ref (ad 24)) shm_0 rfl fl_X12_84 dX12_closeAll_19 ?_
      refine lv_iload_n hx hb dX12_closeAll_22 rfl (lv_at hl 1 rfl) ?_
      refine lv_iconst (v := 1) hx hb dX12_closeAll_23 (by decide) ?_
      refine lv_isub hx hb dX12_closeAll_24 ?_
      refine g_iald cx hw shm_24 h dX12_closeAll_25 (fun h => ?_)
      refine lv_iconst (v := 1) hx hb dX12_closeAll_26 (by decide) ?_
      refine lv_icmp_ne (tgt := 39) hx hb dX12_closeAll_27 (by decide) (fun c4 => ?_) (fun c4 => ?_)
      · rw [if_neg c4] at h
        refine lv_aload_n hx hb dX12_closeAll_39 rfl (lv_at hl 0 rfl) ?_
        refine lv_bipush (v := 93) hx hb dX12_closeAll_40 (by decide) ?_
        obtain ⟨r6, μ5, gr6, h⟩ := bd_some h
        refine g_callVI (As := [.int 93]) (rest := []) cx hw hA (t_X12_takes l G ad (93 : Int32) μ3 gr6) shm_0 rfl ml_X12_422 im_X12_takes se_X12_takes in_X12 co_X12_takes rfl hd_X12_takes rfl ⟨(Nat.le_of_ble_eq_true rfl), (Nat.le_of_ble_eq_true rfl)⟩ hl.1 rfl (Nat.le_of_ble_eq_true rfl) dX12_closeAll_42 ⟨rfl, rfl⟩ (fun H locs hw => ?_)
        refine lv_if_ne (tgt := 50) hx hb dX12_closeAll_45 (by decide) (fun c7 => ?_) (fun c7 => ?_)
        · rw [if_neg c7] at h
          obtain ⟨v8, ev8, h⟩ := bv_ex h
          refine lv_iinc (v := v8) (lv' := [(2, .int v8), (0, .ref (ad 0))]) hx hb dX12_closeAll_50 hl (k := 1) rfl (by rw [ev8]; rfl) (by decide) rfl (fun ls hl => ?_)
          refine lv_goto (tgt := 2) hx hb dX12_closeAll_53 (by decide) ?_
          exact ih v8 μ5 h p e s m below meth c A ls H locs cx hr hlk hA (lv_sub hl [1, 0] rfl) hw
        · rw [if_pos c7] at h
          refine lv_iload_n hx hb dX12_closeAll_48 rfl (lv_at hl 1 rfl) ?_
          exact g_iret cx hr hlk hw h dX12_closeAll_49
      · rw [if_pos c4] at h
        refine lv_aload_n hx hb dX12_closeAll_30 rfl (lv_at hl 0 rfl) ?_
        refine lv_bipush (v := 44) hx hb dX12_closeAll_31 (by decide) ?_
        obtain ⟨r10, μ9, gr10, h⟩ := bd_some h
        refine g_callVI (As := [.int 44]) (rest := []) cx hw hA (t_X12_takes l G ad (44 : Int32) μ3 gr10) shm_0 rfl ml_X12_422 im_X12_takes se_X12_takes in_X12 co_X12_takes rfl hd_X12_takes rfl ⟨(Nat.le_of_ble_eq_true rfl), (Nat.le_of_ble_eq_true rfl)⟩ hl.1 rfl (Nat.le_of_ble_eq_true rfl) dX12_closeAll_33 ⟨rfl, rfl⟩ (fun H locs hw => ?_)
        refine lv_istore_n (lv' := [(3, .int r10), (0, .ref (ad 0)), (2, .int a2)]) hx hb dX12_closeAll_36 rfl hl (by decide) rfl (fun ls hl => ?_)
        refine lv_iload_n hx hb dX12_closeAll_37 rfl (lv_at hl 2 rfl) ?_
        exact g_iret cx hr hlk hw h dX12_closeAll_38
theorem p_X12_closeAll_ex : ∃ f : Int32 → Mem → Option (Int32 × Mem), ∀ (a1 : Int32) (μ : Mem), f a1 μ = p_X12_closeAll_b2  FUEL a1 μ := ⟨fun (a1 : Int32) (μ : Mem) => p_X12_closeAll_b2  FUEL a1 μ, fun _ _ => rfl⟩
noncomputable def p_X12_closeAll : Int32 → Mem → Option (Int32 × Mem) := Classical.choose p_X12_closeAll_ex
theorem p_X12_closeAll_eq (a1 : Int32) (μ : Mem) : p_X12_closeAll a1 μ = p_X12_closeAll_b2  FUEL a1 μ := Classical.choose_spec p_X12_closeAll_ex a1 μ
set_option maxHeartbeats 4000000 in
set_option maxRecDepth 100000 in
theorem t_X12_closeAll (l : Launch) (G : Gt) (ad : Nat → Nat) (a1 : Int32) (μ : Mem) {r : Int32} {μz : Mem} (h : p_X12_closeAll a1 μ = some (r, μz)) : Mt l yX12_closeAll cX12_closeAll 4 (some .int) ({ frames := 2, cells := 0, slots := 0, locals := 42 } : Room) G [.ref (ad 0), .int a1] (wd 1 G ad μ) (eI 1 G ad r μz) := by
  refine Bk.mt (by decide) rfl (Nat.le_of_ble_eq_true rfl) ?_
  intro p e s m below meth c A ls H locs cx hr hlk hA hl hw
  have hx := cx.1
  have hb := cx.2.1
  have hl : lv_has ls 4 [(0, .ref (ad 0)), (1, .int a1)] := hl
  rw [p_X12_closeAll_eq] at h
  refine lv_iload_n hx hb dX12_closeAll_0 rfl (lv_at hl 1 rfl) ?_
  refine lv_istore_n (lv' := [(2, .int a1), (0, .ref (ad 0)), (1, .int a1)]) hx hb dX12_closeAll_1 rfl hl (by decide) rfl (fun ls hl => ?_)
  exact t_X12_closeAll_b2 l G ad _  FUEL a1 μ h p e s m below meth c A ls H locs cx hr hlk hA (lv_sub hl [1, 0] rfl) hw

theorem p_X12_readPart_b200_ex : ∃ f : (Int32 → Int32 → Int32 → Mem → Option (Int32 × Mem)) → Int32 → Int32 → Int32 → Mem → Option (Int32 × Mem), ∀ (K4 : Int32 → Int32 → Int32 → Mem → Option (Int32 × Mem)) (a1 : Int32) (a2 : Int32) (k0 : Int32) (μ : Mem), f K4 a1 a2 k0 μ = K4 a1 a2 k0 μ := ⟨fun (K4 : Int32 → Int32 → Int32 → Mem → Option (Int32 × Mem)) (a1 : Int32) (a2 : Int32) (k0 : Int32) (μ : Mem) => K4 a1 a2 k0 μ, fun _ _ _ _ _ => rfl⟩
noncomputable def p_X12_readPart_b200 : (Int32 → Int32 → Int32 → Mem → Option (Int32 × Mem)) → Int32 → Int32 → Int32 → Mem → Option (Int32 × Mem) := Classical.choose p_X12_readPart_b200_ex
theorem p_X12_readPart_b200_eq (K4 : Int32 → Int32 → Int32 → Mem → Option (Int32 × Mem)) (a1 : Int32) (a2 : Int32) (k0 : Int32) (μ : Mem) : p_X12_readPart_b200 K4 a1 a2 k0 μ = K4 a1 a2 k0 μ := Classical.choose_spec p_X12_readPart_b200_ex K4 a1 a2 k0 μ
set_option maxHeartbeats 4000000 in
set_option maxRecDepth 100000 in
theorem t_X12_readPart_b200 (l : Launch) (G : Gt) (ad : Nat → Nat) (av : List Value) {r : Int32} {μz : Mem} (K4 : Int32 → Int32 → Int32 → Mem → Option (Int32 × Mem)) (hK4 : ∀ (z1 : Int32) (z2 : Int32) (z3 : Int32) (μ1 : Mem), K4 z1 z2 z3 μ1 = some (r, μz) → Bk l cX12_readPart 6 RX12 (some .boolean) ({ frames := 4, cells := 0, slots := 0, locals := 88 } : Room) G av (eI 1 G ad r μz) (wd 1 G ad μ1) 4 [(0, .ref (ad 0)), (1, .int z1), (2, .int z2), (3, .int z3)] []) (a1 : Int32) (a2 : Int32) (k0 : Int32) (μ : Mem) (h : p_X12_readPart_b200 K4 a1 a2 k0 μ = some (r, μz)) : Bk l cX12_readPart 6 RX12 (some .boolean) ({ frames := 4, cells := 0, slots := 0, locals := 88 } : Room) G av (eI 1 G ad r μz) (wd 1 G ad μ) 200 [(0, .ref (ad 0)), (1, .int a1), (2, .int a2)] [.int k0] := by
  intro p e s m below meth c A ls H locs cx hr hlk hA hl hw
  have hx := cx.1
  have hb := cx.2.1
  rw [p_X12_readPart_b200_eq] at h
  refine lv_istore_n (lv' := [(3, .int k0), (0, .ref (ad 0)), (1, .int a1), (2, .int a2)]) hx hb dX12_readPart_200 rfl hl (by decide) rfl (fun ls hl => ?_)
  refine lv_goto (tgt := 4) hx hb dX12_readPart_201 (by decide) ?_
  exact hK4 a1 a2 k0 μ h p e s m below meth c A ls H locs cx hr hlk hA (lv_sub hl [1, 2, 3, 0] rfl) hw
theorem p_X12_readPart_b199_ex : ∃ f : (Int32 → Int32 → Int32 → Mem → Option (Int32 × Mem)) → Int32 → Int32 → Mem → Option (Int32 × Mem), ∀ (K4 : Int32 → Int32 → Int32 → Mem → Option (Int32 × Mem)) (a1 : Int32) (a2 : Int32) (μ : Mem), f K4 a1 a2 μ = p_X12_readPart_b200 K4 a1 a2 (0 : Int32) μ := ⟨fun (K4 : Int32 → Int32 → Int32 → Mem → Option (Int32 × Mem)) (a1 : Int32) (a2 : Int32) (μ : Mem) => p_X12_readPart_b200 K4 a1 a2 (0 : Int32) μ, fun _ _ _ _ => rfl⟩
noncomputable def p_X12_readPart_b199 : (Int32 → Int32 → Int32 → Mem → Option (Int32 × Mem)) → Int32 → Int32 → Mem → Option (Int32 × Mem) := Classical.choose p_X12_readPart_b199_ex
theorem p_X12_readPart_b199_eq (K4 : Int32 → Int32 → Int32 → Mem → Option (Int32 × Mem)) (a1 : Int32) (a2 : Int32) (μ : Mem) : p_X12_readPart_b199 K4 a1 a2 μ = p_X12_readPart_b200 K4 a1 a2 (0 : Int32) μ := Classical.choose_spec p_X12_readPart_b199_ex K4 a1 a2 μ
set_option maxHeartbeats 4000000 in
set_option maxRecDepth 100000 in
theorem t_X12_readPart_b199 (l : Launch) (G : Gt) (ad : Nat → Nat) (av : List Value) {r : Int32} {μz : Mem} (K4 : Int32 → Int32 → Int32 → Mem → Option (Int32 × Mem)) (hK4 : ∀ (z1 : Int32) (z2 : Int32) (z3 : Int32) (μ1 : Mem), K4 z1 z2 z3 μ1 = some (r, μz) → Bk l cX12_readPart 6 RX12 (some .boolean) ({ frames := 4, cells := 0, slots := 0, locals := 88 } : Room) G av (eI 1 G ad r μz) (wd 1 G ad μ1) 4 [(0, .ref (ad 0)), (1, .int z1), (2, .int z2), (3, .int z3)] []) (a1 : Int32) (a2 : Int32) (μ : Mem) (h : p_X12_readPart_b199 K4 a1 a2 μ = some (r, μz)) : Bk l cX12_readPart 6 RX12 (some .boolean) ({ frames := 4, cells := 0, slots := 0, locals := 88 } : Room) G av (eI 1 G ad r μz) (wd 1 G ad μ) 199 [(0, .ref (ad 0)), (1, .int a1), (2, .int a2)] [] := by
  intro p e s m below meth c A ls H locs cx hr hlk hA hl hw
  have hx := cx.1
  have hb := cx.2.1
  rw [p_X12_readPart_b199_eq] at h
  refine lv_iconst (v := 0) hx hb dX12_readPart_199 (by decide) ?_
  exact t_X12_readPart_b200 l G ad av K4 hK4 a1 a2 (0 : Int32) μ h p e s m below meth c A ls H locs cx hr hlk hA (lv_sub hl [0, 1, 2] rfl) hw
theorem p_X12_readPart_b177_ex : ∃ f : (Int32 → Int32 → Int32 → Mem → Option (Int32 × Mem)) → Int32 → Int32 → Mem → Option (Int32 × Mem), ∀ (K4 : Int32 → Int32 → Int32 → Mem → Option (Int32 × Mem)) (a1 : Int32) (a2 : Int32) (μ : Mem), f K4 a1 a2 μ = bd (p_X12_closeAll a2 μ) (fun r20 μ19 => (if r20 ≤ (0 : Int32) then p_X12_readPart_b199 K4 a1 r20 μ19 else (if (μ19.1 0 5) = (-1 : Int32) then p_X12_readPart_b200 K4 a1 r20 (1 : Int32) μ19 else p_X12_readPart_b199 K4 a1 r20 μ19))) := ⟨fun (K4 : Int32 → Int32 → Int32 → Mem → Option (Int32 × Mem)) (a1 : Int32) (a2 : Int32) (μ : Mem) => bd (p_X12_closeAll a2 μ) (fun r20 μ19 => (if r20 ≤ (0 : Int32) then p_X12_readPart_b199 K4 a1 r20 μ19 else (if (μ19.1 0 5) = (-1 : Int32) then p_X12_readPart_b200 K4 a1 r20 (1 : Int32) μ19 else p_X12_readPart_b199 K4 a1 r20 μ19))), fun _ _ _ _ => rfl⟩
noncomputable def p_X12_readPart_b177 : (Int32 → Int32 → Int32 → Mem → Option (Int32 × Mem)) → Int32 → Int32 → Mem → Option (Int32 × Mem) := Classical.choose p_X12_readPart_b177_ex
theorem p_X12_readPart_b177_eq (K4 : Int32 → Int32 → Int32 → Mem → Option (Int32 × Mem)) (a1 : Int32) (a2 : Int32) (μ : Mem) : p_X12_readPart_b177 K4 a1 a2 μ = bd (p_X12_closeAll a2 μ) (fun r20 μ19 => (if r20 ≤ (0 : Int32) then p_X12_readPart_b199 K4 a1 r20 μ19 else (if (μ19.1 0 5) = (-1 : Int32) then p_X12_readPart_b200 K4 a1 r20 (1 : Int32) μ19 else p_X12_readPart_b199 K4 a1 r20 μ19))) := Classical.choose_spec p_X12_readPart_b177_ex K4 a1 a2 μ
set_option maxHeartbeats 4000000 in
set_option maxRecDepth 100000 in
theorem t_X12_readPart_b177 (l : Launch) (G : Gt) (ad : Nat → Nat) (av : List Value) {r : Int32} {μz : Mem} (K4 : Int32 → Int32 → Int32 → Mem → Option (Int32 × Mem)) (hK4 : ∀ (z1 : Int32) (z2 : Int32) (z3 : Int32) (μ1 : Mem), K4 z1 z2 z3 μ1 = some (r, μz) → Bk l cX12_readPart 6 RX12 (some .boolean) ({ frames := 4, cells := 0, slots := 0, locals := 88 } : Room) G av (eI 1 G ad r μz) (wd 1 G ad μ1) 4 [(0, .ref (ad 0)), (1, .int z1), (2, .int z2), (3, .int z3)] []) (a1 : Int32) (a2 : Int32) (μ : Mem) (h : p_X12_readPart_b177 K4 a1 a2 μ = some (r, μz)) : Bk l cX12_readPart 6 RX12 (some .boolean) ({ frames := 4, cells := 0, slots := 0, locals := 88 } : Room) G av (eI 1 G ad r μz) (wd 1 G ad μ) 177 [(0, .ref (ad 0)), (1, .int a1), (2, .int a2)] [] := by
  intro p e s m below meth c A ls H locs cx hr hlk hA hl hw
  have hx := cx.1
  have hb := cx.2.1
  rw [p_X12_readPart_b177_eq] at h
  refine lv_aload_n hx hb dX12_readPart_177 rfl (lv_at hl 0 rfl) ?_
  refine lv_iload_n hx hb dX12_readPart_178 rfl (lv_at hl 2 rfl) ?_
  obtain ⟨r20, μ19, gr20, h⟩ := bd_some h
  refine g_callVI (As := [.int a2]) (rest := []) cx hw hA (t_X12_closeAll l G ad a2 μ gr20) shm_0 rfl ml_X12_487 im_X12_closeAll se_X12_closeAll in_X12 co_X12_closeAll rfl hd_X12_closeAll rfl ⟨(Nat.le_of_ble_eq_true rfl), (Nat.le_of_ble_eq_true rfl)⟩ hl.1 rfl (Nat.le_of_ble_eq_true rfl) dX12_readPart_179 ⟨rfl, rfl⟩ (fun H locs hw => ?_)
  refine lv_istore_n (lv' := [(2, .int r20), (0, .ref (ad 0)), (1, .int a1)]) hx hb dX12_readPart_182 rfl hl (by decide) rfl (fun ls hl => ?_)
  refine lv_iload_n hx hb dX12_readPart_183 rfl (lv_at hl 0 rfl) ?_
  refine lv_if_le (tgt := 199) hx hb dX12_readPart_184 (by decide) (fun c21 => ?_) (fun c21 => ?_)
  · rw [if_pos c21] at h
    exact t_X12_readPart_b199 l G ad av K4 hK4 a1 r20 μ19 h p e s m below meth c A ls H locs cx hr hlk hA (lv_sub hl [1, 2, 0] rfl) hw
  · rw [if_neg c21] at h
    refine lv_aload_n hx hb dX12_readPart_187 rfl (lv_at hl 1 rfl) ?_
    refine g_get cx hw inX12 (ci := 11) rfl 5 (by decide) rfl (v := .int (μ19.1 0 5)) shm_0 rfl fl_X12_13 dX12_readPart_188 ?_
    refine lv_iconst (v := (-1)) hx hb dX12_readPart_191 (by decide) ?_
    refine lv_icmp_ne (tgt := 199) hx hb dX12_readPart_192 (by decide) (fun c22 => ?_) (fun c22 => ?_)
    · rw [if_neg c22] at h
      exact t_X12_readPart_b199 l G ad av K4 hK4 a1 r20 μ19 h p e s m below meth c A ls H locs cx hr hlk hA (lv_sub hl [1, 2, 0] rfl) hw
    · rw [if_pos c22] at h
      refine lv_iconst (v := 1) hx hb dX12_readPart_195 (by decide) ?_
      refine lv_goto (tgt := 200) hx hb dX12_readPart_196 (by decide) ?_
      exact t_X12_readPart_b200 l G ad av K4 hK4 a1 r20 (1 : Int32) μ19 h p e s m below meth c A ls H locs cx hr hlk hA (lv_sub hl [1, 2, 0] rfl) hw
theorem p_X12_readPart_b83_ex : ∃ f : (Int32 → Int32 → Int32 → Mem → Option (Int32 × Mem)) → Int32 → Int32 → Int32 → Int32 → Int32 → Mem → Option (Int32 × Mem), ∀ (K4 : Int32 → Int32 → Int32 → Mem → Option (Int32 × Mem)) (a1 : Int32) (a2 : Int32) (a3 : Int32) (a4 : Int32) (a5 : Int32) (μ : Mem), f K4 a1 a2 a3 a4 a5 μ = (if a4 = (91 : Int32) then bv (sF μ 0 4 ((μ.1 0 4) + (1 : Int32))) (fun μ27 => bw (p_X12_layRead (2 : Int32) (0 : Int32) μ27) (fun μ28 => gd (inb a2 30) (bv (sF μ28 24 a2.toNatClampNeg (0 : Int32)) (fun μ30 => bv (a2 + 1) (fun v31 => K4 a1 v31 a3 μ30))))) else (if a5 = (0 : Int32) then bd (p_X12_readNumber μ) (fun r15 μ14 => (if r15 = (0 : Int32) then some ((0 : Int32), μ14) else bw (p_X12_layRead (μ14.1 0 6) (μ14.1 0 7) μ14) (fun μ17 => p_X12_readPart_b177 K4 a1 a2 μ17))) else bv (sF μ 0 4 ((μ.1 0 4) + (1 : Int32))) (fun μ23 => bv (sF μ23 0 37 ((μ23.1 0 37) + (1 : Int32))) (fun μ24 => bw (p_X12_layRead (3 : Int32) (0 : Int32) μ24) (fun μ25 => p_X12_readPart_b177 K4 a1 a2 μ25))))) := ⟨fun (K4 : Int32 → Int32 → Int32 → Mem → Option (Int32 × Mem)) (a1 : Int32) (a2 : Int32) (a3 : Int32) (a4 : Int32) (a5 : Int32) (μ : Mem) => (if a4 = (91 : Int32) then bv (sF μ 0 4 ((μ.1 0 4) + (1 : Int32))) (fun μ27 => bw (p_X12_layRead (2 : Int32) (0 : Int32) μ27) (fun μ28 => gd (inb a2 30) (bv (sF μ28 24 a2.toNatClampNeg (0 : Int32)) (fun μ30 => bv (a2 + 1) (fun v31 => K4 a1 v31 a3 μ30))))) else (if a5 = (0 : Int32) then bd (p_X12_readNumber μ) (fun r15 μ14 => (if r15 = (0 : Int32) then some ((0 : Int32), μ14) else bw (p_X12_layRead (μ14.1 0 6) (μ14.1 0 7) μ14) (fun μ17 => p_X12_readPart_b177 K4 a1 a2 μ17))) else bv (sF μ 0 4 ((μ.1 0 4) + (1 : Int32))) (fun μ23 => bv (sF μ23 0 37 ((μ23.1 0 37) + (1 : Int32))) (fun μ24 => bw (p_X12_layRead (3 : Int32) (0 : Int32) μ24) (fun μ25 => p_X12_readPart_b177 K4 a1 a2 μ25))))), fun _ _ _ _ _ _ _ => rfl⟩
noncomputable def p_X12_readPart_b83 : (Int32 → Int32 → Int32 → Mem → Option (Int32 × Mem)) → Int32 → Int32 → Int32 → Int32 → Int32 → Mem → Option (Int32 × Mem) := Classical.choose p_X12_readPart_b83_ex
theorem p_X12_readPart_b83_eq (K4 : Int32 → Int32 → Int32 → Mem → Option (Int32 × Mem)) (a1 : Int32) (a2 : Int32) (a3 : Int32) (a4 : Int32) (a5 : Int32) (μ : Mem) : p_X12_readPart_b83 K4 a1 a2 a3 a4 a5 μ = (if a4 = (91 : Int32) then bv (sF μ 0 4 ((μ.1 0 4) + (1 : Int32))) (fun μ27 => bw (p_X12_layRead (2 : Int32) (0 : Int32) μ27) (fun μ28 => gd (inb a2 30) (bv (sF μ28 24 a2.toNatClampNeg (0 : Int32)) (fun μ30 => bv (a2 + 1) (fun v31 => K4 a1 v31 a3 μ30))))) else (if a5 = (0 : Int32) then bd (p_X12_readNumber μ) (fun r15 μ14 => (if r15 = (0 : Int32) then some ((0 : Int32), μ14) else bw (p_X12_layRead (μ14.1 0 6) (μ14.1 0 7) μ14) (fun μ17 => p_X12_readPart_b177 K4 a1 a2 μ17))) else bv (sF μ 0 4 ((μ.1 0 4) + (1 : Int32))) (fun μ23 => bv (sF μ23 0 37 ((μ23.1 0 37) + (1 : Int32))) (fun μ24 => bw (p_X12_layRead (3 : Int32) (0 : Int32) μ24) (fun μ25 => p_X12_readPart_b177 K4 a1 a2 μ25))))) := Classical.choose_spec p_X12_readPart_b83_ex K4 a1 a2 a3 a4 a5 μ
set_option maxHeartbeats 4000000 in
set_option maxRecDepth 100000 in
theorem t_X12_readPart_b83 (l : Launch) (G : Gt) (ad : Nat → Nat) (av : List Value) {r : Int32} {μz : Mem} (K4 : Int32 → Int32 → Int32 → Mem → Option (Int32 × Mem)) (hK4 : ∀ (z1 : Int32) (z2 : Int32) (z3 : Int32) (μ1 : Mem), K4 z1 z2 z3 μ1 = some (r, μz) → Bk l cX12_readPart 6 RX12 (some .boolean) ({ frames := 4, cells := 0, slots := 0, locals := 88 } : Room) G av (eI 1 G ad r μz) (wd 1 G ad μ1) 4 [(0, .ref (ad 0)), (1, .int z1), (2, .int z2), (3, .int z3)] []) (a1 : Int32) (a2 : Int32) (a3 : Int32) (a4 : Int32) (a5 : Int32) (μ : Mem) (h : p_X12_readPart_b83 K4 a1 a2 a3 a4 a5 μ = some (r, μz)) : Bk l cX12_readPart 6 RX12 (some .boolean) ({ frames := 4, cells := 0, slots := 0, locals := 88 } : Room) G av (eI 1 G ad r μz) (wd 1 G ad μ) 83 [(0, .ref (ad 0)), (1, .int a1), (2, .int a2), (3, .int a3), (4, .int a4), (5, .int a5)] [] := by
  intro p e s m below meth c A ls H locs cx hr hlk hA hl hw
  have hx := cx.1
  have hb := cx.2.1
  rw [p_X12_readPart_b83_eq] at h
  refine lv_iload hx hb dX12_readPart_83 (lv_at hl 4 rfl) ?_
  refine lv_bipush (v := 91) hx hb dX12_readPart_85 (by decide) ?_
  refine lv_icmp_ne (tgt := 119) hx hb dX12_readPart_87 (by decide) (fun c12 => ?_) (fun c12 => ?_)
  · rw [if_neg c12] at h
    refine lv_iload hx hb dX12_readPart_119 (lv_at hl 5 rfl) ?_
    refine lv_if_eq (tgt := 153) hx hb dX12_readPart_121 (by decide) (fun c13 => ?_) (fun c13 => ?_)
    · rw [if_pos c13] at h
      refine lv_aload_n hx hb dX12_readPart_153 rfl (lv_at hl 0 rfl) ?_
      obtain ⟨r15, μ14, gr15, h⟩ := bd_some h
      refine g_callVI (As := []) (rest := []) cx hw hA (t_X12_readNumber l G ad μ gr15) shm_0 rfl ml_X12_416 im_X12_readNumber se_X12_readNumber in_X12 co_X12_readNumber rfl hd_X12_readNumber rfl ⟨(Nat.le_of_ble_eq_true rfl), (Nat.le_of_ble_eq_true rfl)⟩ hl.1 rfl (Nat.le_of_ble_eq_true rfl) dX12_readPart_154 ⟨rfl, rfl⟩ (fun H locs hw => ?_)
      refine lv_if_eq (tgt := 175) hx hb dX12_readPart_157 (by decide) (fun c16 => ?_) (fun c16 => ?_)
      · rw [if_pos c16] at h
        refine lv_iconst (v := 0) hx hb dX12_readPart_175 (by decide) ?_
        exact g_zret cx hr hlk rfl hw h dX12_readPart_176
      · rw [if_neg c16] at h
        refine lv_aload_n hx hb dX12_readPart_160 rfl (lv_at hl 0 rfl) ?_
        refine lv_aload_n hx hb dX12_readPart_161 rfl (lv_at hl 0 rfl) ?_
        refine g_get cx hw inX12 (ci := 11) rfl 6 (by decide) rfl (v := .int (μ14.1 0 6)) shm_0 rfl fl_X12_378 dX12_readPart_162 ?_
        refine lv_aload_n hx hb dX12_readPart_165 rfl (lv_at hl 0 rfl) ?_
        refine g_get cx hw inX12 (ci := 11) rfl 7 (by decide) rfl (v := .int (μ14.1 0 7)) shm_0 rfl fl_X12_381 dX12_readPart_166 ?_
        obtain ⟨μ17, gμ17, h⟩ := bw_some h
        refine g_callVV (As := [.int (μ14.1 0 6), .int (μ14.1 0 7)]) (rest := []) cx hw hA (t_X12_layRead l G ad (μ14.1 0 6) (μ14.1 0 7) μ14 gμ17) shm_0 rfl ml_X12_484 im_X12_layRead se_X12_layRead in_X12 co_X12_layRead rfl hd_X12_layRead rfl ⟨(Nat.le_of_ble_eq_true rfl), (Nat.le_of_ble_eq_true rfl)⟩ hl.1 rfl (Nat.le_of_ble_eq_true rfl) dX12_readPart_169 ⟨rfl, rfl⟩ (fun H locs hw => ?_)
        refine lv_goto (tgt := 177) hx hb dX12_readPart_172 (by decide) ?_
        exact t_X12_readPart_b177 l G ad av K4 hK4 a1 a2 μ17 h p e s m below meth c A ls H locs cx hr hlk hA (lv_sub hl [0, 1, 2] rfl) hw
    · rw [if_neg c13] at h
      refine lv_aload_n hx hb dX12_readPart_124 rfl (lv_at hl 0 rfl) ?_
      refine lv_dup hx hb dX12_readPart_125 rfl ?_
      refine g_get cx hw inX12 (ci := 11) rfl 4 (by decide) rfl (v := .int (μ.1 0 4)) shm_0 rfl fl_X12_362 dX12_readPart_126 ?_
      refine lv_iconst (v := 1) hx hb dX12_readPart_129 (by decide) ?_
      refine lv_iadd hx hb dX12_readPart_130 ?_
      refine g_put cx hw inX12 (ci := 11) rfl tyX12_ok nmX12 4 (by decide) rfl rfl rfl rfl shm_0 h fl_X12_362 dX12_readPart_131 (fun μ23 H locs h hw => ?_)
      refine lv_aload_n hx hb dX12_readPart_134 rfl (lv_at hl 0 rfl) ?_
      refine lv_dup hx hb dX12_readPart_135 rfl ?_
      refine g_get cx hw inX12 (ci := 11) rfl 37 (by decide) rfl (v := .int (μ23.1 0 37)) shm_0 rfl fl_X12_481 dX12_readPart_136 ?_
      refine lv_iconst (v := 1) hx hb dX12_readPart_139 (by decide) ?_
      refine lv_iadd hx hb dX12_readPart_140 ?_
      refine g_put cx hw inX12 (ci := 11) rfl tyX12_ok nmX12 37 (by decide) rfl rfl rfl rfl shm_0 h fl_X12_481 dX12_readPart_141 (fun μ24 H locs h hw => ?_)
      refine lv_aload_n hx hb dX12_readPart_144 rfl (lv_at hl 0 rfl) ?_
      refine lv_iconst (v := 3) hx hb dX12_readPart_145 (by decide) ?_
      refine lv_iconst (v := 0) hx hb dX12_readPart_146 (by decide) ?_
      obtain ⟨μ25, gμ25, h⟩ := bw_some h
      refine g_callVV (As := [.int 3, .int 0]) (rest := []) cx hw hA (t_X12_layRead l G ad (3 : Int32) (0 : Int32) μ24 gμ25) shm_0 rfl ml_X12_484 im_X12_layRead se_X12_layRead in_X12 co_X12_layRead rfl hd_X12_layRead rfl ⟨(Nat.le_of_ble_eq_true rfl), (Nat.le_of_ble_eq_true rfl)⟩ hl.1 rfl (Nat.le_of_ble_eq_true rfl) dX12_readPart_147 ⟨rfl, rfl⟩ (fun H locs hw => ?_)
      refine lv_goto (tgt := 177) hx hb dX12_readPart_150 (by decide) ?_
      exact t_X12_readPart_b177 l G ad av K4 hK4 a1 a2 μ25 h p e s m below meth c A ls H locs cx hr hlk hA (lv_sub hl [0, 1, 2] rfl) hw
  · rw [if_pos c12] at h
    refine lv_aload_n hx hb dX12_readPart_90 rfl (lv_at hl 0 rfl) ?_
    refine lv_dup hx hb dX12_readPart_91 rfl ?_
    refine g_get cx hw inX12 (ci := 11) rfl 4 (by decide) rfl (v := .int (μ.1 0 4)) shm_0 rfl fl_X12_362 dX12_readPart_92 ?_
    refine lv_iconst (v := 1) hx hb dX12_readPart_95 (by decide) ?_
    refine lv_iadd hx hb dX12_readPart_96 ?_
    refine g_put cx hw inX12 (ci := 11) rfl tyX12_ok nmX12 4 (by decide) rfl rfl rfl rfl shm_0 h fl_X12_362 dX12_readPart_97 (fun μ27 H locs h hw => ?_)
    refine lv_aload_n hx hb dX12_readPart_100 rfl (lv_at hl 0 rfl) ?_
    refine lv_iconst (v := 2) hx hb dX12_readPart_101 (by decide) ?_
    refine lv_iconst (v := 0) hx hb dX12_readPart_102 (by decide) ?_
    obtain ⟨μ28, gμ28, h⟩ := bw_some h
    refine g_callVV (As := [.int 2, .int 0]) (rest := []) cx hw hA (t_X12_layRead l G ad (2 : Int32) (0 : Int32) μ27 gμ28) shm_0 rfl ml_X12_484 im_X12_layRead se_X12_layRead in_X12 co_X12_layRead rfl hd_X12_layRead rfl ⟨(Nat.le_of_ble_eq_true rfl), (Nat.le_of_ble_eq_true rfl)⟩ hl.1 rfl (Nat.le_of_ble_eq_true rfl) dX12_readPart_103 ⟨rfl, rfl⟩ (fun H locs hw => ?_)
    refine lv_aload_n hx hb dX12_readPart_106 rfl (lv_at hl 0 rfl) ?_
    refine g_get cx hw inX12 (ci := 11) rfl 35 (by decide) rfl (v := .ref (ad 24)) shm_0 rfl fl_X12_84 dX12_readPart_107 ?_
    refine lv_iload_n hx hb dX12_readPart_110 rfl (lv_at hl 2 rfl) ?_
    refine lv_iconst (v := 0) hx hb dX12_readPart_111 (by decide) ?_
    refine g_iast cx hw shm_24 h dX12_readPart_112 (fun μ30 H locs h hw => ?_)
    obtain ⟨v31, ev31, h⟩ := bv_ex h
    refine lv_iinc (v := v31) (lv' := [(2, .int v31), (0, .ref (ad 0)), (1, .int a1), (3, .int a3), (4, .int a4), (5, .int a5)]) hx hb dX12_readPart_113 hl (k := 2) rfl (by rw [ev31]; rfl) (by decide) rfl (fun ls hl => ?_)
    refine lv_goto (tgt := 4) hx hb dX12_readPart_116 (by decide) ?_
    exact hK4 a1 v31 a3 μ30 h p e s m below meth c A ls H locs cx hr hlk hA (lv_sub hl [1, 2, 0, 3] rfl) hw
theorem p_X12_readPart_b51_ex : ∃ f : (Int32 → Int32 → Int32 → Mem → Option (Int32 × Mem)) → Int32 → Int32 → Int32 → Int32 → Int32 → Mem → Option (Int32 × Mem), ∀ (K4 : Int32 → Int32 → Int32 → Mem → Option (Int32 × Mem)) (a1 : Int32) (a2 : Int32) (a3 : Int32) (a4 : Int32) (a5 : Int32) (μ : Mem), f K4 a1 a2 a3 a4 a5 μ = (if (μ.1 0 36) = (30 : Int32) then bd (p_X12_fails (μ.1 0 4) μ) (fun r9 μ8 => gd (isB r9) (some (r9, μ8))) else (if a5 = (0 : Int32) then p_X12_readPart_b83 K4 a1 a2 a3 a4 a5 μ else (if (μ.1 0 37) = (8 : Int32) then bd (p_X12_fails (μ.1 0 4) μ) (fun r34 μ33 => gd (isB r34) (some (r34, μ33))) else p_X12_readPart_b83 K4 a1 a2 a3 a4 a5 μ))) := ⟨fun (K4 : Int32 → Int32 → Int32 → Mem → Option (Int32 × Mem)) (a1 : Int32) (a2 : Int32) (a3 : Int32) (a4 : Int32) (a5 : Int32) (μ : Mem) => (if (μ.1 0 36) = (30 : Int32) then bd (p_X12_fails (μ.1 0 4) μ) (fun r9 μ8 => gd (isB r9) (some (r9, μ8))) else (if a5 = (0 : Int32) then p_X12_readPart_b83 K4 a1 a2 a3 a4 a5 μ else (if (μ.1 0 37) = (8 : Int32) then bd (p_X12_fails (μ.1 0 4) μ) (fun r34 μ33 => gd (isB r34) (some (r34, μ33))) else p_X12_readPart_b83 K4 a1 a2 a3 a4 a5 μ))), fun _ _ _ _ _ _ _ => rfl⟩
noncomputable def p_X12_readPart_b51 : (Int32 → Int32 → Int32 → Mem → Option (Int32 × Mem)) → Int32 → Int32 → Int32 → Int32 → Int32 → Mem → Option (Int32 × Mem) := Classical.choose p_X12_readPart_b51_ex
theorem p_X12_readPart_b51_eq (K4 : Int32 → Int32 → Int32 → Mem → Option (Int32 × Mem)) (a1 : Int32) (a2 : Int32) (a3 : Int32) (a4 : Int32) (a5 : Int32) (μ : Mem) : p_X12_readPart_b51 K4 a1 a2 a3 a4 a5 μ = (if (μ.1 0 36) = (30 : Int32) then bd (p_X12_fails (μ.1 0 4) μ) (fun r9 μ8 => gd (isB r9) (some (r9, μ8))) else (if a5 = (0 : Int32) then p_X12_readPart_b83 K4 a1 a2 a3 a4 a5 μ else (if (μ.1 0 37) = (8 : Int32) then bd (p_X12_fails (μ.1 0 4) μ) (fun r34 μ33 => gd (isB r34) (some (r34, μ33))) else p_X12_readPart_b83 K4 a1 a2 a3 a4 a5 μ))) := Classical.choose_spec p_X12_readPart_b51_ex K4 a1 a2 a3 a4 a5 μ
set_option maxHeartbeats 4000000 in
set_option maxRecDepth 100000 in
theorem t_X12_readPart_b51 (l : Launch) (G : Gt) (ad : Nat → Nat) (av : List Value) {r : Int32} {μz : Mem} (K4 : Int32 → Int32 → Int32 → Mem → Option (Int32 × Mem)) (hK4 : ∀ (z1 : Int32) (z2 : Int32) (z3 : Int32) (μ1 : Mem), K4 z1 z2 z3 μ1 = some (r, μz) → Bk l cX12_readPart 6 RX12 (some .boolean) ({ frames := 4, cells := 0, slots := 0, locals := 88 } : Room) G av (eI 1 G ad r μz) (wd 1 G ad μ1) 4 [(0, .ref (ad 0)), (1, .int z1), (2, .int z2), (3, .int z3)] []) (a1 : Int32) (a2 : Int32) (a3 : Int32) (a4 : Int32) (a5 : Int32) (μ : Mem) (h : p_X12_readPart_b51 K4 a1 a2 a3 a4 a5 μ = some (r, μz)) : Bk l cX12_readPart 6 RX12 (some .boolean) ({ frames := 4, cells := 0, slots := 0, locals := 88 } : Room) G av (eI 1 G ad r μz) (wd 1 G ad μ) 51 [(0, .ref (ad 0)), (1, .int a1), (2, .int a2), (3, .int a3), (4, .int a4), (5, .int a5)] [] := by
  intro p e s m below meth c A ls H locs cx hr hlk hA hl hw
  have hx := cx.1
  have hb := cx.2.1
  rw [p_X12_readPart_b51_eq] at h
  refine lv_aload_n hx hb dX12_readPart_51 rfl (lv_at hl 0 rfl) ?_
  refine g_get cx hw inX12 (ci := 11) rfl 36 (by decide) rfl (v := .int (μ.1 0 36)) shm_0 rfl fl_X12_478 dX12_readPart_52 ?_
  refine lv_bipush (v := 30) hx hb dX12_readPart_55 (by decide) ?_
  refine lv_icmp_eq (tgt := 74) hx hb dX12_readPart_57 (by decide) (fun c7 => ?_) (fun c7 => ?_)
  · rw [if_pos c7] at h
    refine lv_aload_n hx hb dX12_readPart_74 rfl (lv_at hl 0 rfl) ?_
    refine lv_aload_n hx hb dX12_readPart_75 rfl (lv_at hl 0 rfl) ?_
    refine g_get cx hw inX12 (ci := 11) rfl 4 (by decide) rfl (v := .int (μ.1 0 4)) shm_0 rfl fl_X12_362 dX12_readPart_76 ?_
    obtain ⟨r9, μ8, gr9, h⟩ := bd_some h
    refine g_callVI (As := [.int (μ.1 0 4)]) (rest := []) cx hw hA (t_X12_fails l G ad (μ.1 0 4) μ gr9) shm_0 rfl ml_X12_369 im_X12_fails se_X12_fails in_X12 co_X12_fails rfl hd_X12_fails rfl ⟨(Nat.le_of_ble_eq_true rfl), (Nat.le_of_ble_eq_true rfl)⟩ hl.1 rfl (Nat.le_of_ble_eq_true rfl) dX12_readPart_79 ⟨rfl, rfl⟩ (fun H locs hw => ?_)
    obtain ⟨c10, h⟩ := gd_some h
    exact g_zret cx hr hlk (isB_n c10) hw h dX12_readPart_82
  · rw [if_neg c7] at h
    refine lv_iload hx hb dX12_readPart_60 (lv_at hl 5 rfl) ?_
    refine lv_if_eq (tgt := 83) hx hb dX12_readPart_62 (by decide) (fun c11 => ?_) (fun c11 => ?_)
    · rw [if_pos c11] at h
      exact t_X12_readPart_b83 l G ad av K4 hK4 a1 a2 a3 a4 a5 μ h p e s m below meth c A ls H locs cx hr hlk hA (lv_sub hl [0, 1, 2, 3, 4, 5] rfl) hw
    · rw [if_neg c11] at h
      refine lv_aload_n hx hb dX12_readPart_65 rfl (lv_at hl 0 rfl) ?_
      refine g_get cx hw inX12 (ci := 11) rfl 37 (by decide) rfl (v := .int (μ.1 0 37)) shm_0 rfl fl_X12_481 dX12_readPart_66 ?_
      refine lv_bipush (v := 8) hx hb dX12_readPart_69 (by decide) ?_
      refine lv_icmp_ne (tgt := 83) hx hb dX12_readPart_71 (by decide) (fun c32 => ?_) (fun c32 => ?_)
      · rw [if_neg c32] at h
        exact t_X12_readPart_b83 l G ad av K4 hK4 a1 a2 a3 a4 a5 μ h p e s m below meth c A ls H locs cx hr hlk hA (lv_sub hl [0, 1, 2, 3, 4, 5] rfl) hw
      · rw [if_pos c32] at h
        refine lv_aload_n hx hb dX12_readPart_74 rfl (lv_at hl 0 rfl) ?_
        refine lv_aload_n hx hb dX12_readPart_75 rfl (lv_at hl 0 rfl) ?_
        refine g_get cx hw inX12 (ci := 11) rfl 4 (by decide) rfl (v := .int (μ.1 0 4)) shm_0 rfl fl_X12_362 dX12_readPart_76 ?_
        obtain ⟨r34, μ33, gr34, h⟩ := bd_some h
        refine g_callVI (As := [.int (μ.1 0 4)]) (rest := []) cx hw hA (t_X12_fails l G ad (μ.1 0 4) μ gr34) shm_0 rfl ml_X12_369 im_X12_fails se_X12_fails in_X12 co_X12_fails rfl hd_X12_fails rfl ⟨(Nat.le_of_ble_eq_true rfl), (Nat.le_of_ble_eq_true rfl)⟩ hl.1 rfl (Nat.le_of_ble_eq_true rfl) dX12_readPart_79 ⟨rfl, rfl⟩ (fun H locs hw => ?_)
        obtain ⟨c35, h⟩ := gd_some h
        exact g_zret cx hr hlk (isB_n c35) hw h dX12_readPart_82
theorem p_X12_readPart_b30_ex : ∃ f : (Int32 → Int32 → Int32 → Mem → Option (Int32 × Mem)) → Int32 → Int32 → Int32 → Int32 → Int32 → Mem → Option (Int32 × Mem), ∀ (K4 : Int32 → Int32 → Int32 → Mem → Option (Int32 × Mem)) (a1 : Int32) (a2 : Int32) (a3 : Int32) (a4 : Int32) (k0 : Int32) (μ : Mem), f K4 a1 a2 a3 a4 k0 μ = (if k0 = (0 : Int32) then (if a4 = (91 : Int32) then p_X12_readPart_b51 K4 a1 a2 a3 a4 k0 μ else bd (p_X12_beginsNumber μ) (fun r38 μ37 => (if r38 = (0 : Int32) then bd (p_X12_fails (μ37.1 0 4) μ37) (fun r41 μ40 => gd (isB r41) (some (r41, μ40))) else p_X12_readPart_b51 K4 a1 a2 a3 a4 k0 μ37))) else p_X12_readPart_b51 K4 a1 a2 a3 a4 k0 μ) := ⟨fun (K4 : Int32 → Int32 → Int32 → Mem → Option (Int32 × Mem)) (a1 : Int32) (a2 : Int32) (a3 : Int32) (a4 : Int32) (k0 : Int32) (μ : Mem) => (if k0 = (0 : Int32) then (if a4 = (91 : Int32) then p_X12_readPart_b51 K4 a1 a2 a3 a4 k0 μ else bd (p_X12_beginsNumber μ) (fun r38 μ37 => (if r38 = (0 : Int32) then bd (p_X12_fails (μ37.1 0 4) μ37) (fun r41 μ40 => gd (isB r41) (some (r41, μ40))) else p_X12_readPart_b51 K4 a1 a2 a3 a4 k0 μ37))) else p_X12_readPart_b51 K4 a1 a2 a3 a4 k0 μ), fun _ _ _ _ _ _ _ => rfl⟩
noncomputable def p_X12_readPart_b30 : (Int32 → Int32 → Int32 → Mem → Option (Int32 × Mem)) → Int32 → Int32 → Int32 → Int32 → Int32 → Mem → Option (Int32 × Mem) := Classical.choose p_X12_readPart_b30_ex
theorem p_X12_readPart_b30_eq (K4 : Int32 → Int32 → Int32 → Mem → Option (Int32 × Mem)) (a1 : Int32) (a2 : Int32) (a3 : Int32) (a4 : Int32) (k0 : Int32) (μ : Mem) : p_X12_readPart_b30 K4 a1 a2 a3 a4 k0 μ = (if k0 = (0 : Int32) then (if a4 = (91 : Int32) then p_X12_readPart_b51 K4 a1 a2 a3 a4 k0 μ else bd (p_X12_beginsNumber μ) (fun r38 μ37 => (if r38 = (0 : Int32) then bd (p_X12_fails (μ37.1 0 4) μ37) (fun r41 μ40 => gd (isB r41) (some (r41, μ40))) else p_X12_readPart_b51 K4 a1 a2 a3 a4 k0 μ37))) else p_X12_readPart_b51 K4 a1 a2 a3 a4 k0 μ) := Classical.choose_spec p_X12_readPart_b30_ex K4 a1 a2 a3 a4 k0 μ
set_option maxHeartbeats 4000000 in
set_option maxRecDepth 100000 in
theorem t_X12_readPart_b30 (l : Launch) (G : Gt) (ad : Nat → Nat) (av : List Value) {r : Int32} {μz : Mem} (K4 : Int32 → Int32 → Int32 → Mem → Option (Int32 × Mem)) (hK4 : ∀ (z1 : Int32) (z2 : Int32) (z3 : Int32) (μ1 : Mem), K4 z1 z2 z3 μ1 = some (r, μz) → Bk l cX12_readPart 6 RX12 (some .boolean) ({ frames := 4, cells := 0, slots := 0, locals := 88 } : Room) G av (eI 1 G ad r μz) (wd 1 G ad μ1) 4 [(0, .ref (ad 0)), (1, .int z1), (2, .int z2), (3, .int z3)] []) (a1 : Int32) (a2 : Int32) (a3 : Int32) (a4 : Int32) (k0 : Int32) (μ : Mem) (h : p_X12_readPart_b30 K4 a1 a2 a3 a4 k0 μ = some (r, μz)) : Bk l cX12_readPart 6 RX12 (some .boolean) ({ frames := 4, cells := 0, slots := 0, locals := 88 } : Room) G av (eI 1 G ad r μz) (wd 1 G ad μ) 30 [(0, .ref (ad 0)), (1, .int a1), (2, .int a2), (3, .int a3), (4, .int a4)] [.int k0] := by
  intro p e s m below meth c A ls H locs cx hr hlk hA hl hw
  have hx := cx.1
  have hb := cx.2.1
  rw [p_X12_readPart_b30_eq] at h
  refine lv_istore (lv' := [(5, .int k0), (0, .ref (ad 0)), (1, .int a1), (2, .int a2), (3, .int a3), (4, .int a4)]) hx hb dX12_readPart_30 hl (by decide) rfl (fun ls hl => ?_)
  refine lv_iload hx hb dX12_readPart_32 (lv_at hl 0 rfl) ?_
  refine lv_if_ne (tgt := 51) hx hb dX12_readPart_34 (by decide) (fun c6 => ?_) (fun c6 => ?_)
  · rw [if_neg c6] at h
    exact t_X12_readPart_b51 l G ad av K4 hK4 a1 a2 a3 a4 k0 μ h p e s m below meth c A ls H locs cx hr hlk hA (lv_sub hl [1, 2, 3, 4, 5, 0] rfl) hw
  · rw [if_pos c6] at h
    refine lv_iload hx hb dX12_readPart_37 (lv_at hl 5 rfl) ?_
    refine lv_bipush (v := 91) hx hb dX12_readPart_39 (by decide) ?_
    refine lv_icmp_eq (tgt := 51) hx hb dX12_readPart_41 (by decide) (fun c36 => ?_) (fun c36 => ?_)
    · rw [if_pos c36] at h
      exact t_X12_readPart_b51 l G ad av K4 hK4 a1 a2 a3 a4 k0 μ h p e s m below meth c A ls H locs cx hr hlk hA (lv_sub hl [1, 2, 3, 4, 5, 0] rfl) hw
    · rw [if_neg c36] at h
      refine lv_aload_n hx hb dX12_readPart_44 rfl (lv_at hl 1 rfl) ?_
      obtain ⟨r38, μ37, gr38, h⟩ := bd_some h
      refine g_callVI (As := []) (rest := []) cx hw hA (t_X12_beginsNumber l G ad μ gr38) shm_0 rfl ml_X12_399 im_X12_beginsNumber se_X12_beginsNumber in_X12 co_X12_beginsNumber rfl hd_X12_beginsNumber rfl ⟨(Nat.le_of_ble_eq_true rfl), (Nat.le_of_ble_eq_true rfl)⟩ hl.1 rfl (Nat.le_of_ble_eq_true rfl) dX12_readPart_45 ⟨rfl, rfl⟩ (fun H locs hw => ?_)
      refine lv_if_eq (tgt := 74) hx hb dX12_readPart_48 (by decide) (fun c39 => ?_) (fun c39 => ?_)
      · rw [if_pos c39] at h
        refine lv_aload_n hx hb dX12_readPart_74 rfl (lv_at hl 1 rfl) ?_
        refine lv_aload_n hx hb dX12_readPart_75 rfl (lv_at hl 1 rfl) ?_
        refine g_get cx hw inX12 (ci := 11) rfl 4 (by decide) rfl (v := .int (μ37.1 0 4)) shm_0 rfl fl_X12_362 dX12_readPart_76 ?_
        obtain ⟨r41, μ40, gr41, h⟩ := bd_some h
        refine g_callVI (As := [.int (μ37.1 0 4)]) (rest := []) cx hw hA (t_X12_fails l G ad (μ37.1 0 4) μ37 gr41) shm_0 rfl ml_X12_369 im_X12_fails se_X12_fails in_X12 co_X12_fails rfl hd_X12_fails rfl ⟨(Nat.le_of_ble_eq_true rfl), (Nat.le_of_ble_eq_true rfl)⟩ hl.1 rfl (Nat.le_of_ble_eq_true rfl) dX12_readPart_79 ⟨rfl, rfl⟩ (fun H locs hw => ?_)
        obtain ⟨c42, h⟩ := gd_some h
        exact g_zret cx hr hlk (isB_n c42) hw h dX12_readPart_82
      · rw [if_neg c39] at h
        exact t_X12_readPart_b51 l G ad av K4 hK4 a1 a2 a3 a4 k0 μ37 h p e s m below meth c A ls H locs cx hr hlk hA (lv_sub hl [1, 2, 3, 4, 5, 0] rfl) hw
theorem p_X12_readPart_b29_ex : ∃ f : (Int32 → Int32 → Int32 → Mem → Option (Int32 × Mem)) → Int32 → Int32 → Int32 → Int32 → Mem → Option (Int32 × Mem), ∀ (K4 : Int32 → Int32 → Int32 → Mem → Option (Int32 × Mem)) (a1 : Int32) (a2 : Int32) (a3 : Int32) (a4 : Int32) (μ : Mem), f K4 a1 a2 a3 a4 μ = p_X12_readPart_b30 K4 a1 a2 a3 a4 (0 : Int32) μ := ⟨fun (K4 : Int32 → Int32 → Int32 → Mem → Option (Int32 × Mem)) (a1 : Int32) (a2 : Int32) (a3 : Int32) (a4 : Int32) (μ : Mem) => p_X12_readPart_b30 K4 a1 a2 a3 a4 (0 : Int32) μ, fun _ _ _ _ _ _ => rfl⟩
noncomputable def p_X12_readPart_b29 : (Int32 → Int32 → Int32 → Mem → Option (Int32 × Mem)) → Int32 → Int32 → Int32 → Int32 → Mem → Option (Int32 × Mem) := Classical.choose p_X12_readPart_b29_ex
theorem p_X12_readPart_b29_eq (K4 : Int32 → Int32 → Int32 → Mem → Option (Int32 × Mem)) (a1 : Int32) (a2 : Int32) (a3 : Int32) (a4 : Int32) (μ : Mem) : p_X12_readPart_b29 K4 a1 a2 a3 a4 μ = p_X12_readPart_b30 K4 a1 a2 a3 a4 (0 : Int32) μ := Classical.choose_spec p_X12_readPart_b29_ex K4 a1 a2 a3 a4 μ
set_option maxHeartbeats 4000000 in
set_option maxRecDepth 100000 in
theorem t_X12_readPart_b29 (l : Launch) (G : Gt) (ad : Nat → Nat) (av : List Value) {r : Int32} {μz : Mem} (K4 : Int32 → Int32 → Int32 → Mem → Option (Int32 × Mem)) (hK4 : ∀ (z1 : Int32) (z2 : Int32) (z3 : Int32) (μ1 : Mem), K4 z1 z2 z3 μ1 = some (r, μz) → Bk l cX12_readPart 6 RX12 (some .boolean) ({ frames := 4, cells := 0, slots := 0, locals := 88 } : Room) G av (eI 1 G ad r μz) (wd 1 G ad μ1) 4 [(0, .ref (ad 0)), (1, .int z1), (2, .int z2), (3, .int z3)] []) (a1 : Int32) (a2 : Int32) (a3 : Int32) (a4 : Int32) (μ : Mem) (h : p_X12_readPart_b29 K4 a1 a2 a3 a4 μ = some (r, μz)) : Bk l cX12_readPart 6 RX12 (some .boolean) ({ frames := 4, cells := 0, slots := 0, locals := 88 } : Room) G av (eI 1 G ad r μz) (wd 1 G ad μ) 29 [(0, .ref (ad 0)), (1, .int a1), (2, .int a2), (3, .int a3), (4, .int a4)] [] := by
  intro p e s m below meth c A ls H locs cx hr hlk hA hl hw
  have hx := cx.1
  have hb := cx.2.1
  rw [p_X12_readPart_b29_eq] at h
  refine lv_iconst (v := 0) hx hb dX12_readPart_29 (by decide) ?_
  exact t_X12_readPart_b30 l G ad av K4 hK4 a1 a2 a3 a4 (0 : Int32) μ h p e s m below meth c A ls H locs cx hr hlk hA (lv_sub hl [0, 1, 2, 3, 4] rfl) hw
theorem p_X12_readPart_b4_ex : ∃ f : Nat → Int32 → Int32 → Int32 → Mem → Option (Int32 × Mem), (∀ (a1 : Int32) (a2 : Int32) (a3 : Int32) (μ : Mem), f  0 a1 a2 a3 μ = none) ∧ (∀ (n : Nat) (a1 : Int32) (a2 : Int32) (a3 : Int32) (μ : Mem), f  (n + 1) a1 a2 a3 μ = (if a3 = (0 : Int32) then (if (μ.1 0 5) = (-1 : Int32) then some ((1 : Int32), μ) else some ((0 : Int32), μ)) else bd (p_X12_here μ) (fun r4 μ3 => (if r4 = (42 : Int32) then (if a1 = (0 : Int32) then p_X12_readPart_b29 (f n) a1 a2 a3 r4 μ3 else p_X12_readPart_b30 (f n) a1 a2 a3 r4 (1 : Int32) μ3) else p_X12_readPart_b29 (f n) a1 a2 a3 r4 μ3)))) := ⟨fun n => Nat.rec (fun (a1 : Int32) (a2 : Int32) (a3 : Int32) (μ : Mem) => none) (fun _ ih => fun (a1 : Int32) (a2 : Int32) (a3 : Int32) (μ : Mem) => (if a3 = (0 : Int32) then (if (μ.1 0 5) = (-1 : Int32) then some ((1 : Int32), μ) else some ((0 : Int32), μ)) else bd (p_X12_here μ) (fun r4 μ3 => (if r4 = (42 : Int32) then (if a1 = (0 : Int32) then p_X12_readPart_b29 (ih) a1 a2 a3 r4 μ3 else p_X12_readPart_b30 (ih) a1 a2 a3 r4 (1 : Int32) μ3) else p_X12_readPart_b29 (ih) a1 a2 a3 r4 μ3)))) n, fun  _ _ _ _ => rfl, fun  _ _ _ _ _ => rfl⟩
noncomputable def p_X12_readPart_b4 : Nat → Int32 → Int32 → Int32 → Mem → Option (Int32 × Mem) := Classical.choose p_X12_readPart_b4_ex
theorem p_X12_readPart_b4_z (a1 : Int32) (a2 : Int32) (a3 : Int32) (μ : Mem) : p_X12_readPart_b4  0 a1 a2 a3 μ = none := (Classical.choose_spec p_X12_readPart_b4_ex).1  a1 a2 a3 μ
theorem p_X12_readPart_b4_s (n : Nat) (a1 : Int32) (a2 : Int32) (a3 : Int32) (μ : Mem) : p_X12_readPart_b4  (n + 1) a1 a2 a3 μ = (if a3 = (0 : Int32) then (if (μ.1 0 5) = (-1 : Int32) then some ((1 : Int32), μ) else some ((0 : Int32), μ)) else bd (p_X12_here μ) (fun r4 μ3 => (if r4 = (42 : Int32) then (if a1 = (0 : Int32) then p_X12_readPart_b29 (p_X12_readPart_b4  n) a1 a2 a3 r4 μ3 else p_X12_readPart_b30 (p_X12_readPart_b4  n) a1 a2 a3 r4 (1 : Int32) μ3) else p_X12_readPart_b29 (p_X12_readPart_b4  n) a1 a2 a3 r4 μ3))) := (Classical.choose_spec p_X12_readPart_b4_ex).2  n a1 a2 a3 μ
set_option maxHeartbeats 4000000 in
set_option maxRecDepth 100000 in
theorem t_X12_readPart_b4 (l : Launch) (G : Gt) (ad : Nat → Nat) (av : List Value) {r : Int32} {μz : Mem} : ∀ (n : Nat) (a1 : Int32) (a2 : Int32) (a3 : Int32) (μ : Mem), p_X12_readPart_b4  n a1 a2 a3 μ = some (r, μz) → Bk l cX12_readPart 6 RX12 (some .boolean) ({ frames := 4, cells := 0, slots := 0, locals := 88 } : Room) G av (eI 1 G ad r μz) (wd 1 G ad μ) 4 [(0, .ref (ad 0)), (1, .int a1), (2, .int a2), (3, .int a3)] [] := by
  intro n
  induction n with
  | zero => intro a1 a2 a3 μ h; rw [p_X12_readPart_b4_z] at h; cases h
  | succ n ih =>
    intro a1 a2 a3 μ h p e s m below meth c A ls H locs cx hr hlk hA hl hw
    have hx := cx.1
    have hb := cx.2.1
    rw [p_X12_readPart_b4_s] at h
    refine lv_iload_n hx hb dX12_readPart_4 rfl (lv_at hl 3 rfl) ?_
    refine lv_if_eq (tgt := 204) hx hb dX12_readPart_5 (by decide) (fun c1 => ?_) (fun c1 => ?_)
    · rw [if_pos c1] at h
      refine lv_aload_n hx hb dX12_readPart_204 rfl (lv_at hl 0 rfl) ?_
      refine g_get cx hw inX12 (ci := 11) rfl 5 (by decide) rfl (v := .int (μ.1 0 5)) shm_0 rfl fl_X12_13 dX12_readPart_205 ?_
      refine lv_iconst (v := (-1)) hx hb dX12_readPart_208 (by decide) ?_
      refine lv_icmp_ne (tgt := 216) hx hb dX12_readPart_209 (by decide) (fun c2 => ?_) (fun c2 => ?_)
      · rw [if_neg c2] at h
        refine lv_iconst (v := 0) hx hb dX12_readPart_216 (by decide) ?_
        exact g_zret cx hr hlk rfl hw h dX12_readPart_217
      · rw [if_pos c2] at h
        refine lv_iconst (v := 1) hx hb dX12_readPart_212 (by decide) ?_
        refine lv_goto (tgt := 217) hx hb dX12_readPart_213 (by decide) ?_
        exact g_zret cx hr hlk rfl hw h dX12_readPart_217
    · rw [if_neg c1] at h
      refine lv_aload_n hx hb dX12_readPart_8 rfl (lv_at hl 0 rfl) ?_
      obtain ⟨r4, μ3, gr4, h⟩ := bd_some h
      refine g_callVI (As := []) (rest := []) cx hw hA (t_X12_here l G ad μ gr4) shm_0 rfl ml_X12_365 im_X12_here se_X12_here in_X12 co_X12_here rfl hd_X12_here rfl ⟨(Nat.le_of_ble_eq_true rfl), (Nat.le_of_ble_eq_true rfl)⟩ hl.1 rfl (Nat.le_of_ble_eq_true rfl) dX12_readPart_9 ⟨rfl, rfl⟩ (fun H locs hw => ?_)
      refine lv_istore (lv' := [(4, .int r4), (0, .ref (ad 0)), (1, .int a1), (2, .int a2), (3, .int a3)]) hx hb dX12_readPart_12 hl (by decide) rfl (fun ls hl => ?_)
      refine lv_iload hx hb dX12_readPart_14 (lv_at hl 0 rfl) ?_
      refine lv_bipush (v := 42) hx hb dX12_readPart_16 (by decide) ?_
      refine lv_icmp_ne (tgt := 29) hx hb dX12_readPart_18 (by decide) (fun c5 => ?_) (fun c5 => ?_)
      · rw [if_neg c5] at h
        exact t_X12_readPart_b29 l G ad av _ ih a1 a2 a3 r4 μ3 h p e s m below meth c A ls H locs cx hr hlk hA (lv_sub hl [1, 2, 3, 4, 0] rfl) hw
      · rw [if_pos c5] at h
        refine lv_iload_n hx hb dX12_readPart_21 rfl (lv_at hl 2 rfl) ?_
        refine lv_if_eq (tgt := 29) hx hb dX12_readPart_22 (by decide) (fun c43 => ?_) (fun c43 => ?_)
        · rw [if_pos c43] at h
          exact t_X12_readPart_b29 l G ad av _ ih a1 a2 a3 r4 μ3 h p e s m below meth c A ls H locs cx hr hlk hA (lv_sub hl [1, 2, 3, 4, 0] rfl) hw
        · rw [if_neg c43] at h
          refine lv_iconst (v := 1) hx hb dX12_readPart_25 (by decide) ?_
          refine lv_goto (tgt := 30) hx hb dX12_readPart_26 (by decide) ?_
          exact t_X12_readPart_b30 l G ad av _ ih a1 a2 a3 r4 (1 : Int32) μ3 h p e s m below meth c A ls H locs cx hr hlk hA (lv_sub hl [1, 2, 3, 4, 0] rfl) hw
theorem p_X12_readPart_ex : ∃ f : Int32 → Mem → Option (Int32 × Mem), ∀ (a1 : Int32) (μ : Mem), f a1 μ = p_X12_readPart_b4  FUEL a1 (0 : Int32) (1 : Int32) μ := ⟨fun (a1 : Int32) (μ : Mem) => p_X12_readPart_b4  FUEL a1 (0 : Int32) (1 : Int32) μ, fun _ _ => rfl⟩
noncomputable def p_X12_readPart : Int32 → Mem → Option (Int32 × Mem) := Classical.choose p_X12_readPart_ex
theorem p_X12_readPart_eq (a1 : Int32) (μ : Mem) : p_X12_readPart a1 μ = p_X12_readPart_b4  FUEL a1 (0 : Int32) (1 : Int32) μ := Classical.choose_spec p_X12_readPart_ex a1 μ
set_option maxHeartbeats 4000000 in
set_option maxRecDepth 100000 in
theorem t_X12_readPart (l : Launch) (G : Gt) (ad : Nat → Nat) (a1 : Int32) (μ : Mem) {r : Int32} {μz : Mem} (h : p_X12_readPart a1 μ = some (r, μz)) : Mt l yX12_readPart cX12_readPart 6 (some .boolean) ({ frames := 4, cells := 0, slots := 0, locals := 88 } : Room) G [.ref (ad 0), .int a1] (wd 1 G ad μ) (eI 1 G ad r μz) := by
  refine Bk.mt (by decide) rfl (Nat.le_of_ble_eq_true rfl) ?_
  intro p e s m below meth c A ls H locs cx hr hlk hA hl hw
  have hx := cx.1
  have hb := cx.2.1
  have hl : lv_has ls 6 [(0, .ref (ad 0)), (1, .int a1)] := hl
  rw [p_X12_readPart_eq] at h
  refine lv_iconst (v := 0) hx hb dX12_readPart_0 (by decide) ?_
  refine lv_istore_n (lv' := [(2, .int 0), (0, .ref (ad 0)), (1, .int a1)]) hx hb dX12_readPart_1 rfl hl (by decide) rfl (fun ls hl => ?_)
  refine lv_iconst (v := 1) hx hb dX12_readPart_2 (by decide) ?_
  refine lv_istore_n (lv' := [(3, .int 1), (2, .int 0), (0, .ref (ad 0)), (1, .int a1)]) hx hb dX12_readPart_3 rfl hl (by decide) rfl (fun ls hl => ?_)
  exact t_X12_readPart_b4 l G ad _  FUEL a1 (0 : Int32) (1 : Int32) μ h p e s m below meth c A ls H locs cx hr hlk hA (lv_sub hl [2, 3, 1, 0] rfl) hw

theorem p_X12_readTask_b133_ex : ∃ f : (Int32 → Mem → Option (Int32 × Mem)) → Int32 → Mem → Option (Int32 × Mem), ∀ (K87 : Int32 → Mem → Option (Int32 × Mem)) (k0 : Int32) (μ : Mem), f K87 k0 μ = (if k0 = (0 : Int32) then K87 k0 μ else bv (sF μ 0 4 ((μ.1 0 4) + (1 : Int32))) (fun μ35 => K87 k0 μ35)) := ⟨fun (K87 : Int32 → Mem → Option (Int32 × Mem)) (k0 : Int32) (μ : Mem) => (if k0 = (0 : Int32) then K87 k0 μ else bv (sF μ 0 4 ((μ.1 0 4) + (1 : Int32))) (fun μ35 => K87 k0 μ35)), fun _ _ _ => rfl⟩
noncomputable def p_X12_readTask_b133 : (Int32 → Mem → Option (Int32 × Mem)) → Int32 → Mem → Option (Int32 × Mem) := Classical.choose p_X12_readTask_b133_ex
theorem p_X12_readTask_b133_eq (K87 : Int32 → Mem → Option (Int32 × Mem)) (k0 : Int32) (μ : Mem) : p_X12_readTask_b133 K87 k0 μ = (if k0 = (0 : Int32) then K87 k0 μ else bv (sF μ 0 4 ((μ.1 0 4) + (1 : Int32))) (fun μ35 => K87 k0 μ35)) := Classical.choose_spec p_X12_readTask_b133_ex K87 k0 μ
set_option maxHeartbeats 4000000 in
set_option maxRecDepth 100000 in
theorem t_X12_readTask_b133 (l : Launch) (G : Gt) (ad : Nat → Nat) (av : List Value) {r : Int32} {μz : Mem} (K87 : Int32 → Mem → Option (Int32 × Mem)) (hK87 : ∀ (z1 : Int32) (μ1 : Mem), K87 z1 μ1 = some (r, μz) → Bk l cX12_readTask 2 RX12 (some .boolean) ({ frames := 5, cells := 0, slots := 0, locals := 113 } : Room) G av (eI 1 G ad r μz) (wd 1 G ad μ1) 87 [(0, .ref (ad 0)), (1, .int z1)] []) (k0 : Int32) (μ : Mem) (h : p_X12_readTask_b133 K87 k0 μ = some (r, μz)) : Bk l cX12_readTask 2 RX12 (some .boolean) ({ frames := 5, cells := 0, slots := 0, locals := 113 } : Room) G av (eI 1 G ad r μz) (wd 1 G ad μ) 133 [(0, .ref (ad 0))] [.int k0] := by
  intro p e s m below meth c A ls H locs cx hr hlk hA hl hw
  have hx := cx.1
  have hb := cx.2.1
  rw [p_X12_readTask_b133_eq] at h
  refine lv_istore_n (lv' := [(1, .int k0), (0, .ref (ad 0))]) hx hb dX12_readTask_133 rfl hl (by decide) rfl (fun ls hl => ?_)
  refine lv_iload_n hx hb dX12_readTask_134 rfl (lv_at hl 0 rfl) ?_
  refine lv_if_eq (tgt := 87) hx hb dX12_readTask_135 (by decide) (fun c34 => ?_) (fun c34 => ?_)
  · rw [if_pos c34] at h
    exact hK87 k0 μ h p e s m below meth c A ls H locs cx hr hlk hA (lv_sub hl [1, 0] rfl) hw
  · rw [if_neg c34] at h
    refine lv_aload_n hx hb dX12_readTask_138 rfl (lv_at hl 1 rfl) ?_
    refine lv_dup hx hb dX12_readTask_139 rfl ?_
    refine g_get cx hw inX12 (ci := 11) rfl 4 (by decide) rfl (v := .int (μ.1 0 4)) shm_0 rfl fl_X12_362 dX12_readTask_140 ?_
    refine lv_iconst (v := 1) hx hb dX12_readTask_143 (by decide) ?_
    refine lv_iadd hx hb dX12_readTask_144 ?_
    refine g_put cx hw inX12 (ci := 11) rfl tyX12_ok nmX12 4 (by decide) rfl rfl rfl rfl shm_0 h fl_X12_362 dX12_readTask_145 (fun μ35 H locs h hw => ?_)
    refine lv_goto (tgt := 87) hx hb dX12_readTask_148 (by decide) ?_
    exact hK87 k0 μ35 h p e s m below meth c A ls H locs cx hr hlk hA (lv_sub hl [1, 0] rfl) hw
theorem p_X12_readTask_b132_ex : ∃ f : (Int32 → Mem → Option (Int32 × Mem)) → Mem → Option (Int32 × Mem), ∀ (K87 : Int32 → Mem → Option (Int32 × Mem))  (μ : Mem), f K87  μ = p_X12_readTask_b133 K87 (0 : Int32) μ := ⟨fun (K87 : Int32 → Mem → Option (Int32 × Mem))  (μ : Mem) => p_X12_readTask_b133 K87 (0 : Int32) μ, fun _ _ => rfl⟩
noncomputable def p_X12_readTask_b132 : (Int32 → Mem → Option (Int32 × Mem)) → Mem → Option (Int32 × Mem) := Classical.choose p_X12_readTask_b132_ex
theorem p_X12_readTask_b132_eq (K87 : Int32 → Mem → Option (Int32 × Mem))  (μ : Mem) : p_X12_readTask_b132 K87  μ = p_X12_readTask_b133 K87 (0 : Int32) μ := Classical.choose_spec p_X12_readTask_b132_ex K87  μ
set_option maxHeartbeats 4000000 in
set_option maxRecDepth 100000 in
theorem t_X12_readTask_b132 (l : Launch) (G : Gt) (ad : Nat → Nat) (av : List Value) {r : Int32} {μz : Mem} (K87 : Int32 → Mem → Option (Int32 × Mem)) (hK87 : ∀ (z1 : Int32) (μ1 : Mem), K87 z1 μ1 = some (r, μz) → Bk l cX12_readTask 2 RX12 (some .boolean) ({ frames := 5, cells := 0, slots := 0, locals := 113 } : Room) G av (eI 1 G ad r μz) (wd 1 G ad μ1) 87 [(0, .ref (ad 0)), (1, .int z1)] [])  (μ : Mem) (h : p_X12_readTask_b132 K87  μ = some (r, μz)) : Bk l cX12_readTask 2 RX12 (some .boolean) ({ frames := 5, cells := 0, slots := 0, locals := 113 } : Room) G av (eI 1 G ad r μz) (wd 1 G ad μ) 132 [(0, .ref (ad 0))] [] := by
  intro p e s m below meth c A ls H locs cx hr hlk hA hl hw
  have hx := cx.1
  have hb := cx.2.1
  rw [p_X12_readTask_b132_eq] at h
  refine lv_iconst (v := 0) hx hb dX12_readTask_132 (by decide) ?_
  exact t_X12_readTask_b133 l G ad av K87 hK87 (0 : Int32) μ h p e s m below meth c A ls H locs cx hr hlk hA (lv_sub hl [0] rfl) hw
theorem p_X12_readTask_b87_ex : ∃ f : Nat → Int32 → Mem → Option (Int32 × Mem), (∀ (a1 : Int32) (μ : Mem), f  0 a1 μ = none) ∧ (∀ (n : Nat) (a1 : Int32) (μ : Mem), f  (n + 1) a1 μ = (if a1 = (0 : Int32) then bd (p_X12_takes (41 : Int32) μ) (fun r21 μ20 => (if r21 = (0 : Int32) then some ((0 : Int32), μ20) else (if (μ20.1 0 4) = (μ20.1 0 3) then some ((1 : Int32), μ20) else bd (p_X12_fails (μ20.1 0 4) μ20) (fun r25 μ24 => (if r25 = (0 : Int32) then some ((0 : Int32), μ24) else some ((1 : Int32), μ24)))))) else bd (p_X12_readPart (1 : Int32) μ) (fun r28 μ27 => (if r28 = (0 : Int32) then some ((0 : Int32), μ27) else bv (sF μ27 0 48 ((μ27.1 0 48) + (1 : Int32))) (fun μ30 => bd (p_X12_here μ30) (fun r32 μ31 => (if r32 = (44 : Int32) then (if (5 : Int32) ≤ (μ31.1 0 48) then p_X12_readTask_b132 (f n) μ31 else p_X12_readTask_b133 (f n) (1 : Int32) μ31) else p_X12_readTask_b132 (f n) μ31))))))) := ⟨fun n => Nat.rec (fun (a1 : Int32) (μ : Mem) => none) (fun _ ih => fun (a1 : Int32) (μ : Mem) => (if a1 = (0 : Int32) then bd (p_X12_takes (41 : Int32) μ) (fun r21 μ20 => (if r21 = (0 : Int32) then some ((0 : Int32), μ20) else (if (μ20.1 0 4) = (μ20.1 0 3) then some ((1 : Int32), μ20) else bd (p_X12_fails (μ20.1 0 4) μ20) (fun r25 μ24 => (if r25 = (0 : Int32) then some ((0 : Int32), μ24) else some ((1 : Int32), μ24)))))) else bd (p_X12_readPart (1 : Int32) μ) (fun r28 μ27 => (if r28 = (0 : Int32) then some ((0 : Int32), μ27) else bv (sF μ27 0 48 ((μ27.1 0 48) + (1 : Int32))) (fun μ30 => bd (p_X12_here μ30) (fun r32 μ31 => (if r32 = (44 : Int32) then (if (5 : Int32) ≤ (μ31.1 0 48) then p_X12_readTask_b132 (ih) μ31 else p_X12_readTask_b133 (ih) (1 : Int32) μ31) else p_X12_readTask_b132 (ih) μ31))))))) n, fun  _ _ => rfl, fun  _ _ _ => rfl⟩
noncomputable def p_X12_readTask_b87 : Nat → Int32 → Mem → Option (Int32 × Mem) := Classical.choose p_X12_readTask_b87_ex
theorem p_X12_readTask_b87_z (a1 : Int32) (μ : Mem) : p_X12_readTask_b87  0 a1 μ = none := (Classical.choose_spec p_X12_readTask_b87_ex).1  a1 μ
theorem p_X12_readTask_b87_s (n : Nat) (a1 : Int32) (μ : Mem) : p_X12_readTask_b87  (n + 1) a1 μ = (if a1 = (0 : Int32) then bd (p_X12_takes (41 : Int32) μ) (fun r21 μ20 => (if r21 = (0 : Int32) then some ((0 : Int32), μ20) else (if (μ20.1 0 4) = (μ20.1 0 3) then some ((1 : Int32), μ20) else bd (p_X12_fails (μ20.1 0 4) μ20) (fun r25 μ24 => (if r25 = (0 : Int32) then some ((0 : Int32), μ24) else some ((1 : Int32), μ24)))))) else bd (p_X12_readPart (1 : Int32) μ) (fun r28 μ27 => (if r28 = (0 : Int32) then some ((0 : Int32), μ27) else bv (sF μ27 0 48 ((μ27.1 0 48) + (1 : Int32))) (fun μ30 => bd (p_X12_here μ30) (fun r32 μ31 => (if r32 = (44 : Int32) then (if (5 : Int32) ≤ (μ31.1 0 48) then p_X12_readTask_b132 (p_X12_readTask_b87  n) μ31 else p_X12_readTask_b133 (p_X12_readTask_b87  n) (1 : Int32) μ31) else p_X12_readTask_b132 (p_X12_readTask_b87  n) μ31)))))) := (Classical.choose_spec p_X12_readTask_b87_ex).2  n a1 μ
set_option maxHeartbeats 4000000 in
set_option maxRecDepth 100000 in
theorem t_X12_readTask_b87 (l : Launch) (G : Gt) (ad : Nat → Nat) (av : List Value) {r : Int32} {μz : Mem} : ∀ (n : Nat) (a1 : Int32) (μ : Mem), p_X12_readTask_b87  n a1 μ = some (r, μz) → Bk l cX12_readTask 2 RX12 (some .boolean) ({ frames := 5, cells := 0, slots := 0, locals := 113 } : Room) G av (eI 1 G ad r μz) (wd 1 G ad μ) 87 [(0, .ref (ad 0)), (1, .int a1)] [] := by
  intro n
  induction n with
  | zero => intro a1 μ h; rw [p_X12_readTask_b87_z] at h; cases h
  | succ n ih =>
    intro a1 μ h p e s m below meth c A ls H locs cx hr hlk hA hl hw
    have hx := cx.1
    have hb := cx.2.1
    rw [p_X12_readTask_b87_s] at h
    refine lv_iload_n hx hb dX12_readTask_87 rfl (lv_at hl 1 rfl) ?_
    refine lv_if_eq (tgt := 151) hx hb dX12_readTask_88 (by decide) (fun c19 => ?_) (fun c19 => ?_)
    · rw [if_pos c19] at h
      refine lv_aload_n hx hb dX12_readTask_151 rfl (lv_at hl 0 rfl) ?_
      refine lv_bipush (v := 41) hx hb dX12_readTask_152 (by decide) ?_
      obtain ⟨r21, μ20, gr21, h⟩ := bd_some h
      refine g_callVI (As := [.int 41]) (rest := []) cx hw hA (t_X12_takes l G ad (41 : Int32) μ gr21) shm_0 rfl ml_X12_422 im_X12_takes se_X12_takes in_X12 co_X12_takes rfl hd_X12_takes rfl ⟨(Nat.le_of_ble_eq_true rfl), (Nat.le_of_ble_eq_true rfl)⟩ hl.1 rfl (Nat.le_of_ble_eq_true rfl) dX12_readTask_154 ⟨rfl, rfl⟩ (fun H locs hw => ?_)
      refine lv_if_eq (tgt := 186) hx hb dX12_readTask_157 (by decide) (fun c22 => ?_) (fun c22 => ?_)
      · rw [if_pos c22] at h
        refine lv_iconst (v := 0) hx hb dX12_readTask_186 (by decide) ?_
        exact g_zret cx hr hlk rfl hw h dX12_readTask_187
      · rw [if_neg c22] at h
        refine lv_aload_n hx hb dX12_readTask_160 rfl (lv_at hl 0 rfl) ?_
        refine g_get cx hw inX12 (ci := 11) rfl 4 (by decide) rfl (v := .int (μ20.1 0 4)) shm_0 rfl fl_X12_362 dX12_readTask_161 ?_
        refine lv_aload_n hx hb dX12_readTask_164 rfl (lv_at hl 0 rfl) ?_
        refine g_get cx hw inX12 (ci := 11) rfl 3 (by decide) rfl (v := .int (μ20.1 0 3)) shm_0 rfl fl_X12_352 dX12_readTask_165 ?_
        refine lv_icmp_eq (tgt := 182) hx hb dX12_readTask_168 (by decide) (fun c23 => ?_) (fun c23 => ?_)
        · rw [if_pos c23] at h
          refine lv_iconst (v := 1) hx hb dX12_readTask_182 (by decide) ?_
          refine lv_goto (tgt := 187) hx hb dX12_readTask_183 (by decide) ?_
          exact g_zret cx hr hlk rfl hw h dX12_readTask_187
        · rw [if_neg c23] at h
          refine lv_aload_n hx hb dX12_readTask_171 rfl (lv_at hl 0 rfl) ?_
          refine lv_aload_n hx hb dX12_readTask_172 rfl (lv_at hl 0 rfl) ?_
          refine g_get cx hw inX12 (ci := 11) rfl 4 (by decide) rfl (v := .int (μ20.1 0 4)) shm_0 rfl fl_X12_362 dX12_readTask_173 ?_
          obtain ⟨r25, μ24, gr25, h⟩ := bd_some h
          refine g_callVI (As := [.int (μ20.1 0 4)]) (rest := []) cx hw hA (t_X12_fails l G ad (μ20.1 0 4) μ20 gr25) shm_0 rfl ml_X12_369 im_X12_fails se_X12_fails in_X12 co_X12_fails rfl hd_X12_fails rfl ⟨(Nat.le_of_ble_eq_true rfl), (Nat.le_of_ble_eq_true rfl)⟩ hl.1 rfl (Nat.le_of_ble_eq_true rfl) dX12_readTask_176 ⟨rfl, rfl⟩ (fun H locs hw => ?_)
          refine lv_if_eq (tgt := 186) hx hb dX12_readTask_179 (by decide) (fun c26 => ?_) (fun c26 => ?_)
          · rw [if_pos c26] at h
            refine lv_iconst (v := 0) hx hb dX12_readTask_186 (by decide) ?_
            exact g_zret cx hr hlk rfl hw h dX12_readTask_187
          · rw [if_neg c26] at h
            refine lv_iconst (v := 1) hx hb dX12_readTask_182 (by decide) ?_
            refine lv_goto (tgt := 187) hx hb dX12_readTask_183 (by decide) ?_
            exact g_zret cx hr hlk rfl hw h dX12_readTask_187
    · rw [if_neg c19] at h
      refine lv_aload_n hx hb dX12_readTask_91 rfl (lv_at hl 0 rfl) ?_
      refine lv_iconst (v := 1) hx hb dX12_readTask_92 (by decide) ?_
      obtain ⟨r28, μ27, gr28, h⟩ := bd_some h
      refine g_callVI (As := [.int 1]) (rest := []) cx hw hA (t_X12_readPart l G ad (1 : Int32) μ gr28) shm_0 rfl ml_X12_496 im_X12_readPart se_X12_readPart in_X12 co_X12_readPart rfl hd_X12_readPart rfl ⟨(Nat.le_of_ble_eq_true rfl), (Nat.le_of_ble_eq_true rfl)⟩ hl.1 rfl (Nat.le_of_ble_eq_true rfl) dX12_readTask_93 ⟨rfl, rfl⟩ (fun H locs hw => ?_)
      refine lv_if_ne (tgt := 101) hx hb dX12_readTask_96 (by decide) (fun c29 => ?_) (fun c29 => ?_)
      · rw [if_neg c29] at h
        refine lv_aload_n hx hb dX12_readTask_101 rfl (lv_at hl 0 rfl) ?_
        refine lv_dup hx hb dX12_readTask_102 rfl ?_
        refine g_get cx hw inX12 (ci := 11) rfl 48 (by decide) rfl (v := .int (μ27.1 0 48)) shm_0 rfl fl_X12_490 dX12_readTask_103 ?_
        refine lv_iconst (v := 1) hx hb dX12_readTask_106 (by decide) ?_
        refine lv_iadd hx hb dX12_readTask_107 ?_
        refine g_put cx hw inX12 (ci := 11) rfl tyX12_ok nmX12 48 (by decide) rfl rfl rfl rfl shm_0 h fl_X12_490 dX12_readTask_108 (fun μ30 H locs h hw => ?_)
        refine lv_aload_n hx hb dX12_readTask_111 rfl (lv_at hl 0 rfl) ?_
        obtain ⟨r32, μ31, gr32, h⟩ := bd_some h
        refine g_callVI (As := []) (rest := []) cx hw hA (t_X12_here l G ad μ30 gr32) shm_0 rfl ml_X12_365 im_X12_here se_X12_here in_X12 co_X12_here rfl hd_X12_here rfl ⟨(Nat.le_of_ble_eq_true rfl), (Nat.le_of_ble_eq_true rfl)⟩ hl.1 rfl (Nat.le_of_ble_eq_true rfl) dX12_readTask_112 ⟨rfl, rfl⟩ (fun H locs hw => ?_)
        refine lv_bipush (v := 44) hx hb dX12_readTask_115 (by decide) ?_
        refine lv_icmp_ne (tgt := 132) hx hb dX12_readTask_117 (by decide) (fun c33 => ?_) (fun c33 => ?_)
        · rw [if_neg c33] at h
          exact t_X12_readTask_b132 l G ad av _ ih μ31 h p e s m below meth c A ls H locs cx hr hlk hA (lv_sub hl [0] rfl) hw
        · rw [if_pos c33] at h
          refine lv_aload_n hx hb dX12_readTask_120 rfl (lv_at hl 0 rfl) ?_
          refine g_get cx hw inX12 (ci := 11) rfl 48 (by decide) rfl (v := .int (μ31.1 0 48)) shm_0 rfl fl_X12_490 dX12_readTask_121 ?_
          refine lv_iconst (v := 5) hx hb dX12_readTask_124 (by decide) ?_
          refine lv_icmp_ge (tgt := 132) hx hb dX12_readTask_125 (by decide) (fun c36 => ?_) (fun c36 => ?_)
          · rw [if_pos c36] at h
            exact t_X12_readTask_b132 l G ad av _ ih μ31 h p e s m below meth c A ls H locs cx hr hlk hA (lv_sub hl [0] rfl) hw
          · rw [if_neg c36] at h
            refine lv_iconst (v := 1) hx hb dX12_readTask_128 (by decide) ?_
            refine lv_goto (tgt := 133) hx hb dX12_readTask_129 (by decide) ?_
            exact t_X12_readTask_b133 l G ad av _ ih (1 : Int32) μ31 h p e s m below meth c A ls H locs cx hr hlk hA (lv_sub hl [0] rfl) hw
      · rw [if_pos c29] at h
        refine lv_iconst (v := 0) hx hb dX12_readTask_99 (by decide) ?_
        exact g_zret cx hr hlk rfl hw h dX12_readTask_100
theorem p_X12_readTask_b86_ex : ∃ f : Int32 → Mem → Option (Int32 × Mem), ∀ (k0 : Int32) (μ : Mem), f k0 μ = p_X12_readTask_b87  FUEL k0 μ := ⟨fun (k0 : Int32) (μ : Mem) => p_X12_readTask_b87  FUEL k0 μ, fun _ _ => rfl⟩
noncomputable def p_X12_readTask_b86 : Int32 → Mem → Option (Int32 × Mem) := Classical.choose p_X12_readTask_b86_ex
theorem p_X12_readTask_b86_eq (k0 : Int32) (μ : Mem) : p_X12_readTask_b86 k0 μ = p_X12_readTask_b87  FUEL k0 μ := Classical.choose_spec p_X12_readTask_b86_ex k0 μ
set_option maxHeartbeats 4000000 in
set_option maxRecDepth 100000 in
theorem t_X12_readTask_b86 (l : Launch) (G : Gt) (ad : Nat → Nat) (av : List Value) {r : Int32} {μz : Mem} (k0 : Int32) (μ : Mem) (h : p_X12_readTask_b86  k0 μ = some (r, μz)) : Bk l cX12_readTask 2 RX12 (some .boolean) ({ frames := 5, cells := 0, slots := 0, locals := 113 } : Room) G av (eI 1 G ad r μz) (wd 1 G ad μ) 86 [(0, .ref (ad 0))] [.int k0] := by
  intro p e s m below meth c A ls H locs cx hr hlk hA hl hw
  have hx := cx.1
  have hb := cx.2.1
  rw [p_X12_readTask_b86_eq] at h
  refine lv_istore_n (lv' := [(1, .int k0), (0, .ref (ad 0))]) hx hb dX12_readTask_86 rfl hl (by decide) rfl (fun ls hl => ?_)
  exact t_X12_readTask_b87 l G ad av  FUEL k0 μ h p e s m below meth c A ls H locs cx hr hlk hA (lv_sub hl [1, 0] rfl) hw
theorem p_X12_readTask_ex : ∃ f : Mem → Option (Int32 × Mem), ∀  (μ : Mem), f  μ = bw (p_X12_beginText μ) (fun μ1 => bv (sF μ1 0 36 (0 : Int32)) (fun μ3 => bv (sF μ3 0 37 (0 : Int32)) (fun μ4 => bv (sF μ4 0 48 (0 : Int32)) (fun μ5 => bd (p_X12_here μ5) (fun r7 μ6 => (if (s_X12_isFunctionLetter r7) = (0 : Int32) then bd (p_X12_fails (μ6.1 0 4) μ6) (fun r38 μ37 => gd (isB r38) (some (r38, μ37))) else bd (p_X12_here μ6) (fun r10 μ9 => bv (sF μ9 0 49 ((r10 - (97 : Int32)) + (1 : Int32))) (fun μ11 => bv (sF μ11 0 4 ((μ11.1 0 4) + (1 : Int32))) (fun μ12 => bd (p_X12_takes (40 : Int32) μ12) (fun r14 μ13 => (if r14 = (0 : Int32) then some ((0 : Int32), μ13) else bd (p_X12_here μ13) (fun r17 μ16 => (if r17 = (41 : Int32) then p_X12_readTask_b86  (0 : Int32) μ16 else p_X12_readTask_b86  (1 : Int32) μ16))))))))))))) := ⟨fun  (μ : Mem) => bw (p_X12_beginText μ) (fun μ1 => bv (sF μ1 0 36 (0 : Int32)) (fun μ3 => bv (sF μ3 0 37 (0 : Int32)) (fun μ4 => bv (sF μ4 0 48 (0 : Int32)) (fun μ5 => bd (p_X12_here μ5) (fun r7 μ6 => (if (s_X12_isFunctionLetter r7) = (0 : Int32) then bd (p_X12_fails (μ6.1 0 4) μ6) (fun r38 μ37 => gd (isB r38) (some (r38, μ37))) else bd (p_X12_here μ6) (fun r10 μ9 => bv (sF μ9 0 49 ((r10 - (97 : Int32)) + (1 : Int32))) (fun μ11 => bv (sF μ11 0 4 ((μ11.1 0 4) + (1 : Int32))) (fun μ12 => bd (p_X12_takes (40 : Int32) μ12) (fun r14 μ13 => (if r14 = (0 : Int32) then some ((0 : Int32), μ13) else bd (p_X12_here μ13) (fun r17 μ16 => (if r17 = (41 : Int32) then p_X12_readTask_b86  (0 : Int32) μ16 else p_X12_readTask_b86  (1 : Int32) μ16))))))))))))), fun _ => rfl⟩
noncomputable def p_X12_readTask : Mem → Option (Int32 × Mem) := Classical.choose p_X12_readTask_ex
theorem p_X12_readTask_eq  (μ : Mem) : p_X12_readTask  μ = bw (p_X12_beginText μ) (fun μ1 => bv (sF μ1 0 36 (0 : Int32)) (fun μ3 => bv (sF μ3 0 37 (0 : Int32)) (fun μ4 => bv (sF μ4 0 48 (0 : Int32)) (fun μ5 => bd (p_X12_here μ5) (fun r7 μ6 => (if (s_X12_isFunctionLetter r7) = (0 : Int32) then bd (p_X12_fails (μ6.1 0 4) μ6) (fun r38 μ37 => gd (isB r38) (some (r38, μ37))) else bd (p_X12_here μ6) (fun r10 μ9 => bv (sF μ9 0 49 ((r10 - (97 : Int32)) + (1 : Int32))) (fun μ11 => bv (sF μ11 0 4 ((μ11.1 0 4) + (1 : Int32))) (fun μ12 => bd (p_X12_takes (40 : Int32) μ12) (fun r14 μ13 => (if r14 = (0 : Int32) then some ((0 : Int32), μ13) else bd (p_X12_here μ13) (fun r17 μ16 => (if r17 = (41 : Int32) then p_X12_readTask_b86  (0 : Int32) μ16 else p_X12_readTask_b86  (1 : Int32) μ16))))))))))))) := Classical.choose_spec p_X12_readTask_ex  μ
set_option maxHeartbeats 4000000 in
set_option maxRecDepth 100000 in
theorem t_X12_readTask (l : Launch) (G : Gt) (ad : Nat → Nat)  (μ : Mem) {r : Int32} {μz : Mem} (h : p_X12_readTask  μ = some (r, μz)) : Mt l yX12_readTask cX12_readTask 2 (some .boolean) ({ frames := 5, cells := 0, slots := 0, locals := 113 } : Room) G [.ref (ad 0)] (wd 1 G ad μ) (eI 1 G ad r μz) := by
  refine Bk.mt (by decide) rfl (Nat.le_of_ble_eq_true rfl) ?_
  intro p e s m below meth c A ls H locs cx hr hlk hA hl hw
  have hx := cx.1
  have hb := cx.2.1
  have hl : lv_has ls 2 [(0, .ref (ad 0))] := hl
  rw [p_X12_readTask_eq] at h
  refine lv_aload_n hx hb dX12_readTask_0 rfl (lv_at hl 0 rfl) ?_
  obtain ⟨μ1, gμ1, h⟩ := bw_some h
  refine g_callVV (As := []) (rest := []) cx hw hA (t_X12_beginText l G ad μ gμ1) shm_0 rfl ml_X12_452 im_X12_beginText se_X12_beginText in_X12 co_X12_beginText rfl hd_X12_beginText rfl ⟨(Nat.le_of_ble_eq_true rfl), (Nat.le_of_ble_eq_true rfl)⟩ hl.1 rfl (Nat.le_of_ble_eq_true rfl) dX12_readTask_1 ⟨rfl, rfl⟩ (fun H locs hw => ?_)
  refine lv_aload_n hx hb dX12_readTask_4 rfl (lv_at hl 0 rfl) ?_
  refine lv_iconst (v := 0) hx hb dX12_readTask_5 (by decide) ?_
  refine g_put cx hw inX12 (ci := 11) rfl tyX12_ok nmX12 36 (by decide) rfl rfl rfl rfl shm_0 h fl_X12_478 dX12_readTask_6 (fun μ3 H locs h hw => ?_)
  refine lv_aload_n hx hb dX12_readTask_9 rfl (lv_at hl 0 rfl) ?_
  refine lv_iconst (v := 0) hx hb dX12_readTask_10 (by decide) ?_
  refine g_put cx hw inX12 (ci := 11) rfl tyX12_ok nmX12 37 (by decide) rfl rfl rfl rfl shm_0 h fl_X12_481 dX12_readTask_11 (fun μ4 H locs h hw => ?_)
  refine lv_aload_n hx hb dX12_readTask_14 rfl (lv_at hl 0 rfl) ?_
  refine lv_iconst (v := 0) hx hb dX12_readTask_15 (by decide) ?_
  refine g_put cx hw inX12 (ci := 11) rfl tyX12_ok nmX12 48 (by decide) rfl rfl rfl rfl shm_0 h fl_X12_490 dX12_readTask_16 (fun μ5 H locs h hw => ?_)
  refine lv_aload_n hx hb dX12_readTask_19 rfl (lv_at hl 0 rfl) ?_
  obtain ⟨r7, μ6, gr7, h⟩ := bd_some h
  refine g_callVI (As := []) (rest := []) cx hw hA (t_X12_here l G ad μ5 gr7) shm_0 rfl ml_X12_365 im_X12_here se_X12_here in_X12 co_X12_here rfl hd_X12_here rfl ⟨(Nat.le_of_ble_eq_true rfl), (Nat.le_of_ble_eq_true rfl)⟩ hl.1 rfl (Nat.le_of_ble_eq_true rfl) dX12_readTask_20 ⟨rfl, rfl⟩ (fun H locs hw => ?_)
  refine s_callI (As := [.int r7]) (rest := []) cx hw hA (t_X12_isFunctionLetter l G r7) ml_X12_406 st_X12_isFunctionLetter in_X12 co_X12_isFunctionLetter hd_X12_isFunctionLetter rfl ⟨(Nat.le_of_ble_eq_true rfl), (Nat.le_of_ble_eq_true rfl)⟩ hl.1 rfl (Nat.le_of_ble_eq_true rfl) dX12_readTask_23 rfl (fun H locs hw => ?_)
  refine lv_if_ne (tgt := 38) hx hb dX12_readTask_26 (by decide) (fun c8 => ?_) (fun c8 => ?_)
  · rw [if_neg c8] at h
    refine lv_aload_n hx hb dX12_readTask_38 rfl (lv_at hl 0 rfl) ?_
    refine lv_aload_n hx hb dX12_readTask_39 rfl (lv_at hl 0 rfl) ?_
    obtain ⟨r10, μ9, gr10, h⟩ := bd_some h
    refine g_callVI (As := []) (rest := [.ref (ad 0)]) cx hw hA (t_X12_here l G ad μ6 gr10) shm_0 rfl ml_X12_365 im_X12_here se_X12_here in_X12 co_X12_here rfl hd_X12_here rfl ⟨(Nat.le_of_ble_eq_true rfl), (Nat.le_of_ble_eq_true rfl)⟩ hl.1 rfl (Nat.le_of_ble_eq_true rfl) dX12_readTask_40 ⟨rfl, rfl⟩ (fun H locs hw => ?_)
    refine lv_bipush (v := 97) hx hb dX12_readTask_43 (by decide) ?_
    refine lv_isub hx hb dX12_readTask_45 ?_
    refine lv_iconst (v := 1) hx hb dX12_readTask_46 (by decide) ?_
    refine lv_iadd hx hb dX12_readTask_47 ?_
    refine g_put cx hw inX12 (ci := 11) rfl tyX12_ok nmX12 49 (by decide) rfl rfl rfl rfl shm_0 h fl_X12_493 dX12_readTask_48 (fun μ11 H locs h hw => ?_)
    refine lv_aload_n hx hb dX12_readTask_51 rfl (lv_at hl 0 rfl) ?_
    refine lv_dup hx hb dX12_readTask_52 rfl ?_
    refine g_get cx hw inX12 (ci := 11) rfl 4 (by decide) rfl (v := .int (μ11.1 0 4)) shm_0 rfl fl_X12_362 dX12_readTask_53 ?_
    refine lv_iconst (v := 1) hx hb dX12_readTask_56 (by decide) ?_
    refine lv_iadd hx hb dX12_readTask_57 ?_
    refine g_put cx hw inX12 (ci := 11) rfl tyX12_ok nmX12 4 (by decide) rfl rfl rfl rfl shm_0 h fl_X12_362 dX12_readTask_58 (fun μ12 H locs h hw => ?_)
    refine lv_aload_n hx hb dX12_readTask_61 rfl (lv_at hl 0 rfl) ?_
    refine lv_bipush (v := 40) hx hb dX12_readTask_62 (by decide) ?_
    obtain ⟨r14, μ13, gr14, h⟩ := bd_some h
    refine g_callVI (As := [.int 40]) (rest := []) cx hw hA (t_X12_takes l G ad (40 : Int32) μ12 gr14) shm_0 rfl ml_X12_422 im_X12_takes se_X12_takes in_X12 co_X12_takes rfl hd_X12_takes rfl ⟨(Nat.le_of_ble_eq_true rfl), (Nat.le_of_ble_eq_true rfl)⟩ hl.1 rfl (Nat.le_of_ble_eq_true rfl) dX12_readTask_64 ⟨rfl, rfl⟩ (fun H locs hw => ?_)
    refine lv_if_ne (tgt := 72) hx hb dX12_readTask_67 (by decide) (fun c15 => ?_) (fun c15 => ?_)
    · rw [if_neg c15] at h
      refine lv_aload_n hx hb dX12_readTask_72 rfl (lv_at hl 0 rfl) ?_
      obtain ⟨r17, μ16, gr17, h⟩ := bd_some h
      refine g_callVI (As := []) (rest := []) cx hw hA (t_X12_here l G ad μ13 gr17) shm_0 rfl ml_X12_365 im_X12_here se_X12_here in_X12 co_X12_here rfl hd_X12_here rfl ⟨(Nat.le_of_ble_eq_true rfl), (Nat.le_of_ble_eq_true rfl)⟩ hl.1 rfl (Nat.le_of_ble_eq_true rfl) dX12_readTask_73 ⟨rfl, rfl⟩ (fun H locs hw => ?_)
      refine lv_bipush (v := 41) hx hb dX12_readTask_76 (by decide) ?_
      refine lv_icmp_eq (tgt := 85) hx hb dX12_readTask_78 (by decide) (fun c18 => ?_) (fun c18 => ?_)
      · rw [if_pos c18] at h
        refine lv_iconst (v := 0) hx hb dX12_readTask_85 (by decide) ?_
        exact t_X12_readTask_b86 l G ad _  (0 : Int32) μ16 h p e s m below meth c A ls H locs cx hr hlk hA (lv_sub hl [0] rfl) hw
      · rw [if_neg c18] at h
        refine lv_iconst (v := 1) hx hb dX12_readTask_81 (by decide) ?_
        refine lv_goto (tgt := 86) hx hb dX12_readTask_82 (by decide) ?_
        exact t_X12_readTask_b86 l G ad _  (1 : Int32) μ16 h p e s m below meth c A ls H locs cx hr hlk hA (lv_sub hl [0] rfl) hw
    · rw [if_pos c15] at h
      refine lv_iconst (v := 0) hx hb dX12_readTask_70 (by decide) ?_
      exact g_zret cx hr hlk rfl hw h dX12_readTask_71
  · rw [if_pos c8] at h
    refine lv_aload_n hx hb dX12_readTask_29 rfl (lv_at hl 0 rfl) ?_
    refine lv_aload_n hx hb dX12_readTask_30 rfl (lv_at hl 0 rfl) ?_
    refine g_get cx hw inX12 (ci := 11) rfl 4 (by decide) rfl (v := .int (μ6.1 0 4)) shm_0 rfl fl_X12_362 dX12_readTask_31 ?_
    obtain ⟨r38, μ37, gr38, h⟩ := bd_some h
    refine g_callVI (As := [.int (μ6.1 0 4)]) (rest := []) cx hw hA (t_X12_fails l G ad (μ6.1 0 4) μ6 gr38) shm_0 rfl ml_X12_369 im_X12_fails se_X12_fails in_X12 co_X12_fails rfl hd_X12_fails rfl ⟨(Nat.le_of_ble_eq_true rfl), (Nat.le_of_ble_eq_true rfl)⟩ hl.1 rfl (Nat.le_of_ble_eq_true rfl) dX12_readTask_34 ⟨rfl, rfl⟩ (fun H locs hw => ?_)
    obtain ⟨c39, h⟩ := gd_some h
    exact g_zret cx hr hlk (isB_n c39) hw h dX12_readTask_37

theorem p_X12_task_ex : ∃ f : Mem → Option (Int32 × Mem), ∀  (μ : Mem), f  μ = bd (p_X12_readTask μ) (fun r2 μ1 => bv (sF μ1 0 3 (0 : Int32)) (fun μ3 => (if r2 = (0 : Int32) then some ((-1 : Int32), μ3) else bv (sF μ3 0 95 (0 : Int32)) (fun μ5 => bv (sF μ5 0 42 (μ5.1 0 49)) (fun μ6 => bv (sF μ6 0 43 (μ6.1 0 48)) (fun μ7 => bv (sF μ7 0 44 (μ7.1 0 36)) (fun μ8 => bw (p_X12_copy 22 (0 : Int32) (μ8.1 0 36) 25 (0 : Int32) μ8) (fun μ9 => bw (p_X12_copy 23 (0 : Int32) (μ9.1 0 36) 26 (0 : Int32) μ9) (fun μ11 => bv (sF μ11 0 45 (μ11.1 0 37)) (fun μ13 => bv (sF μ13 0 47 (0 : Int32)) (fun μ14 => bv (sF μ14 0 46 (0 : Int32)) (fun μ15 => some ((μ15.1 0 45), μ15))))))))))))) := ⟨fun  (μ : Mem) => bd (p_X12_readTask μ) (fun r2 μ1 => bv (sF μ1 0 3 (0 : Int32)) (fun μ3 => (if r2 = (0 : Int32) then some ((-1 : Int32), μ3) else bv (sF μ3 0 95 (0 : Int32)) (fun μ5 => bv (sF μ5 0 42 (μ5.1 0 49)) (fun μ6 => bv (sF μ6 0 43 (μ6.1 0 48)) (fun μ7 => bv (sF μ7 0 44 (μ7.1 0 36)) (fun μ8 => bw (p_X12_copy 22 (0 : Int32) (μ8.1 0 36) 25 (0 : Int32) μ8) (fun μ9 => bw (p_X12_copy 23 (0 : Int32) (μ9.1 0 36) 26 (0 : Int32) μ9) (fun μ11 => bv (sF μ11 0 45 (μ11.1 0 37)) (fun μ13 => bv (sF μ13 0 47 (0 : Int32)) (fun μ14 => bv (sF μ14 0 46 (0 : Int32)) (fun μ15 => some ((μ15.1 0 45), μ15))))))))))))), fun _ => rfl⟩
noncomputable def p_X12_task : Mem → Option (Int32 × Mem) := Classical.choose p_X12_task_ex
theorem p_X12_task_eq  (μ : Mem) : p_X12_task  μ = bd (p_X12_readTask μ) (fun r2 μ1 => bv (sF μ1 0 3 (0 : Int32)) (fun μ3 => (if r2 = (0 : Int32) then some ((-1 : Int32), μ3) else bv (sF μ3 0 95 (0 : Int32)) (fun μ5 => bv (sF μ5 0 42 (μ5.1 0 49)) (fun μ6 => bv (sF μ6 0 43 (μ6.1 0 48)) (fun μ7 => bv (sF μ7 0 44 (μ7.1 0 36)) (fun μ8 => bw (p_X12_copy 22 (0 : Int32) (μ8.1 0 36) 25 (0 : Int32) μ8) (fun μ9 => bw (p_X12_copy 23 (0 : Int32) (μ9.1 0 36) 26 (0 : Int32) μ9) (fun μ11 => bv (sF μ11 0 45 (μ11.1 0 37)) (fun μ13 => bv (sF μ13 0 47 (0 : Int32)) (fun μ14 => bv (sF μ14 0 46 (0 : Int32)) (fun μ15 => some ((μ15.1 0 45), μ15))))))))))))) := Classical.choose_spec p_X12_task_ex  μ
set_option maxHeartbeats 4000000 in
set_option maxRecDepth 100000 in
theorem t_X12_task (l : Launch) (G : Gt) (ad : Nat → Nat)  (μ : Mem) {r : Int32} {μz : Mem} (h : p_X12_task  μ = some (r, μz)) : Mt l yX12_task cX12_task 2 (some .int) ({ frames := 6, cells := 0, slots := 0, locals := 134 } : Room) G [.ref (ad 0)] (wd 1 G ad μ) (eI 1 G ad r μz) := by
  refine Bk.mt (by decide) rfl (Nat.le_of_ble_eq_true rfl) ?_
  intro p e s m below meth c A ls H locs cx hr hlk hA hl hw
  have hx := cx.1
  have hb := cx.2.1
  have hl : lv_has ls 2 [(0, .ref (ad 0))] := hl
  rw [p_X12_task_eq] at h
  refine lv_aload_n hx hb dX12_task_0 rfl (lv_at hl 0 rfl) ?_
  obtain ⟨r2, μ1, gr2, h⟩ := bd_some h
  refine g_callVI (As := []) (rest := []) cx hw hA (t_X12_readTask l G ad μ gr2) shm_0 rfl ml_X12_500 im_X12_readTask se_X12_readTask in_X12 co_X12_readTask rfl hd_X12_readTask rfl ⟨(Nat.le_of_ble_eq_true rfl), (Nat.le_of_ble_eq_true rfl)⟩ hl.1 rfl (Nat.le_of_ble_eq_true rfl) dX12_task_1 ⟨rfl, rfl⟩ (fun H locs hw => ?_)
  refine lv_istore_n (lv' := [(1, .int r2), (0, .ref (ad 0))]) hx hb dX12_task_4 rfl hl (by decide) rfl (fun ls hl => ?_)
  refine lv_aload_n hx hb dX12_task_5 rfl (lv_at hl 1 rfl) ?_
  refine lv_iconst (v := 0) hx hb dX12_task_6 (by decide) ?_
  refine g_put cx hw inX12 (ci := 11) rfl tyX12_ok nmX12 3 (by decide) rfl rfl rfl rfl shm_0 h fl_X12_352 dX12_task_7 (fun μ3 H locs h hw => ?_)
  refine lv_iload_n hx hb dX12_task_10 rfl (lv_at hl 0 rfl) ?_
  refine lv_if_ne (tgt := 16) hx hb dX12_task_11 (by decide) (fun c4 => ?_) (fun c4 => ?_)
  · rw [if_neg c4] at h
    refine lv_aload_n hx hb dX12_task_16 rfl (lv_at hl 1 rfl) ?_
    refine lv_iconst (v := 0) hx hb dX12_task_17 (by decide) ?_
    refine g_put cx hw inX12 (ci := 11) rfl tyX12_ok nmX12 95 (by decide) rfl rfl rfl rfl shm_0 h fl_X12_464 dX12_task_18 (fun μ5 H locs h hw => ?_)
    refine lv_aload_n hx hb dX12_task_21 rfl (lv_at hl 1 rfl) ?_
    refine lv_aload_n hx hb dX12_task_22 rfl (lv_at hl 1 rfl) ?_
    refine g_get cx hw inX12 (ci := 11) rfl 49 (by decide) rfl (v := .int (μ5.1 0 49)) shm_0 rfl fl_X12_493 dX12_task_23 ?_
    refine g_put cx hw inX12 (ci := 11) rfl tyX12_ok nmX12 42 (by decide) rfl rfl rfl rfl shm_0 h fl_X12_99 dX12_task_26 (fun μ6 H locs h hw => ?_)
    refine lv_aload_n hx hb dX12_task_29 rfl (lv_at hl 1 rfl) ?_
    refine lv_aload_n hx hb dX12_task_30 rfl (lv_at hl 1 rfl) ?_
    refine g_get cx hw inX12 (ci := 11) rfl 48 (by decide) rfl (v := .int (μ6.1 0 48)) shm_0 rfl fl_X12_490 dX12_task_31 ?_
    refine g_put cx hw inX12 (ci := 11) rfl tyX12_ok nmX12 43 (by decide) rfl rfl rfl rfl shm_0 h fl_X12_503 dX12_task_34 (fun μ7 H locs h hw => ?_)
    refine lv_aload_n hx hb dX12_task_37 rfl (lv_at hl 1 rfl) ?_
    refine lv_aload_n hx hb dX12_task_38 rfl (lv_at hl 1 rfl) ?_
    refine g_get cx hw inX12 (ci := 11) rfl 36 (by decide) rfl (v := .int (μ7.1 0 36)) shm_0 rfl fl_X12_478 dX12_task_39 ?_
    refine g_put cx hw inX12 (ci := 11) rfl tyX12_ok nmX12 44 (by decide) rfl rfl rfl rfl shm_0 h fl_X12_506 dX12_task_42 (fun μ8 H locs h hw => ?_)
    refine lv_aload_n hx hb dX12_task_45 rfl (lv_at hl 1 rfl) ?_
    refine g_get cx hw inX12 (ci := 11) rfl 33 (by decide) rfl (v := .ref (ad 22)) shm_0 rfl fl_X12_78 dX12_task_46 ?_
    refine lv_iconst (v := 0) hx hb dX12_task_49 (by decide) ?_
    refine lv_aload_n hx hb dX12_task_50 rfl (lv_at hl 1 rfl) ?_
    refine g_get cx hw inX12 (ci := 11) rfl 36 (by decide) rfl (v := .int (μ8.1 0 36)) shm_0 rfl fl_X12_478 dX12_task_51 ?_
    refine lv_aload_n hx hb dX12_task_54 rfl (lv_at hl 1 rfl) ?_
    refine g_get cx hw inX12 (ci := 11) rfl 38 (by decide) rfl (v := .ref (ad 25)) shm_0 rfl fl_X12_87 dX12_task_55 ?_
    refine lv_iconst (v := 0) hx hb dX12_task_58 (by decide) ?_
    obtain ⟨μ9, gμ9, h⟩ := bw_some h
    refine g_callSV (As := [.ref (ad 22), .int 0, .int (μ8.1 0 36), .ref (ad 25), .int 0]) (rest := []) cx hw hA (t_X12_copy l G ad 22 (sh_f shm_22) (0 : Int32) (μ8.1 0 36) 25 (sh_f shm_25) (0 : Int32) μ8 gμ9) ml_X12_471 st_X12_copy in_X12 co_X12_copy hd_X12_copy rfl ⟨(Nat.le_of_ble_eq_true rfl), (Nat.le_of_ble_eq_true rfl)⟩ hl.1 rfl (Nat.le_of_ble_eq_true rfl) dX12_task_59 ⟨rfl, rfl⟩ (fun H locs hw => ?_)
    refine lv_aload_n hx hb dX12_task_62 rfl (lv_at hl 1 rfl) ?_
    refine g_get cx hw inX12 (ci := 11) rfl 34 (by decide) rfl (v := .ref (ad 23)) shm_0 rfl fl_X12_81 dX12_task_63 ?_
    refine lv_iconst (v := 0) hx hb dX12_task_66 (by decide) ?_
    refine lv_aload_n hx hb dX12_task_67 rfl (lv_at hl 1 rfl) ?_
    refine g_get cx hw inX12 (ci := 11) rfl 36 (by decide) rfl (v := .int (μ9.1 0 36)) shm_0 rfl fl_X12_478 dX12_task_68 ?_
    refine lv_aload_n hx hb dX12_task_71 rfl (lv_at hl 1 rfl) ?_
    refine g_get cx hw inX12 (ci := 11) rfl 39 (by decide) rfl (v := .ref (ad 26)) shm_0 rfl fl_X12_90 dX12_task_72 ?_
    refine lv_iconst (v := 0) hx hb dX12_task_75 (by decide) ?_
    obtain ⟨μ11, gμ11, h⟩ := bw_some h
    refine g_callSV (As := [.ref (ad 23), .int 0, .int (μ9.1 0 36), .ref (ad 26), .int 0]) (rest := []) cx hw hA (t_X12_copy l G ad 23 (sh_f shm_23) (0 : Int32) (μ9.1 0 36) 26 (sh_f shm_26) (0 : Int32) μ9 gμ11) ml_X12_471 st_X12_copy in_X12 co_X12_copy hd_X12_copy rfl ⟨(Nat.le_of_ble_eq_true rfl), (Nat.le_of_ble_eq_true rfl)⟩ hl.1 rfl (Nat.le_of_ble_eq_true rfl) dX12_task_76 ⟨rfl, rfl⟩ (fun H locs hw => ?_)
    refine lv_aload_n hx hb dX12_task_79 rfl (lv_at hl 1 rfl) ?_
    refine lv_aload_n hx hb dX12_task_80 rfl (lv_at hl 1 rfl) ?_
    refine g_get cx hw inX12 (ci := 11) rfl 37 (by decide) rfl (v := .int (μ11.1 0 37)) shm_0 rfl fl_X12_481 dX12_task_81 ?_
    refine g_put cx hw inX12 (ci := 11) rfl tyX12_ok nmX12 45 (by decide) rfl rfl rfl rfl shm_0 h fl_X12_509 dX12_task_84 (fun μ13 H locs h hw => ?_)
    refine lv_aload_n hx hb dX12_task_87 rfl (lv_at hl 1 rfl) ?_
    refine lv_iconst (v := 0) hx hb dX12_task_88 (by decide) ?_
    refine g_put cx hw inX12 (ci := 11) rfl tyX12_ok nmX12 47 (by decide) rfl rfl rfl rfl shm_0 h fl_X12_512 dX12_task_89 (fun μ14 H locs h hw => ?_)
    refine lv_aload_n hx hb dX12_task_92 rfl (lv_at hl 1 rfl) ?_
    refine lv_iconst (v := 0) hx hb dX12_task_93 (by decide) ?_
    refine g_put cx hw inX12 (ci := 11) rfl tyX12_ok nmX12 46 (by decide) rfl rfl rfl rfl shm_0 h fl_X12_515 dX12_task_94 (fun μ15 H locs h hw => ?_)
    refine lv_aload_n hx hb dX12_task_97 rfl (lv_at hl 1 rfl) ?_
    refine g_get cx hw inX12 (ci := 11) rfl 45 (by decide) rfl (v := .int (μ15.1 0 45)) shm_0 rfl fl_X12_509 dX12_task_98 ?_
    exact g_iret cx hr hlk hw h dX12_task_101
  · rw [if_pos c4] at h
    refine lv_iconst (v := (-1)) hx hb dX12_task_14 (by decide) ?_
    exact g_iret cx hr hlk hw h dX12_task_15

theorem p_X12_readValues_b37_ex : ∃ f : (Int32 → Mem → Option (Int32 × Mem)) → Int32 → Mem → Option (Int32 × Mem), ∀ (K16 : Int32 → Mem → Option (Int32 × Mem)) (a1 : Int32) (μ : Mem), f K16 a1 μ = bd (p_X12_readPart (0 : Int32) μ) (fun r12 μ11 => (if r12 = (0 : Int32) then some ((0 : Int32), μ11) else bv (a1 + 1) (fun v14 => K16 v14 μ11))) := ⟨fun (K16 : Int32 → Mem → Option (Int32 × Mem)) (a1 : Int32) (μ : Mem) => bd (p_X12_readPart (0 : Int32) μ) (fun r12 μ11 => (if r12 = (0 : Int32) then some ((0 : Int32), μ11) else bv (a1 + 1) (fun v14 => K16 v14 μ11))), fun _ _ _ => rfl⟩
noncomputable def p_X12_readValues_b37 : (Int32 → Mem → Option (Int32 × Mem)) → Int32 → Mem → Option (Int32 × Mem) := Classical.choose p_X12_readValues_b37_ex
theorem p_X12_readValues_b37_eq (K16 : Int32 → Mem → Option (Int32 × Mem)) (a1 : Int32) (μ : Mem) : p_X12_readValues_b37 K16 a1 μ = bd (p_X12_readPart (0 : Int32) μ) (fun r12 μ11 => (if r12 = (0 : Int32) then some ((0 : Int32), μ11) else bv (a1 + 1) (fun v14 => K16 v14 μ11))) := Classical.choose_spec p_X12_readValues_b37_ex K16 a1 μ
set_option maxHeartbeats 4000000 in
set_option maxRecDepth 100000 in
theorem t_X12_readValues_b37 (l : Launch) (G : Gt) (ad : Nat → Nat) (av : List Value) {r : Int32} {μz : Mem} (K16 : Int32 → Mem → Option (Int32 × Mem)) (hK16 : ∀ (z1 : Int32) (μ1 : Mem), K16 z1 μ1 = some (r, μz) → Bk l cX12_readValues 2 RX12 (some .boolean) ({ frames := 5, cells := 0, slots := 0, locals := 113 } : Room) G av (eI 1 G ad r μz) (wd 1 G ad μ1) 16 [(0, .ref (ad 0)), (1, .int z1)] []) (a1 : Int32) (μ : Mem) (h : p_X12_readValues_b37 K16 a1 μ = some (r, μz)) : Bk l cX12_readValues 2 RX12 (some .boolean) ({ frames := 5, cells := 0, slots := 0, locals := 113 } : Room) G av (eI 1 G ad r μz) (wd 1 G ad μ) 37 [(0, .ref (ad 0)), (1, .int a1)] [] := by
  intro p e s m below meth c A ls H locs cx hr hlk hA hl hw
  have hx := cx.1
  have hb := cx.2.1
  rw [p_X12_readValues_b37_eq] at h
  refine lv_aload_n hx hb dX12_readValues_37 rfl (lv_at hl 0 rfl) ?_
  refine lv_iconst (v := 0) hx hb dX12_readValues_38 (by decide) ?_
  obtain ⟨r12, μ11, gr12, h⟩ := bd_some h
  refine g_callVI (As := [.int 0]) (rest := []) cx hw hA (t_X12_readPart l G ad (0 : Int32) μ gr12) shm_0 rfl ml_X12_496 im_X12_readPart se_X12_readPart in_X12 co_X12_readPart rfl hd_X12_readPart rfl ⟨(Nat.le_of_ble_eq_true rfl), (Nat.le_of_ble_eq_true rfl)⟩ hl.1 rfl (Nat.le_of_ble_eq_true rfl) dX12_readValues_39 ⟨rfl, rfl⟩ (fun H locs hw => ?_)
  refine lv_if_ne (tgt := 47) hx hb dX12_readValues_42 (by decide) (fun c13 => ?_) (fun c13 => ?_)
  · rw [if_neg c13] at h
    obtain ⟨v14, ev14, h⟩ := bv_ex h
    refine lv_iinc (v := v14) (lv' := [(1, .int v14), (0, .ref (ad 0))]) hx hb dX12_readValues_47 hl (k := 1) rfl (by rw [ev14]; rfl) (by decide) rfl (fun ls hl => ?_)
    refine lv_goto (tgt := 16) hx hb dX12_readValues_50 (by decide) ?_
    exact hK16 v14 μ11 h p e s m below meth c A ls H locs cx hr hlk hA (lv_sub hl [1, 0] rfl) hw
  · rw [if_pos c13] at h
    refine lv_iconst (v := 0) hx hb dX12_readValues_45 (by decide) ?_
    exact g_zret cx hr hlk rfl hw h dX12_readValues_46
theorem p_X12_readValues_b16_ex : ∃ f : Nat → Int32 → Mem → Option (Int32 × Mem), (∀ (a1 : Int32) (μ : Mem), f  0 a1 μ = none) ∧ (∀ (n : Nat) (a1 : Int32) (μ : Mem), f  (n + 1) a1 μ = (if (μ.1 0 45) ≤ a1 then (if (μ.1 0 4) = (μ.1 0 3) then some ((1 : Int32), μ) else bd (p_X12_fails (μ.1 0 4) μ) (fun r8 μ7 => (if r8 = (0 : Int32) then some ((0 : Int32), μ7) else some ((1 : Int32), μ7)))) else (if a1 ≤ (0 : Int32) then p_X12_readValues_b37 (f n) a1 μ else bd (p_X12_takes (44 : Int32) μ) (fun r16 μ15 => (if r16 = (0 : Int32) then some ((0 : Int32), μ15) else p_X12_readValues_b37 (f n) a1 μ15))))) := ⟨fun n => Nat.rec (fun (a1 : Int32) (μ : Mem) => none) (fun _ ih => fun (a1 : Int32) (μ : Mem) => (if (μ.1 0 45) ≤ a1 then (if (μ.1 0 4) = (μ.1 0 3) then some ((1 : Int32), μ) else bd (p_X12_fails (μ.1 0 4) μ) (fun r8 μ7 => (if r8 = (0 : Int32) then some ((0 : Int32), μ7) else some ((1 : Int32), μ7)))) else (if a1 ≤ (0 : Int32) then p_X12_readValues_b37 (ih) a1 μ else bd (p_X12_takes (44 : Int32) μ) (fun r16 μ15 => (if r16 = (0 : Int32) then some ((0 : Int32), μ15) else p_X12_readValues_b37 (ih) a1 μ15))))) n, fun  _ _ => rfl, fun  _ _ _ => rfl⟩
noncomputable def p_X12_readValues_b16 : Nat → Int32 → Mem → Option (Int32 × Mem) := Classical.choose p_X12_readValues_b16_ex
theorem p_X12_readValues_b16_z (a1 : Int32) (μ : Mem) : p_X12_readValues_b16  0 a1 μ = none := (Classical.choose_spec p_X12_readValues_b16_ex).1  a1 μ
theorem p_X12_readValues_b16_s (n : Nat) (a1 : Int32) (μ : Mem) : p_X12_readValues_b16  (n + 1) a1 μ = (if (μ.1 0 45) ≤ a1 then (if (μ.1 0 4) = (μ.1 0 3) then some ((1 : Int32), μ) else bd (p_X12_fails (μ.1 0 4) μ) (fun r8 μ7 => (if r8 = (0 : Int32) then some ((0 : Int32), μ7) else some ((1 : Int32), μ7)))) else (if a1 ≤ (0 : Int32) then p_X12_readValues_b37 (p_X12_readValues_b16  n) a1 μ else bd (p_X12_takes (44 : Int32) μ) (fun r16 μ15 => (if r16 = (0 : Int32) then some ((0 : Int32), μ15) else p_X12_readValues_b37 (p_X12_readValues_b16  n) a1 μ15)))) := (Classical.choose_spec p_X12_readValues_b16_ex).2  n a1 μ
set_option maxHeartbeats 4000000 in
set_option maxRecDepth 100000 in
theorem t_X12_readValues_b16 (l : Launch) (G : Gt) (ad : Nat → Nat) (av : List Value) {r : Int32} {μz : Mem} : ∀ (n : Nat) (a1 : Int32) (μ : Mem), p_X12_readValues_b16  n a1 μ = some (r, μz) → Bk l cX12_readValues 2 RX12 (some .boolean) ({ frames := 5, cells := 0, slots := 0, locals := 113 } : Room) G av (eI 1 G ad r μz) (wd 1 G ad μ) 16 [(0, .ref (ad 0)), (1, .int a1)] [] := by
  intro n
  induction n with
  | zero => intro a1 μ h; rw [p_X12_readValues_b16_z] at h; cases h
  | succ n ih =>
    intro a1 μ h p e s m below meth c A ls H locs cx hr hlk hA hl hw
    have hx := cx.1
    have hb := cx.2.1
    rw [p_X12_readValues_b16_s] at h
    refine lv_iload_n hx hb dX12_readValues_16 rfl (lv_at hl 1 rfl) ?_
    refine lv_aload_n hx hb dX12_readValues_17 rfl (lv_at hl 0 rfl) ?_
    refine g_get cx hw inX12 (ci := 11) rfl 45 (by decide) rfl (v := .int (μ.1 0 45)) shm_0 rfl fl_X12_509 dX12_readValues_18 ?_
    refine lv_icmp_ge (tgt := 53) hx hb dX12_readValues_21 (by decide) (fun c5 => ?_) (fun c5 => ?_)
    · rw [if_pos c5] at h
      refine lv_aload_n hx hb dX12_readValues_53 rfl (lv_at hl 0 rfl) ?_
      refine g_get cx hw inX12 (ci := 11) rfl 4 (by decide) rfl (v := .int (μ.1 0 4)) shm_0 rfl fl_X12_362 dX12_readValues_54 ?_
      refine lv_aload_n hx hb dX12_readValues_57 rfl (lv_at hl 0 rfl) ?_
      refine g_get cx hw inX12 (ci := 11) rfl 3 (by decide) rfl (v := .int (μ.1 0 3)) shm_0 rfl fl_X12_352 dX12_readValues_58 ?_
      refine lv_icmp_eq (tgt := 75) hx hb dX12_readValues_61 (by decide) (fun c6 => ?_) (fun c6 => ?_)
      · rw [if_pos c6] at h
        refine lv_iconst (v := 1) hx hb dX12_readValues_75 (by decide) ?_
        refine lv_goto (tgt := 80) hx hb dX12_readValues_76 (by decide) ?_
        exact g_zret cx hr hlk rfl hw h dX12_readValues_80
      · rw [if_neg c6] at h
        refine lv_aload_n hx hb dX12_readValues_64 rfl (lv_at hl 0 rfl) ?_
        refine lv_aload_n hx hb dX12_readValues_65 rfl (lv_at hl 0 rfl) ?_
        refine g_get cx hw inX12 (ci := 11) rfl 4 (by decide) rfl (v := .int (μ.1 0 4)) shm_0 rfl fl_X12_362 dX12_readValues_66 ?_
        obtain ⟨r8, μ7, gr8, h⟩ := bd_some h
        refine g_callVI (As := [.int (μ.1 0 4)]) (rest := []) cx hw hA (t_X12_fails l G ad (μ.1 0 4) μ gr8) shm_0 rfl ml_X12_369 im_X12_fails se_X12_fails in_X12 co_X12_fails rfl hd_X12_fails rfl ⟨(Nat.le_of_ble_eq_true rfl), (Nat.le_of_ble_eq_true rfl)⟩ hl.1 rfl (Nat.le_of_ble_eq_true rfl) dX12_readValues_69 ⟨rfl, rfl⟩ (fun H locs hw => ?_)
        refine lv_if_eq (tgt := 79) hx hb dX12_readValues_72 (by decide) (fun c9 => ?_) (fun c9 => ?_)
        · rw [if_pos c9] at h
          refine lv_iconst (v := 0) hx hb dX12_readValues_79 (by decide) ?_
          exact g_zret cx hr hlk rfl hw h dX12_readValues_80
        · rw [if_neg c9] at h
          refine lv_iconst (v := 1) hx hb dX12_readValues_75 (by decide) ?_
          refine lv_goto (tgt := 80) hx hb dX12_readValues_76 (by decide) ?_
          exact g_zret cx hr hlk rfl hw h dX12_readValues_80
    · rw [if_neg c5] at h
      refine lv_iload_n hx hb dX12_readValues_24 rfl (lv_at hl 1 rfl) ?_
      refine lv_if_le (tgt := 37) hx hb dX12_readValues_25 (by decide) (fun c10 => ?_) (fun c10 => ?_)
      · rw [if_pos c10] at h
        exact t_X12_readValues_b37 l G ad av _ ih a1 μ h p e s m below meth c A ls H locs cx hr hlk hA (lv_sub hl [0, 1] rfl) hw
      · rw [if_neg c10] at h
        refine lv_aload_n hx hb dX12_readValues_28 rfl (lv_at hl 0 rfl) ?_
        refine lv_bipush (v := 44) hx hb dX12_readValues_29 (by decide) ?_
        obtain ⟨r16, μ15, gr16, h⟩ := bd_some h
        refine g_callVI (As := [.int 44]) (rest := []) cx hw hA (t_X12_takes l G ad (44 : Int32) μ gr16) shm_0 rfl ml_X12_422 im_X12_takes se_X12_takes in_X12 co_X12_takes rfl hd_X12_takes rfl ⟨(Nat.le_of_ble_eq_true rfl), (Nat.le_of_ble_eq_true rfl)⟩ hl.1 rfl (Nat.le_of_ble_eq_true rfl) dX12_readValues_31 ⟨rfl, rfl⟩ (fun H locs hw => ?_)
        refine lv_if_eq (tgt := 45) hx hb dX12_readValues_34 (by decide) (fun c17 => ?_) (fun c17 => ?_)
        · rw [if_pos c17] at h
          refine lv_iconst (v := 0) hx hb dX12_readValues_45 (by decide) ?_
          exact g_zret cx hr hlk rfl hw h dX12_readValues_46
        · rw [if_neg c17] at h
          exact t_X12_readValues_b37 l G ad av _ ih a1 μ15 h p e s m below meth c A ls H locs cx hr hlk hA (lv_sub hl [0, 1] rfl) hw
theorem p_X12_readValues_ex : ∃ f : Mem → Option (Int32 × Mem), ∀  (μ : Mem), f  μ = bw (p_X12_beginText μ) (fun μ1 => bv (sF μ1 0 36 (0 : Int32)) (fun μ3 => bv (sF μ3 0 37 (0 : Int32)) (fun μ4 => p_X12_readValues_b16  FUEL (0 : Int32) μ4))) := ⟨fun  (μ : Mem) => bw (p_X12_beginText μ) (fun μ1 => bv (sF μ1 0 36 (0 : Int32)) (fun μ3 => bv (sF μ3 0 37 (0 : Int32)) (fun μ4 => p_X12_readValues_b16  FUEL (0 : Int32) μ4))), fun _ => rfl⟩
noncomputable def p_X12_readValues : Mem → Option (Int32 × Mem) := Classical.choose p_X12_readValues_ex
theorem p_X12_readValues_eq  (μ : Mem) : p_X12_readValues  μ = bw (p_X12_beginText μ) (fun μ1 => bv (sF μ1 0 36 (0 : Int32)) (fun μ3 => bv (sF μ3 0 37 (0 : Int32)) (fun μ4 => p_X12_readValues_b16  FUEL (0 : Int32) μ4))) := Classical.choose_spec p_X12_readValues_ex  μ
set_option maxHeartbeats 4000000 in
set_option maxRecDepth 100000 in
theorem t_X12_readValues (l : Launch) (G : Gt) (ad : Nat → Nat)  (μ : Mem) {r : Int32} {μz : Mem} (h : p_X12_readValues  μ = some (r, μz)) : Mt l yX12_readValues cX12_readValues 2 (some .boolean) ({ frames := 5, cells := 0, slots := 0, locals := 113 } : Room) G [.ref (ad 0)] (wd 1 G ad μ) (eI 1 G ad r μz) := by
  refine Bk.mt (by decide) rfl (Nat.le_of_ble_eq_true rfl) ?_
  intro p e s m below meth c A ls H locs cx hr hlk hA hl hw
  have hx := cx.1
  have hb := cx.2.1
  have hl : lv_has ls 2 [(0, .ref (ad 0))] := hl
  rw [p_X12_readValues_eq] at h
  refine lv_aload_n hx hb dX12_readValues_0 rfl (lv_at hl 0 rfl) ?_
  obtain ⟨μ1, gμ1, h⟩ := bw_some h
  refine g_callVV (As := []) (rest := []) cx hw hA (t_X12_beginText l G ad μ gμ1) shm_0 rfl ml_X12_452 im_X12_beginText se_X12_beginText in_X12 co_X12_beginText rfl hd_X12_beginText rfl ⟨(Nat.le_of_ble_eq_true rfl), (Nat.le_of_ble_eq_true rfl)⟩ hl.1 rfl (Nat.le_of_ble_eq_true rfl) dX12_readValues_1 ⟨rfl, rfl⟩ (fun H locs hw => ?_)
  refine lv_aload_n hx hb dX12_readValues_4 rfl (lv_at hl 0 rfl) ?_
  refine lv_iconst (v := 0) hx hb dX12_readValues_5 (by decide) ?_
  refine g_put cx hw inX12 (ci := 11) rfl tyX12_ok nmX12 36 (by decide) rfl rfl rfl rfl shm_0 h fl_X12_478 dX12_readValues_6 (fun μ3 H locs h hw => ?_)
  refine lv_aload_n hx hb dX12_readValues_9 rfl (lv_at hl 0 rfl) ?_
  refine lv_iconst (v := 0) hx hb dX12_readValues_10 (by decide) ?_
  refine g_put cx hw inX12 (ci := 11) rfl tyX12_ok nmX12 37 (by decide) rfl rfl rfl rfl shm_0 h fl_X12_481 dX12_readValues_11 (fun μ4 H locs h hw => ?_)
  refine lv_iconst (v := 0) hx hb dX12_readValues_14 (by decide) ?_
  refine lv_istore_n (lv' := [(1, .int 0), (0, .ref (ad 0))]) hx hb dX12_readValues_15 rfl hl (by decide) rfl (fun ls hl => ?_)
  exact t_X12_readValues_b16 l G ad _  FUEL (0 : Int32) μ4 h p e s m below meth c A ls H locs cx hr hlk hA (lv_sub hl [1, 0] rfl) hw

theorem p_X12_values_ex : ∃ f : Mem → Option (Int32 × Mem), ∀  (μ : Mem), f  μ = bd (p_X12_readValues μ) (fun r2 μ1 => bv (sF μ1 0 3 (0 : Int32)) (fun μ3 => (if r2 = (0 : Int32) then some ((-1 : Int32), μ3) else bv (sF μ3 0 47 (μ3.1 0 45)) (fun μ5 => bv (sF μ5 0 46 (μ5.1 0 36)) (fun μ6 => bw (p_X12_copy 22 (0 : Int32) (μ6.1 0 36) 27 (0 : Int32) μ6) (fun μ7 => bw (p_X12_copy 23 (0 : Int32) (μ7.1 0 36) 28 (0 : Int32) μ7) (fun μ9 => some ((μ9.1 0 45), μ9)))))))) := ⟨fun  (μ : Mem) => bd (p_X12_readValues μ) (fun r2 μ1 => bv (sF μ1 0 3 (0 : Int32)) (fun μ3 => (if r2 = (0 : Int32) then some ((-1 : Int32), μ3) else bv (sF μ3 0 47 (μ3.1 0 45)) (fun μ5 => bv (sF μ5 0 46 (μ5.1 0 36)) (fun μ6 => bw (p_X12_copy 22 (0 : Int32) (μ6.1 0 36) 27 (0 : Int32) μ6) (fun μ7 => bw (p_X12_copy 23 (0 : Int32) (μ7.1 0 36) 28 (0 : Int32) μ7) (fun μ9 => some ((μ9.1 0 45), μ9)))))))), fun _ => rfl⟩
noncomputable def p_X12_values : Mem → Option (Int32 × Mem) := Classical.choose p_X12_values_ex
theorem p_X12_values_eq  (μ : Mem) : p_X12_values  μ = bd (p_X12_readValues μ) (fun r2 μ1 => bv (sF μ1 0 3 (0 : Int32)) (fun μ3 => (if r2 = (0 : Int32) then some ((-1 : Int32), μ3) else bv (sF μ3 0 47 (μ3.1 0 45)) (fun μ5 => bv (sF μ5 0 46 (μ5.1 0 36)) (fun μ6 => bw (p_X12_copy 22 (0 : Int32) (μ6.1 0 36) 27 (0 : Int32) μ6) (fun μ7 => bw (p_X12_copy 23 (0 : Int32) (μ7.1 0 36) 28 (0 : Int32) μ7) (fun μ9 => some ((μ9.1 0 45), μ9)))))))) := Classical.choose_spec p_X12_values_ex  μ
set_option maxHeartbeats 4000000 in
set_option maxRecDepth 100000 in
theorem t_X12_values (l : Launch) (G : Gt) (ad : Nat → Nat)  (μ : Mem) {r : Int32} {μz : Mem} (h : p_X12_values  μ = some (r, μz)) : Mt l yX12_values cX12_values 2 (some .int) ({ frames := 6, cells := 0, slots := 0, locals := 134 } : Room) G [.ref (ad 0)] (wd 1 G ad μ) (eI 1 G ad r μz) := by
  refine Bk.mt (by decide) rfl (Nat.le_of_ble_eq_true rfl) ?_
  intro p e s m below meth c A ls H locs cx hr hlk hA hl hw
  have hx := cx.1
  have hb := cx.2.1
  have hl : lv_has ls 2 [(0, .ref (ad 0))] := hl
  rw [p_X12_values_eq] at h
  refine lv_aload_n hx hb dX12_values_0 rfl (lv_at hl 0 rfl) ?_
  obtain ⟨r2, μ1, gr2, h⟩ := bd_some h
  refine g_callVI (As := []) (rest := []) cx hw hA (t_X12_readValues l G ad μ gr2) shm_0 rfl ml_X12_518 im_X12_readValues se_X12_readValues in_X12 co_X12_readValues rfl hd_X12_readValues rfl ⟨(Nat.le_of_ble_eq_true rfl), (Nat.le_of_ble_eq_true rfl)⟩ hl.1 rfl (Nat.le_of_ble_eq_true rfl) dX12_values_1 ⟨rfl, rfl⟩ (fun H locs hw => ?_)
  refine lv_istore_n (lv' := [(1, .int r2), (0, .ref (ad 0))]) hx hb dX12_values_4 rfl hl (by decide) rfl (fun ls hl => ?_)
  refine lv_aload_n hx hb dX12_values_5 rfl (lv_at hl 1 rfl) ?_
  refine lv_iconst (v := 0) hx hb dX12_values_6 (by decide) ?_
  refine g_put cx hw inX12 (ci := 11) rfl tyX12_ok nmX12 3 (by decide) rfl rfl rfl rfl shm_0 h fl_X12_352 dX12_values_7 (fun μ3 H locs h hw => ?_)
  refine lv_iload_n hx hb dX12_values_10 rfl (lv_at hl 0 rfl) ?_
  refine lv_if_ne (tgt := 16) hx hb dX12_values_11 (by decide) (fun c4 => ?_) (fun c4 => ?_)
  · rw [if_neg c4] at h
    refine lv_aload_n hx hb dX12_values_16 rfl (lv_at hl 1 rfl) ?_
    refine lv_aload_n hx hb dX12_values_17 rfl (lv_at hl 1 rfl) ?_
    refine g_get cx hw inX12 (ci := 11) rfl 45 (by decide) rfl (v := .int (μ3.1 0 45)) shm_0 rfl fl_X12_509 dX12_values_18 ?_
    refine g_put cx hw inX12 (ci := 11) rfl tyX12_ok nmX12 47 (by decide) rfl rfl rfl rfl shm_0 h fl_X12_512 dX12_values_21 (fun μ5 H locs h hw => ?_)
    refine lv_aload_n hx hb dX12_values_24 rfl (lv_at hl 1 rfl) ?_
    refine lv_aload_n hx hb dX12_values_25 rfl (lv_at hl 1 rfl) ?_
    refine g_get cx hw inX12 (ci := 11) rfl 36 (by decide) rfl (v := .int (μ5.1 0 36)) shm_0 rfl fl_X12_478 dX12_values_26 ?_
    refine g_put cx hw inX12 (ci := 11) rfl tyX12_ok nmX12 46 (by decide) rfl rfl rfl rfl shm_0 h fl_X12_515 dX12_values_29 (fun μ6 H locs h hw => ?_)
    refine lv_aload_n hx hb dX12_values_32 rfl (lv_at hl 1 rfl) ?_
    refine g_get cx hw inX12 (ci := 11) rfl 33 (by decide) rfl (v := .ref (ad 22)) shm_0 rfl fl_X12_78 dX12_values_33 ?_
    refine lv_iconst (v := 0) hx hb dX12_values_36 (by decide) ?_
    refine lv_aload_n hx hb dX12_values_37 rfl (lv_at hl 1 rfl) ?_
    refine g_get cx hw inX12 (ci := 11) rfl 36 (by decide) rfl (v := .int (μ6.1 0 36)) shm_0 rfl fl_X12_478 dX12_values_38 ?_
    refine lv_aload_n hx hb dX12_values_41 rfl (lv_at hl 1 rfl) ?_
    refine g_get cx hw inX12 (ci := 11) rfl 40 (by decide) rfl (v := .ref (ad 27)) shm_0 rfl fl_X12_93 dX12_values_42 ?_
    refine lv_iconst (v := 0) hx hb dX12_values_45 (by decide) ?_
    obtain ⟨μ7, gμ7, h⟩ := bw_some h
    refine g_callSV (As := [.ref (ad 22), .int 0, .int (μ6.1 0 36), .ref (ad 27), .int 0]) (rest := []) cx hw hA (t_X12_copy l G ad 22 (sh_f shm_22) (0 : Int32) (μ6.1 0 36) 27 (sh_f shm_27) (0 : Int32) μ6 gμ7) ml_X12_471 st_X12_copy in_X12 co_X12_copy hd_X12_copy rfl ⟨(Nat.le_of_ble_eq_true rfl), (Nat.le_of_ble_eq_true rfl)⟩ hl.1 rfl (Nat.le_of_ble_eq_true rfl) dX12_values_46 ⟨rfl, rfl⟩ (fun H locs hw => ?_)
    refine lv_aload_n hx hb dX12_values_49 rfl (lv_at hl 1 rfl) ?_
    refine g_get cx hw inX12 (ci := 11) rfl 34 (by decide) rfl (v := .ref (ad 23)) shm_0 rfl fl_X12_81 dX12_values_50 ?_
    refine lv_iconst (v := 0) hx hb dX12_values_53 (by decide) ?_
    refine lv_aload_n hx hb dX12_values_54 rfl (lv_at hl 1 rfl) ?_
    refine g_get cx hw inX12 (ci := 11) rfl 36 (by decide) rfl (v := .int (μ7.1 0 36)) shm_0 rfl fl_X12_478 dX12_values_55 ?_
    refine lv_aload_n hx hb dX12_values_58 rfl (lv_at hl 1 rfl) ?_
    refine g_get cx hw inX12 (ci := 11) rfl 41 (by decide) rfl (v := .ref (ad 28)) shm_0 rfl fl_X12_96 dX12_values_59 ?_
    refine lv_iconst (v := 0) hx hb dX12_values_62 (by decide) ?_
    obtain ⟨μ9, gμ9, h⟩ := bw_some h
    refine g_callSV (As := [.ref (ad 23), .int 0, .int (μ7.1 0 36), .ref (ad 28), .int 0]) (rest := []) cx hw hA (t_X12_copy l G ad 23 (sh_f shm_23) (0 : Int32) (μ7.1 0 36) 28 (sh_f shm_28) (0 : Int32) μ7 gμ9) ml_X12_471 st_X12_copy in_X12 co_X12_copy hd_X12_copy rfl ⟨(Nat.le_of_ble_eq_true rfl), (Nat.le_of_ble_eq_true rfl)⟩ hl.1 rfl (Nat.le_of_ble_eq_true rfl) dX12_values_63 ⟨rfl, rfl⟩ (fun H locs hw => ?_)
    refine lv_aload_n hx hb dX12_values_66 rfl (lv_at hl 1 rfl) ?_
    refine g_get cx hw inX12 (ci := 11) rfl 45 (by decide) rfl (v := .int (μ9.1 0 45)) shm_0 rfl fl_X12_509 dX12_values_67 ?_
    exact g_iret cx hr hlk hw h dX12_values_70
  · rw [if_pos c4] at h
    refine lv_iconst (v := (-1)) hx hb dX12_values_14 (by decide) ?_
    exact g_iret cx hr hlk hw h dX12_values_15

theorem p_X12_fault_ex : ∃ f : Mem → Option (Int32 × Mem), ∀  (μ : Mem), f  μ = some ((μ.1 0 5), μ) := ⟨fun  (μ : Mem) => some ((μ.1 0 5), μ), fun _ => rfl⟩
noncomputable def p_X12_fault : Mem → Option (Int32 × Mem) := Classical.choose p_X12_fault_ex
theorem p_X12_fault_eq  (μ : Mem) : p_X12_fault  μ = some ((μ.1 0 5), μ) := Classical.choose_spec p_X12_fault_ex  μ
set_option maxHeartbeats 4000000 in
set_option maxRecDepth 100000 in
theorem t_X12_fault (l : Launch) (G : Gt) (ad : Nat → Nat)  (μ : Mem) {r : Int32} {μz : Mem} (h : p_X12_fault  μ = some (r, μz)) : Mt l yX12_fault cX12_fault 1 (some .int) ({ frames := 0, cells := 0, slots := 0, locals := 0 } : Room) G [.ref (ad 0)] (wd 1 G ad μ) (eI 1 G ad r μz) := by
  refine Bk.mt (by decide) rfl (Nat.le_of_ble_eq_true rfl) ?_
  intro p e s m below meth c A ls H locs cx hr hlk hA hl hw
  have hx := cx.1
  have hb := cx.2.1
  have hl : lv_has ls 1 [(0, .ref (ad 0))] := hl
  rw [p_X12_fault_eq] at h
  refine lv_aload_n hx hb dX12_fault_0 rfl (lv_at hl 0 rfl) ?_
  refine g_get cx hw inX12 (ci := 11) rfl 5 (by decide) rfl (v := .int (μ.1 0 5)) shm_0 rfl fl_X12_13 dX12_fault_1 ?_
  exact g_iret cx hr hlk hw h dX12_fault_4
