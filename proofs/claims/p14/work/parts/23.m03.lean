theorem p_X4_readChoice_ex : ∃ f : (Int32 → Mem → Option Mem) → Int32 → Mem → Option Mem, ∀ (RE : Int32 → Mem → Option Mem) (a1 : Int32) (μ : Mem), f  RE a1 μ = bd (p_X4_take (40 : Int32) μ) (fun r2 μ1 => bw (RE (a1 + (1 : Int32)) μ1) (fun μ3 => bd (p_X4_take (44 : Int32) μ3) (fun r6 μ5 => bd (p_X3_add (sel 2 (μ5.2.2 16 4)) (6 : Int32) (0 : Int32) (0 : Int32) μ5) (fun r8 μ7 => bw (RE (a1 + (1 : Int32)) μ7) (fun μ9 => bd (p_X4_take (44 : Int32) μ9) (fun r12 μ11 => bd (p_X3_add (sel 2 (μ11.2.2 16 4)) (7 : Int32) (0 : Int32) (0 : Int32) μ11) (fun r14 μ13 => bw (p_X3_leadHere (sel 2 (μ13.2.2 16 4)) r8 μ13) (fun μ15 => bw (RE (a1 + (1 : Int32)) μ15) (fun μ17 => bd (p_X4_take (41 : Int32) μ17) (fun r20 μ19 => bd (p_X3_add (sel 2 (μ19.2.2 16 4)) (8 : Int32) (0 : Int32) (0 : Int32) μ19) (fun r22 μ21 => bw (p_X3_leadHere (sel 2 (μ21.2.2 16 4)) r14 μ21) (fun μ23 => some μ23)))))))))))) := ⟨fun (RE : Int32 → Mem → Option Mem) (a1 : Int32) (μ : Mem) => bd (p_X4_take (40 : Int32) μ) (fun r2 μ1 => bw (RE (a1 + (1 : Int32)) μ1) (fun μ3 => bd (p_X4_take (44 : Int32) μ3) (fun r6 μ5 => bd (p_X3_add (sel 2 (μ5.2.2 16 4)) (6 : Int32) (0 : Int32) (0 : Int32) μ5) (fun r8 μ7 => bw (RE (a1 + (1 : Int32)) μ7) (fun μ9 => bd (p_X4_take (44 : Int32) μ9) (fun r12 μ11 => bd (p_X3_add (sel 2 (μ11.2.2 16 4)) (7 : Int32) (0 : Int32) (0 : Int32) μ11) (fun r14 μ13 => bw (p_X3_leadHere (sel 2 (μ13.2.2 16 4)) r8 μ13) (fun μ15 => bw (RE (a1 + (1 : Int32)) μ15) (fun μ17 => bd (p_X4_take (41 : Int32) μ17) (fun r20 μ19 => bd (p_X3_add (sel 2 (μ19.2.2 16 4)) (8 : Int32) (0 : Int32) (0 : Int32) μ19) (fun r22 μ21 => bw (p_X3_leadHere (sel 2 (μ21.2.2 16 4)) r14 μ21) (fun μ23 => some μ23)))))))))))), fun _ _ _ => rfl⟩
noncomputable def p_X4_readChoice : (Int32 → Mem → Option Mem) → Int32 → Mem → Option Mem := Classical.choose p_X4_readChoice_ex
theorem p_X4_readChoice_eq (RE : Int32 → Mem → Option Mem) (a1 : Int32) (μ : Mem) : p_X4_readChoice  RE a1 μ = bd (p_X4_take (40 : Int32) μ) (fun r2 μ1 => bw (RE (a1 + (1 : Int32)) μ1) (fun μ3 => bd (p_X4_take (44 : Int32) μ3) (fun r6 μ5 => bd (p_X3_add (sel 2 (μ5.2.2 16 4)) (6 : Int32) (0 : Int32) (0 : Int32) μ5) (fun r8 μ7 => bw (RE (a1 + (1 : Int32)) μ7) (fun μ9 => bd (p_X4_take (44 : Int32) μ9) (fun r12 μ11 => bd (p_X3_add (sel 2 (μ11.2.2 16 4)) (7 : Int32) (0 : Int32) (0 : Int32) μ11) (fun r14 μ13 => bw (p_X3_leadHere (sel 2 (μ13.2.2 16 4)) r8 μ13) (fun μ15 => bw (RE (a1 + (1 : Int32)) μ15) (fun μ17 => bd (p_X4_take (41 : Int32) μ17) (fun r20 μ19 => bd (p_X3_add (sel 2 (μ19.2.2 16 4)) (8 : Int32) (0 : Int32) (0 : Int32) μ19) (fun r22 μ21 => bw (p_X3_leadHere (sel 2 (μ21.2.2 16 4)) r14 μ21) (fun μ23 => some μ23)))))))))))) := Classical.choose_spec p_X4_readChoice_ex  RE a1 μ
set_option maxHeartbeats 4000000 in
set_option maxRecDepth 100000 in
theorem t_X4_readChoice (l : Launch) (G : Gt) (ad : Nat → Nat) {fE lE : Nat} (RE : Int32 → Mem → Option Mem) (hRE : ∀ (z1 : Int32) (μ1 : Mem) (μ2 : Mem), RE z1 μ1 = some μ2 → Mt l yX4_readExpression cX4_readExpression 5 none ({ frames := fE, cells := 0, slots := 0, locals := lE } : Room) G [.ref (ad 16), .int z1] (wd 0 G ad μ1) (eV 0 G ad μ2)) (a1 : Int32) (μ : Mem) {μz : Mem} (h : p_X4_readChoice RE a1 μ = some μz) : Mt l yX4_readChoice cX4_readChoice 4 none ({ frames := fE + 2, cells := 0, slots := 0, locals := lE + 42 } : Room) G [.ref (ad 16), .int a1] (wd 0 G ad μ) (eV 0 G ad μz) := by
  refine Bk.mt (by decide) rfl (Nat.le_of_ble_eq_true rfl) ?_
  intro p e s m below meth c A ls H locs cx hr hlk hA hl hw
  have hx := cx.1
  have hb := cx.2.1
  have hl : lv_has ls 4 [(0, .ref (ad 16)), (1, .int a1)] := hl
  rw [p_X4_readChoice_eq] at h
  refine lv_aload_n hx hb dX4_readChoice_0 rfl (lv_at hl 0 rfl) ?_
  refine lv_bipush (v := 40) hx hb dX4_readChoice_1 (by decide) ?_
  obtain ⟨r2, μ1, gr2, h⟩ := bd_some h
  refine g_callVI (As := [.int 40]) (rest := []) cx hw hA (t_X4_take l G ad (40 : Int32) μ gr2) shx_16 rfl ml_X4_70 im_X4_take se_X4_take in_X4 co_X4_take rfl hd_X4_take rfl ⟨(by dsimp only; omega), (by dsimp only; omega)⟩ hl.1 rfl (Nat.le_of_ble_eq_true rfl) dX4_readChoice_3 ⟨rfl, rfl⟩ (fun H locs hw => ?_)
  refine lv_pop hx hb dX4_readChoice_6 rfl ?_
  refine lv_aload_n hx hb dX4_readChoice_7 rfl (lv_at hl 0 rfl) ?_
  refine lv_iload_n hx hb dX4_readChoice_8 rfl (lv_at hl 1 rfl) ?_
  refine lv_iconst (v := 1) hx hb dX4_readChoice_9 (by decide) ?_
  refine lv_iadd hx hb dX4_readChoice_10 ?_
  obtain ⟨μ3, gμ3, h⟩ := bw_some h
  refine g_callVV (As := [.int (a1 + (1 : Int32))]) (rest := []) cx hw hA (hRE (a1 + (1 : Int32)) μ1 _ gμ3) shx_16 rfl ml_X4_83 im_X4_readExpression se_X4_readExpression in_X4 co_X4_readExpression rfl hd_X4_readExpression rfl ⟨(by dsimp only; omega), (by dsimp only; omega)⟩ hl.1 rfl (Nat.le_of_ble_eq_true rfl) dX4_readChoice_11 ⟨rfl, rfl⟩ (fun H locs hw => ?_)
  refine lv_aload_n hx hb dX4_readChoice_14 rfl (lv_at hl 0 rfl) ?_
  refine lv_bipush (v := 44) hx hb dX4_readChoice_15 (by decide) ?_
  obtain ⟨r6, μ5, gr6, h⟩ := bd_some h
  refine g_callVI (As := [.int 44]) (rest := []) cx hw hA (t_X4_take l G ad (44 : Int32) μ3 gr6) shx_16 rfl ml_X4_70 im_X4_take se_X4_take in_X4 co_X4_take rfl hd_X4_take rfl ⟨(by dsimp only; omega), (by dsimp only; omega)⟩ hl.1 rfl (Nat.le_of_ble_eq_true rfl) dX4_readChoice_17 ⟨rfl, rfl⟩ (fun H locs hw => ?_)
  refine lv_pop hx hb dX4_readChoice_20 rfl ?_
  refine lv_aload_n hx hb dX4_readChoice_21 rfl (lv_at hl 0 rfl) ?_
  refine g_get cx hw inX4 (ci := 3) rfl 4 (by decide) rfl (v := .ref (ad (sel 2 (μ5.2.2 16 4)))) shx_16 rfl fl_X4_25 dX4_readChoice_22 ?_
  refine lv_bipush (v := 6) hx hb dX4_readChoice_25 (by decide) ?_
  refine lv_iconst (v := 0) hx hb dX4_readChoice_27 (by decide) ?_
  refine lv_iconst (v := 0) hx hb dX4_readChoice_28 (by decide) ?_
  obtain ⟨r8, μ7, gr8, h⟩ := bd_some h
  refine g_callVI (As := [.int 6, .int 0, .int 0]) (rest := []) cx hw hA (t_X3_add l G ad (sel 2 (μ5.2.2 16 4)) (sel_2 _) (6 : Int32) (0 : Int32) (0 : Int32) μ5 gr8) (sel_2 _) rfl ml_X4_86 im_X3_add se_X3_add in_X3 co_X3_add rfl hd_X3_add rfl ⟨(by dsimp only; omega), (by dsimp only; omega)⟩ hl.1 rfl (Nat.le_of_ble_eq_true rfl) dX4_readChoice_29 ⟨rfl, rfl⟩ (fun H locs hw => ?_)
  refine lv_istore_n (lv' := [(2, .int r8), (0, .ref (ad 16)), (1, .int a1)]) hx hb dX4_readChoice_32 rfl hl (by decide) rfl (fun ls hl => ?_)
  refine lv_aload_n hx hb dX4_readChoice_33 rfl (lv_at hl 1 rfl) ?_
  refine lv_iload_n hx hb dX4_readChoice_34 rfl (lv_at hl 2 rfl) ?_
  refine lv_iconst (v := 1) hx hb dX4_readChoice_35 (by decide) ?_
  refine lv_iadd hx hb dX4_readChoice_36 ?_
  obtain ⟨μ9, gμ9, h⟩ := bw_some h
  refine g_callVV (As := [.int (a1 + (1 : Int32))]) (rest := []) cx hw hA (hRE (a1 + (1 : Int32)) μ7 _ gμ9) shx_16 rfl ml_X4_83 im_X4_readExpression se_X4_readExpression in_X4 co_X4_readExpression rfl hd_X4_readExpression rfl ⟨(by dsimp only; omega), (by dsimp only; omega)⟩ hl.1 rfl (Nat.le_of_ble_eq_true rfl) dX4_readChoice_37 ⟨rfl, rfl⟩ (fun H locs hw => ?_)
  refine lv_aload_n hx hb dX4_readChoice_40 rfl (lv_at hl 1 rfl) ?_
  refine lv_bipush (v := 44) hx hb dX4_readChoice_41 (by decide) ?_
  obtain ⟨r12, μ11, gr12, h⟩ := bd_some h
  refine g_callVI (As := [.int 44]) (rest := []) cx hw hA (t_X4_take l G ad (44 : Int32) μ9 gr12) shx_16 rfl ml_X4_70 im_X4_take se_X4_take in_X4 co_X4_take rfl hd_X4_take rfl ⟨(by dsimp only; omega), (by dsimp only; omega)⟩ hl.1 rfl (Nat.le_of_ble_eq_true rfl) dX4_readChoice_43 ⟨rfl, rfl⟩ (fun H locs hw => ?_)
  refine lv_pop hx hb dX4_readChoice_46 rfl ?_
  refine lv_aload_n hx hb dX4_readChoice_47 rfl (lv_at hl 1 rfl) ?_
  refine g_get cx hw inX4 (ci := 3) rfl 4 (by decide) rfl (v := .ref (ad (sel 2 (μ11.2.2 16 4)))) shx_16 rfl fl_X4_25 dX4_readChoice_48 ?_
  refine lv_bipush (v := 7) hx hb dX4_readChoice_51 (by decide) ?_
  refine lv_iconst (v := 0) hx hb dX4_readChoice_53 (by decide) ?_
  refine lv_iconst (v := 0) hx hb dX4_readChoice_54 (by decide) ?_
  obtain ⟨r14, μ13, gr14, h⟩ := bd_some h
  refine g_callVI (As := [.int 7, .int 0, .int 0]) (rest := []) cx hw hA (t_X3_add l G ad (sel 2 (μ11.2.2 16 4)) (sel_2 _) (7 : Int32) (0 : Int32) (0 : Int32) μ11 gr14) (sel_2 _) rfl ml_X4_86 im_X3_add se_X3_add in_X3 co_X3_add rfl hd_X3_add rfl ⟨(by dsimp only; omega), (by dsimp only; omega)⟩ hl.1 rfl (Nat.le_of_ble_eq_true rfl) dX4_readChoice_55 ⟨rfl, rfl⟩ (fun H locs hw => ?_)
  refine lv_istore_n (lv' := [(3, .int r14), (2, .int r8), (0, .ref (ad 16)), (1, .int a1)]) hx hb dX4_readChoice_58 rfl hl (by decide) rfl (fun ls hl => ?_)
  refine lv_aload_n hx hb dX4_readChoice_59 rfl (lv_at hl 2 rfl) ?_
  refine g_get cx hw inX4 (ci := 3) rfl 4 (by decide) rfl (v := .ref (ad (sel 2 (μ13.2.2 16 4)))) shx_16 rfl fl_X4_25 dX4_readChoice_60 ?_
  refine lv_iload_n hx hb dX4_readChoice_63 rfl (lv_at hl 1 rfl) ?_
  obtain ⟨μ15, gμ15, h⟩ := bw_some h
  refine g_callVV (As := [.int r8]) (rest := []) cx hw hA (t_X3_leadHere l G ad (sel 2 (μ13.2.2 16 4)) (sel_2 _) r8 μ13 gμ15) (sel_2 _) rfl ml_X4_164 im_X3_leadHere se_X3_leadHere in_X3 co_X3_leadHere rfl hd_X3_leadHere rfl ⟨(by dsimp only; omega), (by dsimp only; omega)⟩ hl.1 rfl (Nat.le_of_ble_eq_true rfl) dX4_readChoice_64 ⟨rfl, rfl⟩ (fun H locs hw => ?_)
  refine lv_aload_n hx hb dX4_readChoice_67 rfl (lv_at hl 2 rfl) ?_
  refine lv_iload_n hx hb dX4_readChoice_68 rfl (lv_at hl 3 rfl) ?_
  refine lv_iconst (v := 1) hx hb dX4_readChoice_69 (by decide) ?_
  refine lv_iadd hx hb dX4_readChoice_70 ?_
  obtain ⟨μ17, gμ17, h⟩ := bw_some h
  refine g_callVV (As := [.int (a1 + (1 : Int32))]) (rest := []) cx hw hA (hRE (a1 + (1 : Int32)) μ15 _ gμ17) shx_16 rfl ml_X4_83 im_X4_readExpression se_X4_readExpression in_X4 co_X4_readExpression rfl hd_X4_readExpression rfl ⟨(by dsimp only; omega), (by dsimp only; omega)⟩ hl.1 rfl (Nat.le_of_ble_eq_true rfl) dX4_readChoice_71 ⟨rfl, rfl⟩ (fun H locs hw => ?_)
  refine lv_aload_n hx hb dX4_readChoice_74 rfl (lv_at hl 2 rfl) ?_
  refine lv_bipush (v := 41) hx hb dX4_readChoice_75 (by decide) ?_
  obtain ⟨r20, μ19, gr20, h⟩ := bd_some h
  refine g_callVI (As := [.int 41]) (rest := []) cx hw hA (t_X4_take l G ad (41 : Int32) μ17 gr20) shx_16 rfl ml_X4_70 im_X4_take se_X4_take in_X4 co_X4_take rfl hd_X4_take rfl ⟨(by dsimp only; omega), (by dsimp only; omega)⟩ hl.1 rfl (Nat.le_of_ble_eq_true rfl) dX4_readChoice_77 ⟨rfl, rfl⟩ (fun H locs hw => ?_)
  refine lv_pop hx hb dX4_readChoice_80 rfl ?_
  refine lv_aload_n hx hb dX4_readChoice_81 rfl (lv_at hl 2 rfl) ?_
  refine g_get cx hw inX4 (ci := 3) rfl 4 (by decide) rfl (v := .ref (ad (sel 2 (μ19.2.2 16 4)))) shx_16 rfl fl_X4_25 dX4_readChoice_82 ?_
  refine lv_bipush (v := 8) hx hb dX4_readChoice_85 (by decide) ?_
  refine lv_iconst (v := 0) hx hb dX4_readChoice_87 (by decide) ?_
  refine lv_iconst (v := 0) hx hb dX4_readChoice_88 (by decide) ?_
  obtain ⟨r22, μ21, gr22, h⟩ := bd_some h
  refine g_callVI (As := [.int 8, .int 0, .int 0]) (rest := []) cx hw hA (t_X3_add l G ad (sel 2 (μ19.2.2 16 4)) (sel_2 _) (8 : Int32) (0 : Int32) (0 : Int32) μ19 gr22) (sel_2 _) rfl ml_X4_86 im_X3_add se_X3_add in_X3 co_X3_add rfl hd_X3_add rfl ⟨(by dsimp only; omega), (by dsimp only; omega)⟩ hl.1 rfl (Nat.le_of_ble_eq_true rfl) dX4_readChoice_89 ⟨rfl, rfl⟩ (fun H locs hw => ?_)
  refine lv_pop hx hb dX4_readChoice_92 rfl ?_
  refine lv_aload_n hx hb dX4_readChoice_93 rfl (lv_at hl 2 rfl) ?_
  refine g_get cx hw inX4 (ci := 3) rfl 4 (by decide) rfl (v := .ref (ad (sel 2 (μ21.2.2 16 4)))) shx_16 rfl fl_X4_25 dX4_readChoice_94 ?_
  refine lv_iload_n hx hb dX4_readChoice_97 rfl (lv_at hl 0 rfl) ?_
  obtain ⟨μ23, gμ23, h⟩ := bw_some h
  refine g_callVV (As := [.int r14]) (rest := []) cx hw hA (t_X3_leadHere l G ad (sel 2 (μ21.2.2 16 4)) (sel_2 _) r14 μ21 gμ23) (sel_2 _) rfl ml_X4_164 im_X3_leadHere se_X3_leadHere in_X3 co_X3_leadHere rfl hd_X3_leadHere rfl ⟨(by dsimp only; omega), (by dsimp only; omega)⟩ hl.1 rfl (Nat.le_of_ble_eq_true rfl) dX4_readChoice_98 ⟨rfl, rfl⟩ (fun H locs hw => ?_)
  exact g_vret cx hr hlk hw h dX4_readChoice_101

theorem p_X4_readPlace_ex : ∃ f : (Int32 → Mem → Option Mem) → Int32 → Int32 → Mem → Option Mem, ∀ (RE : Int32 → Mem → Option Mem) (a1 : Int32) (a2 : Int32) (μ : Mem), f  RE a1 a2 μ = bd (p_X4_here μ) (fun r2 μ1 => bv (r2 - (48 : Int32)) (fun v3 => (if v3 < (0 : Int32) then bw (p_X4_fail (μ1.1 16 2) μ1) (fun μ5 => some μ5) else (if v3 < (8 : Int32) then bv (sF μ1 16 2 ((μ1.1 16 2) + (1 : Int32))) (fun μ8 => bd (p_X3_count (sel 2 (μ8.2.2 16 4)) (5 : Int32) μ8) (fun r10 μ9 => (if a1 = (95 : Int32) then bd (p_X3_add (sel 2 (μ9.2.2 16 4)) (11 : Int32) v3 (0 : Int32) μ9) (fun r17 μ16 => some μ16) else bw (RE (a2 + (1 : Int32)) μ9) (fun μ12 => bd (p_X3_add (sel 2 (μ12.2.2 16 4)) (10 : Int32) v3 (0 : Int32) μ12) (fun r15 μ14 => some μ14))))) else bw (p_X4_fail (μ1.1 16 2) μ1) (fun μ18 => some μ18))))) := ⟨fun (RE : Int32 → Mem → Option Mem) (a1 : Int32) (a2 : Int32) (μ : Mem) => bd (p_X4_here μ) (fun r2 μ1 => bv (r2 - (48 : Int32)) (fun v3 => (if v3 < (0 : Int32) then bw (p_X4_fail (μ1.1 16 2) μ1) (fun μ5 => some μ5) else (if v3 < (8 : Int32) then bv (sF μ1 16 2 ((μ1.1 16 2) + (1 : Int32))) (fun μ8 => bd (p_X3_count (sel 2 (μ8.2.2 16 4)) (5 : Int32) μ8) (fun r10 μ9 => (if a1 = (95 : Int32) then bd (p_X3_add (sel 2 (μ9.2.2 16 4)) (11 : Int32) v3 (0 : Int32) μ9) (fun r17 μ16 => some μ16) else bw (RE (a2 + (1 : Int32)) μ9) (fun μ12 => bd (p_X3_add (sel 2 (μ12.2.2 16 4)) (10 : Int32) v3 (0 : Int32) μ12) (fun r15 μ14 => some μ14))))) else bw (p_X4_fail (μ1.1 16 2) μ1) (fun μ18 => some μ18))))), fun _ _ _ _ => rfl⟩
noncomputable def p_X4_readPlace : (Int32 → Mem → Option Mem) → Int32 → Int32 → Mem → Option Mem := Classical.choose p_X4_readPlace_ex
theorem p_X4_readPlace_eq (RE : Int32 → Mem → Option Mem) (a1 : Int32) (a2 : Int32) (μ : Mem) : p_X4_readPlace  RE a1 a2 μ = bd (p_X4_here μ) (fun r2 μ1 => bv (r2 - (48 : Int32)) (fun v3 => (if v3 < (0 : Int32) then bw (p_X4_fail (μ1.1 16 2) μ1) (fun μ5 => some μ5) else (if v3 < (8 : Int32) then bv (sF μ1 16 2 ((μ1.1 16 2) + (1 : Int32))) (fun μ8 => bd (p_X3_count (sel 2 (μ8.2.2 16 4)) (5 : Int32) μ8) (fun r10 μ9 => (if a1 = (95 : Int32) then bd (p_X3_add (sel 2 (μ9.2.2 16 4)) (11 : Int32) v3 (0 : Int32) μ9) (fun r17 μ16 => some μ16) else bw (RE (a2 + (1 : Int32)) μ9) (fun μ12 => bd (p_X3_add (sel 2 (μ12.2.2 16 4)) (10 : Int32) v3 (0 : Int32) μ12) (fun r15 μ14 => some μ14))))) else bw (p_X4_fail (μ1.1 16 2) μ1) (fun μ18 => some μ18))))) := Classical.choose_spec p_X4_readPlace_ex  RE a1 a2 μ
set_option maxHeartbeats 4000000 in
set_option maxRecDepth 100000 in
theorem t_X4_readPlace (l : Launch) (G : Gt) (ad : Nat → Nat) {fE lE : Nat} (RE : Int32 → Mem → Option Mem) (hRE : ∀ (z1 : Int32) (μ1 : Mem) (μ2 : Mem), RE z1 μ1 = some μ2 → Mt l yX4_readExpression cX4_readExpression 5 none ({ frames := fE, cells := 0, slots := 0, locals := lE } : Room) G [.ref (ad 16), .int z1] (wd 0 G ad μ1) (eV 0 G ad μ2)) (a1 : Int32) (a2 : Int32) (μ : Mem) {μz : Mem} (h : p_X4_readPlace RE a1 a2 μ = some μz) : Mt l yX4_readPlace cX4_readPlace 4 none ({ frames := fE + 1, cells := 0, slots := 0, locals := lE + 24 } : Room) G [.ref (ad 16), .int a1, .int a2] (wd 0 G ad μ) (eV 0 G ad μz) := by
  refine Bk.mt (by decide) rfl (Nat.le_of_ble_eq_true rfl) ?_
  intro p e s m below meth c A ls H locs cx hr hlk hA hl hw
  have hx := cx.1
  have hb := cx.2.1
  have hl : lv_has ls 4 [(0, .ref (ad 16)), (1, .int a1), (2, .int a2)] := hl
  rw [p_X4_readPlace_eq] at h
  refine lv_aload_n hx hb dX4_readPlace_0 rfl (lv_at hl 0 rfl) ?_
  obtain ⟨r2, μ1, gr2, h⟩ := bd_some h
  refine g_callVI (As := []) (rest := []) cx hw hA (t_X4_here l G ad μ gr2) shx_16 rfl ml_X4_47 im_X4_here se_X4_here in_X4 co_X4_here rfl hd_X4_here rfl ⟨(by dsimp only; omega), (by dsimp only; omega)⟩ hl.1 rfl (Nat.le_of_ble_eq_true rfl) dX4_readPlace_1 ⟨rfl, rfl⟩ (fun H locs hw => ?_)
  refine lv_bipush (v := 48) hx hb dX4_readPlace_4 (by decide) ?_
  refine lv_isub hx hb dX4_readPlace_6 ?_
  obtain ⟨v3, ev3, h⟩ := bv_ex h
  refine lv_topi (fun y9 z9 => ?_)
  obtain rfl : v3 = y9 := ev3.trans z9.symm
  refine lv_istore_n (lv' := [(3, .int v3), (0, .ref (ad 16)), (1, .int a1), (2, .int a2)]) hx hb dX4_readPlace_7 rfl hl (by decide) rfl (fun ls hl => ?_)
  refine lv_iload_n hx hb dX4_readPlace_8 rfl (lv_at hl 0 rfl) ?_
  refine lv_if_lt (tgt := 18) hx hb dX4_readPlace_9 (by decide) (fun c4 => ?_) (fun c4 => ?_)
  · rw [if_pos c4] at h
    refine lv_aload_n hx hb dX4_readPlace_18 rfl (lv_at hl 1 rfl) ?_
    refine lv_aload_n hx hb dX4_readPlace_19 rfl (lv_at hl 1 rfl) ?_
    refine g_get cx hw inX4 (ci := 3) rfl 2 (by decide) rfl (v := .int (μ1.1 16 2)) shx_16 rfl fl_X4_19 dX4_readPlace_20 ?_
    obtain ⟨μ5, gμ5, h⟩ := bw_some h
    refine g_callVV (As := [.int (μ1.1 16 2)]) (rest := []) cx hw hA (t_X4_fail l G ad (μ1.1 16 2) μ1 gμ5) shx_16 rfl ml_X4_51 im_X4_fail se_X4_fail in_X4 co_X4_fail rfl hd_X4_fail rfl ⟨(by dsimp only; omega), (by dsimp only; omega)⟩ hl.1 rfl (Nat.le_of_ble_eq_true rfl) dX4_readPlace_23 ⟨rfl, rfl⟩ (fun H locs hw => ?_)
    exact g_vret cx hr hlk hw h dX4_readPlace_26
  · rw [if_neg c4] at h
    refine lv_iload_n hx hb dX4_readPlace_12 rfl (lv_at hl 0 rfl) ?_
    refine lv_bipush (v := 8) hx hb dX4_readPlace_13 (by decide) ?_
    refine lv_icmp_lt (tgt := 27) hx hb dX4_readPlace_15 (by decide) (fun c7 => ?_) (fun c7 => ?_)
    · rw [if_pos c7] at h
      refine lv_aload_n hx hb dX4_readPlace_27 rfl (lv_at hl 1 rfl) ?_
      refine lv_dup hx hb dX4_readPlace_28 rfl ?_
      refine g_get cx hw inX4 (ci := 3) rfl 2 (by decide) rfl (v := .int (μ1.1 16 2)) shx_16 rfl fl_X4_19 dX4_readPlace_29 ?_
      refine lv_iconst (v := 1) hx hb dX4_readPlace_32 (by decide) ?_
      refine lv_iadd hx hb dX4_readPlace_33 ?_
      refine g_put cx hw inX4 (ci := 3) rfl tyX4_ok nmX4 2 (by decide) rfl rfl rfl rfl shx_16 h fl_X4_19 dX4_readPlace_34 (fun μ8 H locs h hw => ?_)
      refine lv_aload_n hx hb dX4_readPlace_37 rfl (lv_at hl 1 rfl) ?_
      refine g_get cx hw inX4 (ci := 3) rfl 4 (by decide) rfl (v := .ref (ad (sel 2 (μ8.2.2 16 4)))) shx_16 rfl fl_X4_25 dX4_readPlace_38 ?_
      refine lv_iconst (v := 5) hx hb dX4_readPlace_41 (by decide) ?_
      obtain ⟨r10, μ9, gr10, h⟩ := bd_some h
      refine g_callVI (As := [.int 5]) (rest := []) cx hw hA (t_X3_count l G ad (sel 2 (μ8.2.2 16 4)) (sel_2 _) (5 : Int32) μ8 gr10) (sel_2 _) rfl ml_X4_104 im_X3_count se_X3_count in_X3 co_X3_count rfl hd_X3_count rfl ⟨(by dsimp only; omega), (by dsimp only; omega)⟩ hl.1 rfl (Nat.le_of_ble_eq_true rfl) dX4_readPlace_42 ⟨rfl, rfl⟩ (fun H locs hw => ?_)
      refine lv_pop hx hb dX4_readPlace_45 rfl ?_
      refine lv_iload_n hx hb dX4_readPlace_46 rfl (lv_at hl 2 rfl) ?_
      refine lv_bipush (v := 95) hx hb dX4_readPlace_47 (by decide) ?_
      refine lv_icmp_ne (tgt := 65) hx hb dX4_readPlace_49 (by decide) (fun c11 => ?_) (fun c11 => ?_)
      · rw [if_neg c11] at h
        refine lv_aload_n hx hb dX4_readPlace_65 rfl (lv_at hl 1 rfl) ?_
        refine lv_iload_n hx hb dX4_readPlace_66 rfl (lv_at hl 3 rfl) ?_
        refine lv_iconst (v := 1) hx hb dX4_readPlace_67 (by decide) ?_
        refine lv_iadd hx hb dX4_readPlace_68 ?_
        obtain ⟨μ12, gμ12, h⟩ := bw_some h
        refine g_callVV (As := [.int (a2 + (1 : Int32))]) (rest := []) cx hw hA (hRE (a2 + (1 : Int32)) μ9 _ gμ12) shx_16 rfl ml_X4_83 im_X4_readExpression se_X4_readExpression in_X4 co_X4_readExpression rfl hd_X4_readExpression rfl ⟨(by dsimp only; omega), (by dsimp only; omega)⟩ hl.1 rfl (Nat.le_of_ble_eq_true rfl) dX4_readPlace_69 ⟨rfl, rfl⟩ (fun H locs hw => ?_)
        refine lv_aload_n hx hb dX4_readPlace_72 rfl (lv_at hl 1 rfl) ?_
        refine g_get cx hw inX4 (ci := 3) rfl 4 (by decide) rfl (v := .ref (ad (sel 2 (μ12.2.2 16 4)))) shx_16 rfl fl_X4_25 dX4_readPlace_73 ?_
        refine lv_bipush (v := 10) hx hb dX4_readPlace_76 (by decide) ?_
        refine lv_iload_n hx hb dX4_readPlace_78 rfl (lv_at hl 0 rfl) ?_
        refine lv_iconst (v := 0) hx hb dX4_readPlace_79 (by decide) ?_
        obtain ⟨r15, μ14, gr15, h⟩ := bd_some h
        refine g_callVI (As := [.int 10, .int v3, .int 0]) (rest := []) cx hw hA (t_X3_add l G ad (sel 2 (μ12.2.2 16 4)) (sel_2 _) (10 : Int32) v3 (0 : Int32) μ12 gr15) (sel_2 _) rfl ml_X4_86 im_X3_add se_X3_add in_X3 co_X3_add rfl hd_X3_add rfl ⟨(by dsimp only; omega), (by dsimp only; omega)⟩ hl.1 rfl (Nat.le_of_ble_eq_true rfl) dX4_readPlace_80 ⟨rfl, rfl⟩ (fun H locs hw => ?_)
        refine lv_pop hx hb dX4_readPlace_83 rfl ?_
        exact g_vret cx hr hlk hw h dX4_readPlace_84
      · rw [if_pos c11] at h
        refine lv_aload_n hx hb dX4_readPlace_52 rfl (lv_at hl 1 rfl) ?_
        refine g_get cx hw inX4 (ci := 3) rfl 4 (by decide) rfl (v := .ref (ad (sel 2 (μ9.2.2 16 4)))) shx_16 rfl fl_X4_25 dX4_readPlace_53 ?_
        refine lv_bipush (v := 11) hx hb dX4_readPlace_56 (by decide) ?_
        refine lv_iload_n hx hb dX4_readPlace_58 rfl (lv_at hl 0 rfl) ?_
        refine lv_iconst (v := 0) hx hb dX4_readPlace_59 (by decide) ?_
        obtain ⟨r17, μ16, gr17, h⟩ := bd_some h
        refine g_callVI (As := [.int 11, .int v3, .int 0]) (rest := []) cx hw hA (t_X3_add l G ad (sel 2 (μ9.2.2 16 4)) (sel_2 _) (11 : Int32) v3 (0 : Int32) μ9 gr17) (sel_2 _) rfl ml_X4_86 im_X3_add se_X3_add in_X3 co_X3_add rfl hd_X3_add rfl ⟨(by dsimp only; omega), (by dsimp only; omega)⟩ hl.1 rfl (Nat.le_of_ble_eq_true rfl) dX4_readPlace_60 ⟨rfl, rfl⟩ (fun H locs hw => ?_)
        refine lv_pop hx hb dX4_readPlace_63 rfl ?_
        exact g_vret cx hr hlk hw h dX4_readPlace_64
    · rw [if_neg c7] at h
      refine lv_aload_n hx hb dX4_readPlace_18 rfl (lv_at hl 1 rfl) ?_
      refine lv_aload_n hx hb dX4_readPlace_19 rfl (lv_at hl 1 rfl) ?_
      refine g_get cx hw inX4 (ci := 3) rfl 2 (by decide) rfl (v := .int (μ1.1 16 2)) shx_16 rfl fl_X4_19 dX4_readPlace_20 ?_
      obtain ⟨μ18, gμ18, h⟩ := bw_some h
      refine g_callVV (As := [.int (μ1.1 16 2)]) (rest := []) cx hw hA (t_X4_fail l G ad (μ1.1 16 2) μ1 gμ18) shx_16 rfl ml_X4_51 im_X4_fail se_X4_fail in_X4 co_X4_fail rfl hd_X4_fail rfl ⟨(by dsimp only; omega), (by dsimp only; omega)⟩ hl.1 rfl (Nat.le_of_ble_eq_true rfl) dX4_readPlace_23 ⟨rfl, rfl⟩ (fun H locs hw => ?_)
      exact g_vret cx hr hlk hw h dX4_readPlace_26

theorem p_X4_readNaming_ex : ∃ f : (Int32 → Mem → Option Mem) → Int32 → Mem → Option Mem, ∀ (RE : Int32 → Mem → Option Mem) (a1 : Int32) (μ : Mem), f  RE a1 μ = bd (p_X4_here μ) (fun r2 μ1 => (if (s_X4_isVar r2) = (0 : Int32) then bw (p_X4_fail (μ1.1 16 2) μ1) (fun μ19 => some μ19) else bv (sF μ1 16 2 ((μ1.1 16 2) + (1 : Int32))) (fun μ4 => bd (p_X4_take (61 : Int32) μ4) (fun r6 μ5 => bw (RE (a1 + (1 : Int32)) μ5) (fun μ7 => bd (p_X4_take (44 : Int32) μ7) (fun r10 μ9 => bd (p_X3_add (sel 2 (μ9.2.2 16 4)) (12 : Int32) (μ9.1 16 6) (0 : Int32) μ9) (fun r12 μ11 => bv (μ11.1 16 6) (fun v13 => bw (p_X4_nameOne r2 μ11) (fun μ14 => bw (RE (a1 + (1 : Int32)) μ14) (fun μ16 => bv (sF μ16 16 6 v13) (fun μ18 => some μ18))))))))))) := ⟨fun (RE : Int32 → Mem → Option Mem) (a1 : Int32) (μ : Mem) => bd (p_X4_here μ) (fun r2 μ1 => (if (s_X4_isVar r2) = (0 : Int32) then bw (p_X4_fail (μ1.1 16 2) μ1) (fun μ19 => some μ19) else bv (sF μ1 16 2 ((μ1.1 16 2) + (1 : Int32))) (fun μ4 => bd (p_X4_take (61 : Int32) μ4) (fun r6 μ5 => bw (RE (a1 + (1 : Int32)) μ5) (fun μ7 => bd (p_X4_take (44 : Int32) μ7) (fun r10 μ9 => bd (p_X3_add (sel 2 (μ9.2.2 16 4)) (12 : Int32) (μ9.1 16 6) (0 : Int32) μ9) (fun r12 μ11 => bv (μ11.1 16 6) (fun v13 => bw (p_X4_nameOne r2 μ11) (fun μ14 => bw (RE (a1 + (1 : Int32)) μ14) (fun μ16 => bv (sF μ16 16 6 v13) (fun μ18 => some μ18))))))))))), fun _ _ _ => rfl⟩
noncomputable def p_X4_readNaming : (Int32 → Mem → Option Mem) → Int32 → Mem → Option Mem := Classical.choose p_X4_readNaming_ex
theorem p_X4_readNaming_eq (RE : Int32 → Mem → Option Mem) (a1 : Int32) (μ : Mem) : p_X4_readNaming  RE a1 μ = bd (p_X4_here μ) (fun r2 μ1 => (if (s_X4_isVar r2) = (0 : Int32) then bw (p_X4_fail (μ1.1 16 2) μ1) (fun μ19 => some μ19) else bv (sF μ1 16 2 ((μ1.1 16 2) + (1 : Int32))) (fun μ4 => bd (p_X4_take (61 : Int32) μ4) (fun r6 μ5 => bw (RE (a1 + (1 : Int32)) μ5) (fun μ7 => bd (p_X4_take (44 : Int32) μ7) (fun r10 μ9 => bd (p_X3_add (sel 2 (μ9.2.2 16 4)) (12 : Int32) (μ9.1 16 6) (0 : Int32) μ9) (fun r12 μ11 => bv (μ11.1 16 6) (fun v13 => bw (p_X4_nameOne r2 μ11) (fun μ14 => bw (RE (a1 + (1 : Int32)) μ14) (fun μ16 => bv (sF μ16 16 6 v13) (fun μ18 => some μ18))))))))))) := Classical.choose_spec p_X4_readNaming_ex  RE a1 μ
set_option maxHeartbeats 4000000 in
set_option maxRecDepth 100000 in
theorem t_X4_readNaming (l : Launch) (G : Gt) (ad : Nat → Nat) {fE lE : Nat} (RE : Int32 → Mem → Option Mem) (hRE : ∀ (z1 : Int32) (μ1 : Mem) (μ2 : Mem), RE z1 μ1 = some μ2 → Mt l yX4_readExpression cX4_readExpression 5 none ({ frames := fE, cells := 0, slots := 0, locals := lE } : Room) G [.ref (ad 16), .int z1] (wd 0 G ad μ1) (eV 0 G ad μ2)) (a1 : Int32) (μ : Mem) {μz : Mem} (h : p_X4_readNaming RE a1 μ = some μz) : Mt l yX4_readNaming cX4_readNaming 4 none ({ frames := fE + 2, cells := 0, slots := 0, locals := lE + 42 } : Room) G [.ref (ad 16), .int a1] (wd 0 G ad μ) (eV 0 G ad μz) := by
  refine Bk.mt (by decide) rfl (Nat.le_of_ble_eq_true rfl) ?_
  intro p e s m below meth c A ls H locs cx hr hlk hA hl hw
  have hx := cx.1
  have hb := cx.2.1
  have hl : lv_has ls 4 [(0, .ref (ad 16)), (1, .int a1)] := hl
  rw [p_X4_readNaming_eq] at h
  refine lv_aload_n hx hb dX4_readNaming_0 rfl (lv_at hl 0 rfl) ?_
  obtain ⟨r2, μ1, gr2, h⟩ := bd_some h
  refine g_callVI (As := []) (rest := []) cx hw hA (t_X4_here l G ad μ gr2) shx_16 rfl ml_X4_47 im_X4_here se_X4_here in_X4 co_X4_here rfl hd_X4_here rfl ⟨(by dsimp only; omega), (by dsimp only; omega)⟩ hl.1 rfl (Nat.le_of_ble_eq_true rfl) dX4_readNaming_1 ⟨rfl, rfl⟩ (fun H locs hw => ?_)
  refine lv_istore_n (lv' := [(2, .int r2), (0, .ref (ad 16)), (1, .int a1)]) hx hb dX4_readNaming_4 rfl hl (by decide) rfl (fun ls hl => ?_)
  refine lv_iload_n hx hb dX4_readNaming_5 rfl (lv_at hl 0 rfl) ?_
  refine s_callI (As := [.int r2]) (rest := []) cx hw hA (t_X4_isVar l G r2) ml_X4_95 st_X4_isVar in_X4 co_X4_isVar hd_X4_isVar rfl ⟨(by dsimp only; omega), (by dsimp only; omega)⟩ hl.1 rfl (Nat.le_of_ble_eq_true rfl) dX4_readNaming_6 rfl (fun H locs hw => ?_)
  refine lv_if_ne (tgt := 21) hx hb dX4_readNaming_9 (by decide) (fun c3 => ?_) (fun c3 => ?_)
  · rw [if_neg c3] at h
    refine lv_aload_n hx hb dX4_readNaming_21 rfl (lv_at hl 1 rfl) ?_
    refine lv_dup hx hb dX4_readNaming_22 rfl ?_
    refine g_get cx hw inX4 (ci := 3) rfl 2 (by decide) rfl (v := .int (μ1.1 16 2)) shx_16 rfl fl_X4_19 dX4_readNaming_23 ?_
    refine lv_iconst (v := 1) hx hb dX4_readNaming_26 (by decide) ?_
    refine lv_iadd hx hb dX4_readNaming_27 ?_
    refine g_put cx hw inX4 (ci := 3) rfl tyX4_ok nmX4 2 (by decide) rfl rfl rfl rfl shx_16 h fl_X4_19 dX4_readNaming_28 (fun μ4 H locs h hw => ?_)
    refine lv_aload_n hx hb dX4_readNaming_31 rfl (lv_at hl 1 rfl) ?_
    refine lv_bipush (v := 61) hx hb dX4_readNaming_32 (by decide) ?_
    obtain ⟨r6, μ5, gr6, h⟩ := bd_some h
    refine g_callVI (As := [.int 61]) (rest := []) cx hw hA (t_X4_take l G ad (61 : Int32) μ4 gr6) shx_16 rfl ml_X4_70 im_X4_take se_X4_take in_X4 co_X4_take rfl hd_X4_take rfl ⟨(by dsimp only; omega), (by dsimp only; omega)⟩ hl.1 rfl (Nat.le_of_ble_eq_true rfl) dX4_readNaming_34 ⟨rfl, rfl⟩ (fun H locs hw => ?_)
    refine lv_pop hx hb dX4_readNaming_37 rfl ?_
    refine lv_aload_n hx hb dX4_readNaming_38 rfl (lv_at hl 1 rfl) ?_
    refine lv_iload_n hx hb dX4_readNaming_39 rfl (lv_at hl 2 rfl) ?_
    refine lv_iconst (v := 1) hx hb dX4_readNaming_40 (by decide) ?_
    refine lv_iadd hx hb dX4_readNaming_41 ?_
    obtain ⟨μ7, gμ7, h⟩ := bw_some h
    refine g_callVV (As := [.int (a1 + (1 : Int32))]) (rest := []) cx hw hA (hRE (a1 + (1 : Int32)) μ5 _ gμ7) shx_16 rfl ml_X4_83 im_X4_readExpression se_X4_readExpression in_X4 co_X4_readExpression rfl hd_X4_readExpression rfl ⟨(by dsimp only; omega), (by dsimp only; omega)⟩ hl.1 rfl (Nat.le_of_ble_eq_true rfl) dX4_readNaming_42 ⟨rfl, rfl⟩ (fun H locs hw => ?_)
    refine lv_aload_n hx hb dX4_readNaming_45 rfl (lv_at hl 1 rfl) ?_
    refine lv_bipush (v := 44) hx hb dX4_readNaming_46 (by decide) ?_
    obtain ⟨r10, μ9, gr10, h⟩ := bd_some h
    refine g_callVI (As := [.int 44]) (rest := []) cx hw hA (t_X4_take l G ad (44 : Int32) μ7 gr10) shx_16 rfl ml_X4_70 im_X4_take se_X4_take in_X4 co_X4_take rfl hd_X4_take rfl ⟨(by dsimp only; omega), (by dsimp only; omega)⟩ hl.1 rfl (Nat.le_of_ble_eq_true rfl) dX4_readNaming_48 ⟨rfl, rfl⟩ (fun H locs hw => ?_)
    refine lv_pop hx hb dX4_readNaming_51 rfl ?_
    refine lv_aload_n hx hb dX4_readNaming_52 rfl (lv_at hl 1 rfl) ?_
    refine g_get cx hw inX4 (ci := 3) rfl 4 (by decide) rfl (v := .ref (ad (sel 2 (μ9.2.2 16 4)))) shx_16 rfl fl_X4_25 dX4_readNaming_53 ?_
    refine lv_bipush (v := 12) hx hb dX4_readNaming_56 (by decide) ?_
    refine lv_aload_n hx hb dX4_readNaming_58 rfl (lv_at hl 1 rfl) ?_
    refine g_get cx hw inX4 (ci := 3) rfl 6 (by decide) rfl (v := .int (μ9.1 16 6)) shx_16 rfl fl_X4_34 dX4_readNaming_59 ?_
    refine lv_iconst (v := 0) hx hb dX4_readNaming_62 (by decide) ?_
    obtain ⟨r12, μ11, gr12, h⟩ := bd_some h
    refine g_callVI (As := [.int 12, .int (μ9.1 16 6), .int 0]) (rest := []) cx hw hA (t_X3_add l G ad (sel 2 (μ9.2.2 16 4)) (sel_2 _) (12 : Int32) (μ9.1 16 6) (0 : Int32) μ9 gr12) (sel_2 _) rfl ml_X4_86 im_X3_add se_X3_add in_X3 co_X3_add rfl hd_X3_add rfl ⟨(by dsimp only; omega), (by dsimp only; omega)⟩ hl.1 rfl (Nat.le_of_ble_eq_true rfl) dX4_readNaming_63 ⟨rfl, rfl⟩ (fun H locs hw => ?_)
    refine lv_pop hx hb dX4_readNaming_66 rfl ?_
    refine lv_aload_n hx hb dX4_readNaming_67 rfl (lv_at hl 1 rfl) ?_
    refine g_get cx hw inX4 (ci := 3) rfl 6 (by decide) rfl (v := .int (μ11.1 16 6)) shx_16 rfl fl_X4_34 dX4_readNaming_68 ?_
    obtain ⟨v13, ev13, h⟩ := bv_ex h
    refine lv_topi (fun y9 z9 => ?_)
    obtain rfl : v13 = y9 := ev13.trans z9.symm
    refine lv_istore_n (lv' := [(3, .int v13), (2, .int r2), (0, .ref (ad 16)), (1, .int a1)]) hx hb dX4_readNaming_71 rfl hl (by decide) rfl (fun ls hl => ?_)
    refine lv_aload_n hx hb dX4_readNaming_72 rfl (lv_at hl 2 rfl) ?_
    refine lv_iload_n hx hb dX4_readNaming_73 rfl (lv_at hl 1 rfl) ?_
    obtain ⟨μ14, gμ14, h⟩ := bw_some h
    refine g_callVV (As := [.int r2]) (rest := []) cx hw hA (t_X4_nameOne l G ad r2 μ11 gμ14) shx_16 rfl ml_X4_101 im_X4_nameOne se_X4_nameOne in_X4 co_X4_nameOne rfl hd_X4_nameOne rfl ⟨(by dsimp only; omega), (by dsimp only; omega)⟩ hl.1 rfl (Nat.le_of_ble_eq_true rfl) dX4_readNaming_74 ⟨rfl, rfl⟩ (fun H locs hw => ?_)
    refine lv_aload_n hx hb dX4_readNaming_77 rfl (lv_at hl 2 rfl) ?_
    refine lv_iload_n hx hb dX4_readNaming_78 rfl (lv_at hl 3 rfl) ?_
    refine lv_iconst (v := 1) hx hb dX4_readNaming_79 (by decide) ?_
    refine lv_iadd hx hb dX4_readNaming_80 ?_
    obtain ⟨μ16, gμ16, h⟩ := bw_some h
    refine g_callVV (As := [.int (a1 + (1 : Int32))]) (rest := []) cx hw hA (hRE (a1 + (1 : Int32)) μ14 _ gμ16) shx_16 rfl ml_X4_83 im_X4_readExpression se_X4_readExpression in_X4 co_X4_readExpression rfl hd_X4_readExpression rfl ⟨(by dsimp only; omega), (by dsimp only; omega)⟩ hl.1 rfl (Nat.le_of_ble_eq_true rfl) dX4_readNaming_81 ⟨rfl, rfl⟩ (fun H locs hw => ?_)
    refine lv_aload_n hx hb dX4_readNaming_84 rfl (lv_at hl 2 rfl) ?_
    refine lv_iload_n hx hb dX4_readNaming_85 rfl (lv_at hl 0 rfl) ?_
    refine g_put cx hw inX4 (ci := 3) rfl tyX4_ok nmX4 6 (by decide) rfl rfl rfl rfl shx_16 h fl_X4_34 dX4_readNaming_86 (fun μ18 H locs h hw => ?_)
    exact g_vret cx hr hlk hw h dX4_readNaming_89
  · rw [if_pos c3] at h
    refine lv_aload_n hx hb dX4_readNaming_12 rfl (lv_at hl 1 rfl) ?_
    refine lv_aload_n hx hb dX4_readNaming_13 rfl (lv_at hl 1 rfl) ?_
    refine g_get cx hw inX4 (ci := 3) rfl 2 (by decide) rfl (v := .int (μ1.1 16 2)) shx_16 rfl fl_X4_19 dX4_readNaming_14 ?_
    obtain ⟨μ19, gμ19, h⟩ := bw_some h
    refine g_callVV (As := [.int (μ1.1 16 2)]) (rest := []) cx hw hA (t_X4_fail l G ad (μ1.1 16 2) μ1 gμ19) shx_16 rfl ml_X4_51 im_X4_fail se_X4_fail in_X4 co_X4_fail rfl hd_X4_fail rfl ⟨(by dsimp only; omega), (by dsimp only; omega)⟩ hl.1 rfl (Nat.le_of_ble_eq_true rfl) dX4_readNaming_17 ⟨rfl, rfl⟩ (fun H locs hw => ?_)
    exact g_vret cx hr hlk hw h dX4_readNaming_20

theorem p_X4_readSigned_ex : ∃ f : (Int32 → Mem → Option Mem) → Int32 → Int32 → Mem → Option Mem, ∀ (RE : Int32 → Mem → Option Mem) (a1 : Int32) (a2 : Int32) (μ : Mem), f  RE a1 a2 μ = bv (μ.1 16 2) (fun v1 => bv (sF μ 16 2 ((μ.1 16 2) + (1 : Int32))) (fun μ2 => (if a1 = (33 : Int32) then bd (p_X3_count (sel 2 (μ2.2.2 16 4)) (4 : Int32) μ2) (fun r6 μ5 => bw (RE (a2 + (1 : Int32)) μ5) (fun μ7 => bd (p_X3_add (sel 2 (μ7.2.2 16 4)) (9 : Int32) (0 : Int32) (0 : Int32) μ7) (fun r10 μ9 => some μ9))) else (if a1 = (35 : Int32) then bw (RE (a2 + (1 : Int32)) μ2) (fun μ12 => bd (p_X3_add (sel 2 (μ12.2.2 16 4)) (3 : Int32) a1 (0 : Int32) μ12) (fun r15 μ14 => some μ14)) else (if a1 = (36 : Int32) then bw (RE (a2 + (1 : Int32)) μ2) (fun μ17 => bd (p_X3_add (sel 2 (μ17.2.2 16 4)) (3 : Int32) a1 (0 : Int32) μ17) (fun r20 μ19 => some μ19)) else (if a1 = (38 : Int32) then bw (p_X4_readPlace RE a1 a2 μ2) (fun μ22 => some μ22) else (if a1 = (40 : Int32) then bw (p_X4_readReckoned RE a2 μ2) (fun μ25 => some μ25) else (if a1 = (58 : Int32) then bw (p_X4_readNaming RE a2 μ2) (fun μ28 => some μ28) else (if a1 = (63 : Int32) then bw (p_X4_readChoice RE a2 μ2) (fun μ31 => some μ31) else (if a1 = (64 : Int32) then bw (RE (a2 + (1 : Int32)) μ2) (fun μ34 => bd (p_X3_add (sel 2 (μ34.2.2 16 4)) (4 : Int32) a1 (0 : Int32) μ34) (fun r37 μ36 => some μ36)) else (if a1 = (91 : Int32) then bw (p_X4_readTwo RE a2 (93 : Int32) μ2) (fun μ39 => bd (p_X3_add (sel 2 (μ39.2.2 16 4)) (5 : Int32) (0 : Int32) (0 : Int32) μ39) (fun r42 μ41 => some μ41)) else (if a1 = (94 : Int32) then bw (RE (a2 + (1 : Int32)) μ2) (fun μ44 => bd (p_X3_add (sel 2 (μ44.2.2 16 4)) (3 : Int32) a1 (0 : Int32) μ44) (fun r47 μ46 => some μ46)) else (if a1 = (95 : Int32) then bw (p_X4_readPlace RE a1 a2 μ2) (fun μ49 => some μ49) else (if a1 = (126 : Int32) then bw (RE (a2 + (1 : Int32)) μ2) (fun μ52 => bd (p_X3_add (sel 2 (μ52.2.2 16 4)) (4 : Int32) a1 (0 : Int32) μ52) (fun r55 μ54 => some μ54)) else bw (p_X4_fail v1 μ2) (fun μ56 => some μ56))))))))))))))) := ⟨fun (RE : Int32 → Mem → Option Mem) (a1 : Int32) (a2 : Int32) (μ : Mem) => bv (μ.1 16 2) (fun v1 => bv (sF μ 16 2 ((μ.1 16 2) + (1 : Int32))) (fun μ2 => (if a1 = (33 : Int32) then bd (p_X3_count (sel 2 (μ2.2.2 16 4)) (4 : Int32) μ2) (fun r6 μ5 => bw (RE (a2 + (1 : Int32)) μ5) (fun μ7 => bd (p_X3_add (sel 2 (μ7.2.2 16 4)) (9 : Int32) (0 : Int32) (0 : Int32) μ7) (fun r10 μ9 => some μ9))) else (if a1 = (35 : Int32) then bw (RE (a2 + (1 : Int32)) μ2) (fun μ12 => bd (p_X3_add (sel 2 (μ12.2.2 16 4)) (3 : Int32) a1 (0 : Int32) μ12) (fun r15 μ14 => some μ14)) else (if a1 = (36 : Int32) then bw (RE (a2 + (1 : Int32)) μ2) (fun μ17 => bd (p_X3_add (sel 2 (μ17.2.2 16 4)) (3 : Int32) a1 (0 : Int32) μ17) (fun r20 μ19 => some μ19)) else (if a1 = (38 : Int32) then bw (p_X4_readPlace RE a1 a2 μ2) (fun μ22 => some μ22) else (if a1 = (40 : Int32) then bw (p_X4_readReckoned RE a2 μ2) (fun μ25 => some μ25) else (if a1 = (58 : Int32) then bw (p_X4_readNaming RE a2 μ2) (fun μ28 => some μ28) else (if a1 = (63 : Int32) then bw (p_X4_readChoice RE a2 μ2) (fun μ31 => some μ31) else (if a1 = (64 : Int32) then bw (RE (a2 + (1 : Int32)) μ2) (fun μ34 => bd (p_X3_add (sel 2 (μ34.2.2 16 4)) (4 : Int32) a1 (0 : Int32) μ34) (fun r37 μ36 => some μ36)) else (if a1 = (91 : Int32) then bw (p_X4_readTwo RE a2 (93 : Int32) μ2) (fun μ39 => bd (p_X3_add (sel 2 (μ39.2.2 16 4)) (5 : Int32) (0 : Int32) (0 : Int32) μ39) (fun r42 μ41 => some μ41)) else (if a1 = (94 : Int32) then bw (RE (a2 + (1 : Int32)) μ2) (fun μ44 => bd (p_X3_add (sel 2 (μ44.2.2 16 4)) (3 : Int32) a1 (0 : Int32) μ44) (fun r47 μ46 => some μ46)) else (if a1 = (95 : Int32) then bw (p_X4_readPlace RE a1 a2 μ2) (fun μ49 => some μ49) else (if a1 = (126 : Int32) then bw (RE (a2 + (1 : Int32)) μ2) (fun μ52 => bd (p_X3_add (sel 2 (μ52.2.2 16 4)) (4 : Int32) a1 (0 : Int32) μ52) (fun r55 μ54 => some μ54)) else bw (p_X4_fail v1 μ2) (fun μ56 => some μ56))))))))))))))), fun _ _ _ _ => rfl⟩
noncomputable def p_X4_readSigned : (Int32 → Mem → Option Mem) → Int32 → Int32 → Mem → Option Mem := Classical.choose p_X4_readSigned_ex
theorem p_X4_readSigned_eq (RE : Int32 → Mem → Option Mem) (a1 : Int32) (a2 : Int32) (μ : Mem) : p_X4_readSigned  RE a1 a2 μ = bv (μ.1 16 2) (fun v1 => bv (sF μ 16 2 ((μ.1 16 2) + (1 : Int32))) (fun μ2 => (if a1 = (33 : Int32) then bd (p_X3_count (sel 2 (μ2.2.2 16 4)) (4 : Int32) μ2) (fun r6 μ5 => bw (RE (a2 + (1 : Int32)) μ5) (fun μ7 => bd (p_X3_add (sel 2 (μ7.2.2 16 4)) (9 : Int32) (0 : Int32) (0 : Int32) μ7) (fun r10 μ9 => some μ9))) else (if a1 = (35 : Int32) then bw (RE (a2 + (1 : Int32)) μ2) (fun μ12 => bd (p_X3_add (sel 2 (μ12.2.2 16 4)) (3 : Int32) a1 (0 : Int32) μ12) (fun r15 μ14 => some μ14)) else (if a1 = (36 : Int32) then bw (RE (a2 + (1 : Int32)) μ2) (fun μ17 => bd (p_X3_add (sel 2 (μ17.2.2 16 4)) (3 : Int32) a1 (0 : Int32) μ17) (fun r20 μ19 => some μ19)) else (if a1 = (38 : Int32) then bw (p_X4_readPlace RE a1 a2 μ2) (fun μ22 => some μ22) else (if a1 = (40 : Int32) then bw (p_X4_readReckoned RE a2 μ2) (fun μ25 => some μ25) else (if a1 = (58 : Int32) then bw (p_X4_readNaming RE a2 μ2) (fun μ28 => some μ28) else (if a1 = (63 : Int32) then bw (p_X4_readChoice RE a2 μ2) (fun μ31 => some μ31) else (if a1 = (64 : Int32) then bw (RE (a2 + (1 : Int32)) μ2) (fun μ34 => bd (p_X3_add (sel 2 (μ34.2.2 16 4)) (4 : Int32) a1 (0 : Int32) μ34) (fun r37 μ36 => some μ36)) else (if a1 = (91 : Int32) then bw (p_X4_readTwo RE a2 (93 : Int32) μ2) (fun μ39 => bd (p_X3_add (sel 2 (μ39.2.2 16 4)) (5 : Int32) (0 : Int32) (0 : Int32) μ39) (fun r42 μ41 => some μ41)) else (if a1 = (94 : Int32) then bw (RE (a2 + (1 : Int32)) μ2) (fun μ44 => bd (p_X3_add (sel 2 (μ44.2.2 16 4)) (3 : Int32) a1 (0 : Int32) μ44) (fun r47 μ46 => some μ46)) else (if a1 = (95 : Int32) then bw (p_X4_readPlace RE a1 a2 μ2) (fun μ49 => some μ49) else (if a1 = (126 : Int32) then bw (RE (a2 + (1 : Int32)) μ2) (fun μ52 => bd (p_X3_add (sel 2 (μ52.2.2 16 4)) (4 : Int32) a1 (0 : Int32) μ52) (fun r55 μ54 => some μ54)) else bw (p_X4_fail v1 μ2) (fun μ56 => some μ56))))))))))))))) := Classical.choose_spec p_X4_readSigned_ex  RE a1 a2 μ
set_option maxHeartbeats 4000000 in
set_option maxRecDepth 100000 in
theorem t_X4_readSigned (l : Launch) (G : Gt) (ad : Nat → Nat) {fE lE : Nat} (RE : Int32 → Mem → Option Mem) (hRE : ∀ (z1 : Int32) (μ1 : Mem) (μ2 : Mem), RE z1 μ1 = some μ2 → Mt l yX4_readExpression cX4_readExpression 5 none ({ frames := fE, cells := 0, slots := 0, locals := lE } : Room) G [.ref (ad 16), .int z1] (wd 0 G ad μ1) (eV 0 G ad μ2)) (a1 : Int32) (a2 : Int32) (μ : Mem) {μz : Mem} (h : p_X4_readSigned RE a1 a2 μ = some μz) : Mt l yX4_readSigned cX4_readSigned 4 none ({ frames := fE + 3, cells := 0, slots := 0, locals := lE + 65 } : Room) G [.ref (ad 16), .int a1, .int a2] (wd 0 G ad μ) (eV 0 G ad μz) := by
  refine Bk.mt (by decide) rfl (Nat.le_of_ble_eq_true rfl) ?_
  intro p e s m below meth c A ls H locs cx hr hlk hA hl hw
  have hx := cx.1
  have hb := cx.2.1
  have hl : lv_has ls 4 [(0, .ref (ad 16)), (1, .int a1), (2, .int a2)] := hl
  rw [p_X4_readSigned_eq] at h
  refine lv_aload_n hx hb dX4_readSigned_0 rfl (lv_at hl 0 rfl) ?_
  refine g_get cx hw inX4 (ci := 3) rfl 2 (by decide) rfl (v := .int (μ.1 16 2)) shx_16 rfl fl_X4_19 dX4_readSigned_1 ?_
  obtain ⟨v1, ev1, h⟩ := bv_ex h
  refine lv_topi (fun y9 z9 => ?_)
  obtain rfl : v1 = y9 := ev1.trans z9.symm
  refine lv_istore_n (lv' := [(3, .int v1), (0, .ref (ad 16)), (1, .int a1), (2, .int a2)]) hx hb dX4_readSigned_4 rfl hl (by decide) rfl (fun ls hl => ?_)
  refine lv_aload_n hx hb dX4_readSigned_5 rfl (lv_at hl 1 rfl) ?_
  refine lv_dup hx hb dX4_readSigned_6 rfl ?_
  refine g_get cx hw inX4 (ci := 3) rfl 2 (by decide) rfl (v := .int (μ.1 16 2)) shx_16 rfl fl_X4_19 dX4_readSigned_7 ?_
  refine lv_iconst (v := 1) hx hb dX4_readSigned_10 (by decide) ?_
  refine lv_iadd hx hb dX4_readSigned_11 ?_
  refine g_put cx hw inX4 (ci := 3) rfl tyX4_ok nmX4 2 (by decide) rfl rfl rfl rfl shx_16 h fl_X4_19 dX4_readSigned_12 (fun μ2 H locs h hw => ?_)
  refine lv_iload_n hx hb dX4_readSigned_15 rfl (lv_at hl 2 rfl) ?_
  refine lv_topi (fun v3 ev3 => ?_)
  by_cases c4 : a1 = (33 : Int32)
  · rw [if_pos c4] at h
    have z9 := ev3.trans c4
    subst z9
    refine lv_lookup (tgt := 203) hx hb dX4_readSigned_16 (by decide +kernel) rfl (by decide) ?_
    refine lv_aload_n hx hb dX4_readSigned_203 rfl (lv_at hl 1 rfl) ?_
    refine g_get cx hw inX4 (ci := 3) rfl 4 (by decide) rfl (v := .ref (ad (sel 2 (μ2.2.2 16 4)))) shx_16 rfl fl_X4_25 dX4_readSigned_204 ?_
    refine lv_iconst (v := 4) hx hb dX4_readSigned_207 (by decide) ?_
    obtain ⟨r6, μ5, gr6, h⟩ := bd_some h
    refine g_callVI (As := [.int 4]) (rest := []) cx hw hA (t_X3_count l G ad (sel 2 (μ2.2.2 16 4)) (sel_2 _) (4 : Int32) μ2 gr6) (sel_2 _) rfl ml_X4_104 im_X3_count se_X3_count in_X3 co_X3_count rfl hd_X3_count rfl ⟨(by dsimp only; omega), (by dsimp only; omega)⟩ hl.1 rfl (Nat.le_of_ble_eq_true rfl) dX4_readSigned_208 ⟨rfl, rfl⟩ (fun H locs hw => ?_)
    refine lv_pop hx hb dX4_readSigned_211 rfl ?_
    refine lv_aload_n hx hb dX4_readSigned_212 rfl (lv_at hl 1 rfl) ?_
    refine lv_iload_n hx hb dX4_readSigned_213 rfl (lv_at hl 3 rfl) ?_
    refine lv_iconst (v := 1) hx hb dX4_readSigned_214 (by decide) ?_
    refine lv_iadd hx hb dX4_readSigned_215 ?_
    obtain ⟨μ7, gμ7, h⟩ := bw_some h
    refine g_callVV (As := [.int (a2 + (1 : Int32))]) (rest := []) cx hw hA (hRE (a2 + (1 : Int32)) μ5 _ gμ7) shx_16 rfl ml_X4_83 im_X4_readExpression se_X4_readExpression in_X4 co_X4_readExpression rfl hd_X4_readExpression rfl ⟨(by dsimp only; omega), (by dsimp only; omega)⟩ hl.1 rfl (Nat.le_of_ble_eq_true rfl) dX4_readSigned_216 ⟨rfl, rfl⟩ (fun H locs hw => ?_)
    refine lv_aload_n hx hb dX4_readSigned_219 rfl (lv_at hl 1 rfl) ?_
    refine g_get cx hw inX4 (ci := 3) rfl 4 (by decide) rfl (v := .ref (ad (sel 2 (μ7.2.2 16 4)))) shx_16 rfl fl_X4_25 dX4_readSigned_220 ?_
    refine lv_bipush (v := 9) hx hb dX4_readSigned_223 (by decide) ?_
    refine lv_iconst (v := 0) hx hb dX4_readSigned_225 (by decide) ?_
    refine lv_iconst (v := 0) hx hb dX4_readSigned_226 (by decide) ?_
    obtain ⟨r10, μ9, gr10, h⟩ := bd_some h
    refine g_callVI (As := [.int 9, .int 0, .int 0]) (rest := []) cx hw hA (t_X3_add l G ad (sel 2 (μ7.2.2 16 4)) (sel_2 _) (9 : Int32) (0 : Int32) (0 : Int32) μ7 gr10) (sel_2 _) rfl ml_X4_86 im_X3_add se_X3_add in_X3 co_X3_add rfl hd_X3_add rfl ⟨(by dsimp only; omega), (by dsimp only; omega)⟩ hl.1 rfl (Nat.le_of_ble_eq_true rfl) dX4_readSigned_227 ⟨rfl, rfl⟩ (fun H locs hw => ?_)
    refine lv_pop hx hb dX4_readSigned_230 rfl ?_
    refine lv_goto (tgt := 256) hx hb dX4_readSigned_231 (by decide) ?_
    exact g_vret cx hr hlk hw h dX4_readSigned_256
  rw [if_neg c4] at h
  by_cases c11 : a1 = (35 : Int32)
  · rw [if_pos c11] at h
    have z9 := ev3.trans c11
    subst z9
    refine lv_lookup (tgt := 161) hx hb dX4_readSigned_16 (by decide +kernel) rfl (by decide) ?_
    refine lv_aload_n hx hb dX4_readSigned_161 rfl (lv_at hl 1 rfl) ?_
    refine lv_iload_n hx hb dX4_readSigned_162 rfl (lv_at hl 3 rfl) ?_
    refine lv_iconst (v := 1) hx hb dX4_readSigned_163 (by decide) ?_
    refine lv_iadd hx hb dX4_readSigned_164 ?_
    obtain ⟨μ12, gμ12, h⟩ := bw_some h
    refine g_callVV (As := [.int (a2 + (1 : Int32))]) (rest := []) cx hw hA (hRE (a2 + (1 : Int32)) μ2 _ gμ12) shx_16 rfl ml_X4_83 im_X4_readExpression se_X4_readExpression in_X4 co_X4_readExpression rfl hd_X4_readExpression rfl ⟨(by dsimp only; omega), (by dsimp only; omega)⟩ hl.1 rfl (Nat.le_of_ble_eq_true rfl) dX4_readSigned_165 ⟨rfl, rfl⟩ (fun H locs hw => ?_)
    refine lv_aload_n hx hb dX4_readSigned_168 rfl (lv_at hl 1 rfl) ?_
    refine g_get cx hw inX4 (ci := 3) rfl 4 (by decide) rfl (v := .ref (ad (sel 2 (μ12.2.2 16 4)))) shx_16 rfl fl_X4_25 dX4_readSigned_169 ?_
    refine lv_iconst (v := 3) hx hb dX4_readSigned_172 (by decide) ?_
    refine lv_iload_n hx hb dX4_readSigned_173 rfl (lv_at hl 2 rfl) ?_
    refine lv_iconst (v := 0) hx hb dX4_readSigned_174 (by decide) ?_
    obtain ⟨r15, μ14, gr15, h⟩ := bd_some h
    refine g_callVI (As := [.int 3, .int a1, .int 0]) (rest := []) cx hw hA (t_X3_add l G ad (sel 2 (μ12.2.2 16 4)) (sel_2 _) (3 : Int32) a1 (0 : Int32) μ12 gr15) (sel_2 _) rfl ml_X4_86 im_X3_add se_X3_add in_X3 co_X3_add rfl hd_X3_add rfl ⟨(by dsimp only; omega), (by dsimp only; omega)⟩ hl.1 rfl (Nat.le_of_ble_eq_true rfl) dX4_readSigned_175 ⟨rfl, rfl⟩ (fun H locs hw => ?_)
    refine lv_pop hx hb dX4_readSigned_178 rfl ?_
    refine lv_goto (tgt := 256) hx hb dX4_readSigned_179 (by decide) ?_
    exact g_vret cx hr hlk hw h dX4_readSigned_256
  rw [if_neg c11] at h
  by_cases c16 : a1 = (36 : Int32)
  · rw [if_pos c16] at h
    have z9 := ev3.trans c16
    subst z9
    refine lv_lookup (tgt := 161) hx hb dX4_readSigned_16 (by decide +kernel) rfl (by decide) ?_
    refine lv_aload_n hx hb dX4_readSigned_161 rfl (lv_at hl 1 rfl) ?_
    refine lv_iload_n hx hb dX4_readSigned_162 rfl (lv_at hl 3 rfl) ?_
    refine lv_iconst (v := 1) hx hb dX4_readSigned_163 (by decide) ?_
    refine lv_iadd hx hb dX4_readSigned_164 ?_
    obtain ⟨μ17, gμ17, h⟩ := bw_some h
    refine g_callVV (As := [.int (a2 + (1 : Int32))]) (rest := []) cx hw hA (hRE (a2 + (1 : Int32)) μ2 _ gμ17) shx_16 rfl ml_X4_83 im_X4_readExpression se_X4_readExpression in_X4 co_X4_readExpression rfl hd_X4_readExpression rfl ⟨(by dsimp only; omega), (by dsimp only; omega)⟩ hl.1 rfl (Nat.le_of_ble_eq_true rfl) dX4_readSigned_165 ⟨rfl, rfl⟩ (fun H locs hw => ?_)
    refine lv_aload_n hx hb dX4_readSigned_168 rfl (lv_at hl 1 rfl) ?_
    refine g_get cx hw inX4 (ci := 3) rfl 4 (by decide) rfl (v := .ref (ad (sel 2 (μ17.2.2 16 4)))) shx_16 rfl fl_X4_25 dX4_readSigned_169 ?_
    refine lv_iconst (v := 3) hx hb dX4_readSigned_172 (by decide) ?_
    refine lv_iload_n hx hb dX4_readSigned_173 rfl (lv_at hl 2 rfl) ?_
    refine lv_iconst (v := 0) hx hb dX4_readSigned_174 (by decide) ?_
    obtain ⟨r20, μ19, gr20, h⟩ := bd_some h
    refine g_callVI (As := [.int 3, .int a1, .int 0]) (rest := []) cx hw hA (t_X3_add l G ad (sel 2 (μ17.2.2 16 4)) (sel_2 _) (3 : Int32) a1 (0 : Int32) μ17 gr20) (sel_2 _) rfl ml_X4_86 im_X3_add se_X3_add in_X3 co_X3_add rfl hd_X3_add rfl ⟨(by dsimp only; omega), (by dsimp only; omega)⟩ hl.1 rfl (Nat.le_of_ble_eq_true rfl) dX4_readSigned_175 ⟨rfl, rfl⟩ (fun H locs hw => ?_)
    refine lv_pop hx hb dX4_readSigned_178 rfl ?_
    refine lv_goto (tgt := 256) hx hb dX4_readSigned_179 (by decide) ?_
    exact g_vret cx hr hlk hw h dX4_readSigned_256
  rw [if_neg c16] at h
  by_cases c21 : a1 = (38 : Int32)
  · rw [if_pos c21] at h
    have z9 := ev3.trans c21
    subst z9
    refine lv_lookup (tgt := 234) hx hb dX4_readSigned_16 (by decide +kernel) rfl (by decide) ?_
    refine lv_aload_n hx hb dX4_readSigned_234 rfl (lv_at hl 1 rfl) ?_
    refine lv_iload_n hx hb dX4_readSigned_235 rfl (lv_at hl 2 rfl) ?_
    refine lv_iload_n hx hb dX4_readSigned_236 rfl (lv_at hl 3 rfl) ?_
    obtain ⟨μ22, gμ22, h⟩ := bw_some h
    refine g_callVV (As := [.int a1, .int a2]) (rest := []) cx hw hA (t_X4_readPlace l G ad RE hRE a1 a2 μ2 gμ22) shx_16 rfl ml_X4_155 im_X4_readPlace se_X4_readPlace in_X4 co_X4_readPlace rfl hd_X4_readPlace rfl ⟨(by dsimp only; omega), (by dsimp only; omega)⟩ hl.1 rfl (Nat.le_of_ble_eq_true rfl) dX4_readSigned_237 ⟨rfl, rfl⟩ (fun H locs hw => ?_)
    refine lv_goto (tgt := 256) hx hb dX4_readSigned_240 (by decide) ?_
    exact g_vret cx hr hlk hw h dX4_readSigned_256
  rw [if_neg c21] at h
  by_cases c24 : a1 = (40 : Int32)
  · rw [if_pos c24] at h
    have z9 := ev3.trans c24
    subst z9
    refine lv_lookup (tgt := 124) hx hb dX4_readSigned_16 (by decide +kernel) rfl (by decide) ?_
    refine lv_aload_n hx hb dX4_readSigned_124 rfl (lv_at hl 1 rfl) ?_
    refine lv_iload_n hx hb dX4_readSigned_125 rfl (lv_at hl 3 rfl) ?_
    obtain ⟨μ25, gμ25, h⟩ := bw_some h
    refine g_callVV (As := [.int a2]) (rest := []) cx hw hA (t_X4_readReckoned l G ad RE hRE a2 μ2 gμ25) shx_16 rfl ml_X4_146 im_X4_readReckoned se_X4_readReckoned in_X4 co_X4_readReckoned rfl hd_X4_readReckoned rfl ⟨(by dsimp only; omega), (by dsimp only; omega)⟩ hl.1 rfl (Nat.le_of_ble_eq_true rfl) dX4_readSigned_126 ⟨rfl, rfl⟩ (fun H locs hw => ?_)
    refine lv_goto (tgt := 256) hx hb dX4_readSigned_129 (by decide) ?_
    exact g_vret cx hr hlk hw h dX4_readSigned_256
  rw [if_neg c24] at h
  by_cases c27 : a1 = (58 : Int32)
  · rw [if_pos c27] at h
    have z9 := ev3.trans c27
    subst z9
    refine lv_lookup (tgt := 243) hx hb dX4_readSigned_16 (by decide +kernel) rfl (by decide) ?_
    refine lv_aload_n hx hb dX4_readSigned_243 rfl (lv_at hl 1 rfl) ?_
    refine lv_iload_n hx hb dX4_readSigned_244 rfl (lv_at hl 3 rfl) ?_
    obtain ⟨μ28, gμ28, h⟩ := bw_some h
    refine g_callVV (As := [.int a2]) (rest := []) cx hw hA (t_X4_readNaming l G ad RE hRE a2 μ2 gμ28) shx_16 rfl ml_X4_158 im_X4_readNaming se_X4_readNaming in_X4 co_X4_readNaming rfl hd_X4_readNaming rfl ⟨(by dsimp only; omega), (by dsimp only; omega)⟩ hl.1 rfl (Nat.le_of_ble_eq_true rfl) dX4_readSigned_245 ⟨rfl, rfl⟩ (fun H locs hw => ?_)
    refine lv_goto (tgt := 256) hx hb dX4_readSigned_248 (by decide) ?_
    exact g_vret cx hr hlk hw h dX4_readSigned_256
  rw [if_neg c27] at h
  by_cases c30 : a1 = (63 : Int32)
  · rw [if_pos c30] at h
    have z9 := ev3.trans c30
    subst z9
    refine lv_lookup (tgt := 153) hx hb dX4_readSigned_16 (by decide +kernel) rfl (by decide) ?_
    refine lv_aload_n hx hb dX4_readSigned_153 rfl (lv_at hl 1 rfl) ?_
    refine lv_iload_n hx hb dX4_readSigned_154 rfl (lv_at hl 3 rfl) ?_
    obtain ⟨μ31, gμ31, h⟩ := bw_some h
    refine g_callVV (As := [.int a2]) (rest := []) cx hw hA (t_X4_readChoice l G ad RE hRE a2 μ2 gμ31) shx_16 rfl ml_X4_152 im_X4_readChoice se_X4_readChoice in_X4 co_X4_readChoice rfl hd_X4_readChoice rfl ⟨(by dsimp only; omega), (by dsimp only; omega)⟩ hl.1 rfl (Nat.le_of_ble_eq_true rfl) dX4_readSigned_155 ⟨rfl, rfl⟩ (fun H locs hw => ?_)
    refine lv_goto (tgt := 256) hx hb dX4_readSigned_158 (by decide) ?_
    exact g_vret cx hr hlk hw h dX4_readSigned_256
  rw [if_neg c30] at h
  by_cases c33 : a1 = (64 : Int32)
  · rw [if_pos c33] at h
    have z9 := ev3.trans c33
    subst z9
    refine lv_lookup (tgt := 182) hx hb dX4_readSigned_16 (by decide +kernel) rfl (by decide) ?_
    refine lv_aload_n hx hb dX4_readSigned_182 rfl (lv_at hl 1 rfl) ?_
    refine lv_iload_n hx hb dX4_readSigned_183 rfl (lv_at hl 3 rfl) ?_
    refine lv_iconst (v := 1) hx hb dX4_readSigned_184 (by decide) ?_
    refine lv_iadd hx hb dX4_readSigned_185 ?_
    obtain ⟨μ34, gμ34, h⟩ := bw_some h
    refine g_callVV (As := [.int (a2 + (1 : Int32))]) (rest := []) cx hw hA (hRE (a2 + (1 : Int32)) μ2 _ gμ34) shx_16 rfl ml_X4_83 im_X4_readExpression se_X4_readExpression in_X4 co_X4_readExpression rfl hd_X4_readExpression rfl ⟨(by dsimp only; omega), (by dsimp only; omega)⟩ hl.1 rfl (Nat.le_of_ble_eq_true rfl) dX4_readSigned_186 ⟨rfl, rfl⟩ (fun H locs hw => ?_)
    refine lv_aload_n hx hb dX4_readSigned_189 rfl (lv_at hl 1 rfl) ?_
    refine g_get cx hw inX4 (ci := 3) rfl 4 (by decide) rfl (v := .ref (ad (sel 2 (μ34.2.2 16 4)))) shx_16 rfl fl_X4_25 dX4_readSigned_190 ?_
    refine lv_iconst (v := 4) hx hb dX4_readSigned_193 (by decide) ?_
    refine lv_iload_n hx hb dX4_readSigned_194 rfl (lv_at hl 2 rfl) ?_
    refine lv_iconst (v := 0) hx hb dX4_readSigned_195 (by decide) ?_
    obtain ⟨r37, μ36, gr37, h⟩ := bd_some h
    refine g_callVI (As := [.int 4, .int a1, .int 0]) (rest := []) cx hw hA (t_X3_add l G ad (sel 2 (μ34.2.2 16 4)) (sel_2 _) (4 : Int32) a1 (0 : Int32) μ34 gr37) (sel_2 _) rfl ml_X4_86 im_X3_add se_X3_add in_X3 co_X3_add rfl hd_X3_add rfl ⟨(by dsimp only; omega), (by dsimp only; omega)⟩ hl.1 rfl (Nat.le_of_ble_eq_true rfl) dX4_readSigned_196 ⟨rfl, rfl⟩ (fun H locs hw => ?_)
    refine lv_pop hx hb dX4_readSigned_199 rfl ?_
    refine lv_goto (tgt := 256) hx hb dX4_readSigned_200 (by decide) ?_
    exact g_vret cx hr hlk hw h dX4_readSigned_256
  rw [if_neg c33] at h
  by_cases c38 : a1 = (91 : Int32)
  · rw [if_pos c38] at h
    have z9 := ev3.trans c38
    subst z9
    refine lv_lookup (tgt := 132) hx hb dX4_readSigned_16 (by decide +kernel) rfl (by decide) ?_
    refine lv_aload_n hx hb dX4_readSigned_132 rfl (lv_at hl 1 rfl) ?_
    refine lv_iload_n hx hb dX4_readSigned_133 rfl (lv_at hl 3 rfl) ?_
    refine lv_bipush (v := 93) hx hb dX4_readSigned_134 (by decide) ?_
    obtain ⟨μ39, gμ39, h⟩ := bw_some h
    refine g_callVV (As := [.int a2, .int 93]) (rest := []) cx hw hA (t_X4_readTwo l G ad RE hRE a2 (93 : Int32) μ2 gμ39) shx_16 rfl ml_X4_149 im_X4_readTwo se_X4_readTwo in_X4 co_X4_readTwo rfl hd_X4_readTwo rfl ⟨(by dsimp only; omega), (by dsimp only; omega)⟩ hl.1 rfl (Nat.le_of_ble_eq_true rfl) dX4_readSigned_136 ⟨rfl, rfl⟩ (fun H locs hw => ?_)
    refine lv_aload_n hx hb dX4_readSigned_139 rfl (lv_at hl 1 rfl) ?_
    refine g_get cx hw inX4 (ci := 3) rfl 4 (by decide) rfl (v := .ref (ad (sel 2 (μ39.2.2 16 4)))) shx_16 rfl fl_X4_25 dX4_readSigned_140 ?_
    refine lv_iconst (v := 5) hx hb dX4_readSigned_143 (by decide) ?_
    refine lv_iconst (v := 0) hx hb dX4_readSigned_144 (by decide) ?_
    refine lv_iconst (v := 0) hx hb dX4_readSigned_145 (by decide) ?_
    obtain ⟨r42, μ41, gr42, h⟩ := bd_some h
    refine g_callVI (As := [.int 5, .int 0, .int 0]) (rest := []) cx hw hA (t_X3_add l G ad (sel 2 (μ39.2.2 16 4)) (sel_2 _) (5 : Int32) (0 : Int32) (0 : Int32) μ39 gr42) (sel_2 _) rfl ml_X4_86 im_X3_add se_X3_add in_X3 co_X3_add rfl hd_X3_add rfl ⟨(by dsimp only; omega), (by dsimp only; omega)⟩ hl.1 rfl (Nat.le_of_ble_eq_true rfl) dX4_readSigned_146 ⟨rfl, rfl⟩ (fun H locs hw => ?_)
    refine lv_pop hx hb dX4_readSigned_149 rfl ?_
    refine lv_goto (tgt := 256) hx hb dX4_readSigned_150 (by decide) ?_
    exact g_vret cx hr hlk hw h dX4_readSigned_256
  rw [if_neg c38] at h
  by_cases c43 : a1 = (94 : Int32)
  · rw [if_pos c43] at h
    have z9 := ev3.trans c43
    subst z9
    refine lv_lookup (tgt := 161) hx hb dX4_readSigned_16 (by decide +kernel) rfl (by decide) ?_
    refine lv_aload_n hx hb dX4_readSigned_161 rfl (lv_at hl 1 rfl) ?_
    refine lv_iload_n hx hb dX4_readSigned_162 rfl (lv_at hl 3 rfl) ?_
    refine lv_iconst (v := 1) hx hb dX4_readSigned_163 (by decide) ?_
    refine lv_iadd hx hb dX4_readSigned_164 ?_
    obtain ⟨μ44, gμ44, h⟩ := bw_some h
    refine g_callVV (As := [.int (a2 + (1 : Int32))]) (rest := []) cx hw hA (hRE (a2 + (1 : Int32)) μ2 _ gμ44) shx_16 rfl ml_X4_83 im_X4_readExpression se_X4_readExpression in_X4 co_X4_readExpression rfl hd_X4_readExpression rfl ⟨(by dsimp only; omega), (by dsimp only; omega)⟩ hl.1 rfl (Nat.le_of_ble_eq_true rfl) dX4_readSigned_165 ⟨rfl, rfl⟩ (fun H locs hw => ?_)
    refine lv_aload_n hx hb dX4_readSigned_168 rfl (lv_at hl 1 rfl) ?_
    refine g_get cx hw inX4 (ci := 3) rfl 4 (by decide) rfl (v := .ref (ad (sel 2 (μ44.2.2 16 4)))) shx_16 rfl fl_X4_25 dX4_readSigned_169 ?_
    refine lv_iconst (v := 3) hx hb dX4_readSigned_172 (by decide) ?_
    refine lv_iload_n hx hb dX4_readSigned_173 rfl (lv_at hl 2 rfl) ?_
    refine lv_iconst (v := 0) hx hb dX4_readSigned_174 (by decide) ?_
    obtain ⟨r47, μ46, gr47, h⟩ := bd_some h
    refine g_callVI (As := [.int 3, .int a1, .int 0]) (rest := []) cx hw hA (t_X3_add l G ad (sel 2 (μ44.2.2 16 4)) (sel_2 _) (3 : Int32) a1 (0 : Int32) μ44 gr47) (sel_2 _) rfl ml_X4_86 im_X3_add se_X3_add in_X3 co_X3_add rfl hd_X3_add rfl ⟨(by dsimp only; omega), (by dsimp only; omega)⟩ hl.1 rfl (Nat.le_of_ble_eq_true rfl) dX4_readSigned_175 ⟨rfl, rfl⟩ (fun H locs hw => ?_)
    refine lv_pop hx hb dX4_readSigned_178 rfl ?_
    refine lv_goto (tgt := 256) hx hb dX4_readSigned_179 (by decide) ?_
    exact g_vret cx hr hlk hw h dX4_readSigned_256
  rw [if_neg c43] at h
  by_cases c48 : a1 = (95 : Int32)
  · rw [if_pos c48] at h
    have z9 := ev3.trans c48
    subst z9
    refine lv_lookup (tgt := 234) hx hb dX4_readSigned_16 (by decide +kernel) rfl (by decide) ?_
    refine lv_aload_n hx hb dX4_readSigned_234 rfl (lv_at hl 1 rfl) ?_
    refine lv_iload_n hx hb dX4_readSigned_235 rfl (lv_at hl 2 rfl) ?_
    refine lv_iload_n hx hb dX4_readSigned_236 rfl (lv_at hl 3 rfl) ?_
    obtain ⟨μ49, gμ49, h⟩ := bw_some h
    refine g_callVV (As := [.int a1, .int a2]) (rest := []) cx hw hA (t_X4_readPlace l G ad RE hRE a1 a2 μ2 gμ49) shx_16 rfl ml_X4_155 im_X4_readPlace se_X4_readPlace in_X4 co_X4_readPlace rfl hd_X4_readPlace rfl ⟨(by dsimp only; omega), (by dsimp only; omega)⟩ hl.1 rfl (Nat.le_of_ble_eq_true rfl) dX4_readSigned_237 ⟨rfl, rfl⟩ (fun H locs hw => ?_)
    refine lv_goto (tgt := 256) hx hb dX4_readSigned_240 (by decide) ?_
    exact g_vret cx hr hlk hw h dX4_readSigned_256
  rw [if_neg c48] at h
  by_cases c51 : a1 = (126 : Int32)
  · rw [if_pos c51] at h
    have z9 := ev3.trans c51
    subst z9
    refine lv_lookup (tgt := 182) hx hb dX4_readSigned_16 (by decide +kernel) rfl (by decide) ?_
    refine lv_aload_n hx hb dX4_readSigned_182 rfl (lv_at hl 1 rfl) ?_
    refine lv_iload_n hx hb dX4_readSigned_183 rfl (lv_at hl 3 rfl) ?_
    refine lv_iconst (v := 1) hx hb dX4_readSigned_184 (by decide) ?_
    refine lv_iadd hx hb dX4_readSigned_185 ?_
    obtain ⟨μ52, gμ52, h⟩ := bw_some h
    refine g_callVV (As := [.int (a2 + (1 : Int32))]) (rest := []) cx hw hA (hRE (a2 + (1 : Int32)) μ2 _ gμ52) shx_16 rfl ml_X4_83 im_X4_readExpression se_X4_readExpression in_X4 co_X4_readExpression rfl hd_X4_readExpression rfl ⟨(by dsimp only; omega), (by dsimp only; omega)⟩ hl.1 rfl (Nat.le_of_ble_eq_true rfl) dX4_readSigned_186 ⟨rfl, rfl⟩ (fun H locs hw => ?_)
    refine lv_aload_n hx hb dX4_readSigned_189 rfl (lv_at hl 1 rfl) ?_
    refine g_get cx hw inX4 (ci := 3) rfl 4 (by decide) rfl (v := .ref (ad (sel 2 (μ52.2.2 16 4)))) shx_16 rfl fl_X4_25 dX4_readSigned_190 ?_
    refine lv_iconst (v := 4) hx hb dX4_readSigned_193 (by decide) ?_
    refine lv_iload_n hx hb dX4_readSigned_194 rfl (lv_at hl 2 rfl) ?_
    refine lv_iconst (v := 0) hx hb dX4_readSigned_195 (by decide) ?_
    obtain ⟨r55, μ54, gr55, h⟩ := bd_some h
    refine g_callVI (As := [.int 4, .int a1, .int 0]) (rest := []) cx hw hA (t_X3_add l G ad (sel 2 (μ52.2.2 16 4)) (sel_2 _) (4 : Int32) a1 (0 : Int32) μ52 gr55) (sel_2 _) rfl ml_X4_86 im_X3_add se_X3_add in_X3 co_X3_add rfl hd_X3_add rfl ⟨(by dsimp only; omega), (by dsimp only; omega)⟩ hl.1 rfl (Nat.le_of_ble_eq_true rfl) dX4_readSigned_196 ⟨rfl, rfl⟩ (fun H locs hw => ?_)
    refine lv_pop hx hb dX4_readSigned_199 rfl ?_
    refine lv_goto (tgt := 256) hx hb dX4_readSigned_200 (by decide) ?_
    exact g_vret cx hr hlk hw h dX4_readSigned_256
  rw [if_neg c51] at h
  rw [ev3]
  refine lv_lookup (tgt := 251) hx hb dX4_readSigned_16 (by decide +kernel) (off := 235) (by simp [Op.lookupswitch.offset, sw_nq (33) (by decide) c4, sw_nq (35) (by decide) c11, sw_nq (36) (by decide) c16, sw_nq (38) (by decide) c21, sw_nq (40) (by decide) c24, sw_nq (58) (by decide) c27, sw_nq (63) (by decide) c30, sw_nq (64) (by decide) c33, sw_nq (91) (by decide) c38, sw_nq (94) (by decide) c43, sw_nq (95) (by decide) c48, sw_nq (126) (by decide) c51]) (by decide) ?_
  refine lv_aload_n hx hb dX4_readSigned_251 rfl (lv_at hl 1 rfl) ?_
  refine lv_iload_n hx hb dX4_readSigned_252 rfl (lv_at hl 0 rfl) ?_
  obtain ⟨μ56, gμ56, h⟩ := bw_some h
  refine g_callVV (As := [.int v1]) (rest := []) cx hw hA (t_X4_fail l G ad v1 μ2 gμ56) shx_16 rfl ml_X4_51 im_X4_fail se_X4_fail in_X4 co_X4_fail rfl hd_X4_fail rfl ⟨(by dsimp only; omega), (by dsimp only; omega)⟩ hl.1 rfl (Nat.le_of_ble_eq_true rfl) dX4_readSigned_253 ⟨rfl, rfl⟩ (fun H locs hw => ?_)
  exact g_vret cx hr hlk hw h dX4_readSigned_256

theorem p_X4_readExpression_ex : ∃ f : (Int32 → Mem → Option Mem) → Int32 → Mem → Option Mem, ∀ (RE : Int32 → Mem → Option Mem) (a1 : Int32) (μ : Mem), f  RE a1 μ = bd (p_X4_isWell μ) (fun r2 μ1 => (if r2 = (0 : Int32) then some μ1 else bd (p_X4_here μ1) (fun r5 μ4 => (if (20 : Int32) ≤ a1 then bw (p_X4_fail (μ4.1 16 2) μ4) (fun μ7 => some μ7) else bd (p_X3_count (sel 2 (μ4.2.2 16 4)) (2 : Int32) μ4) (fun r10 μ9 => (if r10 ≤ (80 : Int32) then (if (s_X4_isNumber r5) = (0 : Int32) then (if (s_X4_isVar r5) = (0 : Int32) then (if (s_X4_isLetter r5) = (0 : Int32) then bw (p_X4_readSigned RE r5 a1 μ9) (fun μ15 => some μ15) else bw (p_X4_readCall RE r5 a1 μ9) (fun μ17 => some μ17)) else bw (p_X4_readVar r5 μ9) (fun μ19 => some μ19)) else bd (p_X4_readNumber μ9) (fun r22 μ21 => bd (p_X3_add (sel 2 (μ21.2.2 16 4)) (0 : Int32) (s_X0_kind r22) (s_X0_bits r22) μ21) (fun r24 μ23 => some μ23))) else bw (p_X4_fail (μ9.1 16 2) μ9) (fun μ25 => some μ25))))))) := ⟨fun (RE : Int32 → Mem → Option Mem) (a1 : Int32) (μ : Mem) => bd (p_X4_isWell μ) (fun r2 μ1 => (if r2 = (0 : Int32) then some μ1 else bd (p_X4_here μ1) (fun r5 μ4 => (if (20 : Int32) ≤ a1 then bw (p_X4_fail (μ4.1 16 2) μ4) (fun μ7 => some μ7) else bd (p_X3_count (sel 2 (μ4.2.2 16 4)) (2 : Int32) μ4) (fun r10 μ9 => (if r10 ≤ (80 : Int32) then (if (s_X4_isNumber r5) = (0 : Int32) then (if (s_X4_isVar r5) = (0 : Int32) then (if (s_X4_isLetter r5) = (0 : Int32) then bw (p_X4_readSigned RE r5 a1 μ9) (fun μ15 => some μ15) else bw (p_X4_readCall RE r5 a1 μ9) (fun μ17 => some μ17)) else bw (p_X4_readVar r5 μ9) (fun μ19 => some μ19)) else bd (p_X4_readNumber μ9) (fun r22 μ21 => bd (p_X3_add (sel 2 (μ21.2.2 16 4)) (0 : Int32) (s_X0_kind r22) (s_X0_bits r22) μ21) (fun r24 μ23 => some μ23))) else bw (p_X4_fail (μ9.1 16 2) μ9) (fun μ25 => some μ25))))))), fun _ _ _ => rfl⟩
noncomputable def p_X4_readExpression : (Int32 → Mem → Option Mem) → Int32 → Mem → Option Mem := Classical.choose p_X4_readExpression_ex
theorem p_X4_readExpression_eq (RE : Int32 → Mem → Option Mem) (a1 : Int32) (μ : Mem) : p_X4_readExpression  RE a1 μ = bd (p_X4_isWell μ) (fun r2 μ1 => (if r2 = (0 : Int32) then some μ1 else bd (p_X4_here μ1) (fun r5 μ4 => (if (20 : Int32) ≤ a1 then bw (p_X4_fail (μ4.1 16 2) μ4) (fun μ7 => some μ7) else bd (p_X3_count (sel 2 (μ4.2.2 16 4)) (2 : Int32) μ4) (fun r10 μ9 => (if r10 ≤ (80 : Int32) then (if (s_X4_isNumber r5) = (0 : Int32) then (if (s_X4_isVar r5) = (0 : Int32) then (if (s_X4_isLetter r5) = (0 : Int32) then bw (p_X4_readSigned RE r5 a1 μ9) (fun μ15 => some μ15) else bw (p_X4_readCall RE r5 a1 μ9) (fun μ17 => some μ17)) else bw (p_X4_readVar r5 μ9) (fun μ19 => some μ19)) else bd (p_X4_readNumber μ9) (fun r22 μ21 => bd (p_X3_add (sel 2 (μ21.2.2 16 4)) (0 : Int32) (s_X0_kind r22) (s_X0_bits r22) μ21) (fun r24 μ23 => some μ23))) else bw (p_X4_fail (μ9.1 16 2) μ9) (fun μ25 => some μ25))))))) := Classical.choose_spec p_X4_readExpression_ex  RE a1 μ
set_option maxHeartbeats 4000000 in
set_option maxRecDepth 100000 in
theorem t_X4_readExpression (l : Launch) (G : Gt) (ad : Nat → Nat) {fE lE : Nat} (RE : Int32 → Mem → Option Mem) (hRE : ∀ (z1 : Int32) (μ1 : Mem) (μ2 : Mem), RE z1 μ1 = some μ2 → Mt l yX4_readExpression cX4_readExpression 5 none ({ frames := fE, cells := 0, slots := 0, locals := lE } : Room) G [.ref (ad 16), .int z1] (wd 0 G ad μ1) (eV 0 G ad μ2)) (a1 : Int32) (μ : Mem) {μz : Mem} (h : p_X4_readExpression RE a1 μ = some μz) : Mt l yX4_readExpression cX4_readExpression 5 none ({ frames := fE + 5, cells := 0, slots := 0, locals := lE + 134 } : Room) G [.ref (ad 16), .int a1] (wd 0 G ad μ) (eV 0 G ad μz) := by
  refine Bk.mt (by decide) rfl (Nat.le_of_ble_eq_true rfl) ?_
  intro p e s m below meth c A ls H locs cx hr hlk hA hl hw
  have hx := cx.1
  have hb := cx.2.1
  have hl : lv_has ls 5 [(0, .ref (ad 16)), (1, .int a1)] := hl
  rw [p_X4_readExpression_eq] at h
  refine lv_aload_n hx hb dX4_readExpression_0 rfl (lv_at hl 0 rfl) ?_
  obtain ⟨r2, μ1, gr2, h⟩ := bd_some h
  refine g_callVI (As := []) (rest := []) cx hw hA (t_X4_isWell l G ad μ gr2) shx_16 rfl ml_X4_43 im_X4_isWell se_X4_isWell in_X4 co_X4_isWell rfl hd_X4_isWell rfl ⟨(by dsimp only; omega), (by dsimp only; omega)⟩ hl.1 rfl (Nat.le_of_ble_eq_true rfl) dX4_readExpression_1 ⟨rfl, rfl⟩ (fun H locs hw => ?_)
  refine lv_if_ne (tgt := 8) hx hb dX4_readExpression_4 (by decide) (fun c3 => ?_) (fun c3 => ?_)
  · rw [if_neg c3] at h
    refine lv_aload_n hx hb dX4_readExpression_8 rfl (lv_at hl 0 rfl) ?_
    obtain ⟨r5, μ4, gr5, h⟩ := bd_some h
    refine g_callVI (As := []) (rest := []) cx hw hA (t_X4_here l G ad μ1 gr5) shx_16 rfl ml_X4_47 im_X4_here se_X4_here in_X4 co_X4_here rfl hd_X4_here rfl ⟨(by dsimp only; omega), (by dsimp only; omega)⟩ hl.1 rfl (Nat.le_of_ble_eq_true rfl) dX4_readExpression_9 ⟨rfl, rfl⟩ (fun H locs hw => ?_)
    refine lv_istore_n (lv' := [(2, .int r5), (0, .ref (ad 16)), (1, .int a1)]) hx hb dX4_readExpression_12 rfl hl (by decide) rfl (fun ls hl => ?_)
    refine lv_iload_n hx hb dX4_readExpression_13 rfl (lv_at hl 2 rfl) ?_
    refine lv_bipush (v := 20) hx hb dX4_readExpression_14 (by decide) ?_
    refine lv_icmp_ge (tgt := 32) hx hb dX4_readExpression_16 (by decide) (fun c6 => ?_) (fun c6 => ?_)
    · rw [if_pos c6] at h
      refine lv_aload_n hx hb dX4_readExpression_32 rfl (lv_at hl 1 rfl) ?_
      refine lv_aload_n hx hb dX4_readExpression_33 rfl (lv_at hl 1 rfl) ?_
      refine g_get cx hw inX4 (ci := 3) rfl 2 (by decide) rfl (v := .int (μ4.1 16 2)) shx_16 rfl fl_X4_19 dX4_readExpression_34 ?_
      obtain ⟨μ7, gμ7, h⟩ := bw_some h
      refine g_callVV (As := [.int (μ4.1 16 2)]) (rest := []) cx hw hA (t_X4_fail l G ad (μ4.1 16 2) μ4 gμ7) shx_16 rfl ml_X4_51 im_X4_fail se_X4_fail in_X4 co_X4_fail rfl hd_X4_fail rfl ⟨(by dsimp only; omega), (by dsimp only; omega)⟩ hl.1 rfl (Nat.le_of_ble_eq_true rfl) dX4_readExpression_37 ⟨rfl, rfl⟩ (fun H locs hw => ?_)
      refine lv_goto (tgt := 112) hx hb dX4_readExpression_40 (by decide) ?_
      exact g_vret cx hr hlk hw h dX4_readExpression_112
    · rw [if_neg c6] at h
      refine lv_aload_n hx hb dX4_readExpression_19 rfl (lv_at hl 1 rfl) ?_
      refine g_get cx hw inX4 (ci := 3) rfl 4 (by decide) rfl (v := .ref (ad (sel 2 (μ4.2.2 16 4)))) shx_16 rfl fl_X4_25 dX4_readExpression_20 ?_
      refine lv_iconst (v := 2) hx hb dX4_readExpression_23 (by decide) ?_
      obtain ⟨r10, μ9, gr10, h⟩ := bd_some h
      refine g_callVI (As := [.int 2]) (rest := []) cx hw hA (t_X3_count l G ad (sel 2 (μ4.2.2 16 4)) (sel_2 _) (2 : Int32) μ4 gr10) (sel_2 _) rfl ml_X4_104 im_X3_count se_X3_count in_X3 co_X3_count rfl hd_X3_count rfl ⟨(by dsimp only; omega), (by dsimp only; omega)⟩ hl.1 rfl (Nat.le_of_ble_eq_true rfl) dX4_readExpression_24 ⟨rfl, rfl⟩ (fun H locs hw => ?_)
      refine lv_bipush (v := 80) hx hb dX4_readExpression_27 (by decide) ?_
      refine lv_icmp_le (tgt := 43) hx hb dX4_readExpression_29 (by decide) (fun c11 => ?_) (fun c11 => ?_)
      · rw [if_pos c11] at h
        refine lv_iload_n hx hb dX4_readExpression_43 rfl (lv_at hl 0 rfl) ?_
        refine s_callI (As := [.int r5]) (rest := []) cx hw hA (t_X4_isNumber l G r5) ml_X4_107 st_X4_isNumber in_X4 co_X4_isNumber hd_X4_isNumber rfl ⟨(by dsimp only; omega), (by dsimp only; omega)⟩ hl.1 rfl (Nat.le_of_ble_eq_true rfl) dX4_readExpression_44 rfl (fun H locs hw => ?_)
        refine lv_if_eq (tgt := 75) hx hb dX4_readExpression_47 (by decide) (fun c12 => ?_) (fun c12 => ?_)
        · rw [if_pos c12] at h
          refine lv_iload_n hx hb dX4_readExpression_75 rfl (lv_at hl 0 rfl) ?_
          refine s_callI (As := [.int r5]) (rest := []) cx hw hA (t_X4_isVar l G r5) ml_X4_95 st_X4_isVar in_X4 co_X4_isVar hd_X4_isVar rfl ⟨(by dsimp only; omega), (by dsimp only; omega)⟩ hl.1 rfl (Nat.le_of_ble_eq_true rfl) dX4_readExpression_76 rfl (fun H locs hw => ?_)
          refine lv_if_eq (tgt := 90) hx hb dX4_readExpression_79 (by decide) (fun c13 => ?_) (fun c13 => ?_)
          · rw [if_pos c13] at h
            refine lv_iload_n hx hb dX4_readExpression_90 rfl (lv_at hl 0 rfl) ?_
            refine s_callI (As := [.int r5]) (rest := []) cx hw hA (t_X4_isLetter l G r5) ml_X4_67 st_X4_isLetter in_X4 co_X4_isLetter hd_X4_isLetter rfl ⟨(by dsimp only; omega), (by dsimp only; omega)⟩ hl.1 rfl (Nat.le_of_ble_eq_true rfl) dX4_readExpression_91 rfl (fun H locs hw => ?_)
            refine lv_if_eq (tgt := 106) hx hb dX4_readExpression_94 (by decide) (fun c14 => ?_) (fun c14 => ?_)
            · rw [if_pos c14] at h
              refine lv_aload_n hx hb dX4_readExpression_106 rfl (lv_at hl 1 rfl) ?_
              refine lv_iload_n hx hb dX4_readExpression_107 rfl (lv_at hl 0 rfl) ?_
              refine lv_iload_n hx hb dX4_readExpression_108 rfl (lv_at hl 2 rfl) ?_
              obtain ⟨μ15, gμ15, h⟩ := bw_some h
              refine g_callVV (As := [.int r5, .int a1]) (rest := []) cx hw hA (t_X4_readSigned l G ad RE hRE r5 a1 μ9 gμ15) shx_16 rfl ml_X4_130 im_X4_readSigned se_X4_readSigned in_X4 co_X4_readSigned rfl hd_X4_readSigned rfl ⟨(by dsimp only; omega), (by dsimp only; omega)⟩ hl.1 rfl (Nat.le_of_ble_eq_true rfl) dX4_readExpression_109 ⟨rfl, rfl⟩ (fun H locs hw => ?_)
              exact g_vret cx hr hlk hw h dX4_readExpression_112
            · rw [if_neg c14] at h
              refine lv_aload_n hx hb dX4_readExpression_97 rfl (lv_at hl 1 rfl) ?_
              refine lv_iload_n hx hb dX4_readExpression_98 rfl (lv_at hl 0 rfl) ?_
              refine lv_iload_n hx hb dX4_readExpression_99 rfl (lv_at hl 2 rfl) ?_
              obtain ⟨μ17, gμ17, h⟩ := bw_some h
              refine g_callVV (As := [.int r5, .int a1]) (rest := []) cx hw hA (t_X4_readCall l G ad RE hRE r5 a1 μ9 gμ17) shx_16 rfl ml_X4_126 im_X4_readCall se_X4_readCall in_X4 co_X4_readCall rfl hd_X4_readCall rfl ⟨(by dsimp only; omega), (by dsimp only; omega)⟩ hl.1 rfl (Nat.le_of_ble_eq_true rfl) dX4_readExpression_100 ⟨rfl, rfl⟩ (fun H locs hw => ?_)
              refine lv_goto (tgt := 112) hx hb dX4_readExpression_103 (by decide) ?_
              exact g_vret cx hr hlk hw h dX4_readExpression_112
          · rw [if_neg c13] at h
            refine lv_aload_n hx hb dX4_readExpression_82 rfl (lv_at hl 1 rfl) ?_
            refine lv_iload_n hx hb dX4_readExpression_83 rfl (lv_at hl 0 rfl) ?_
            obtain ⟨μ19, gμ19, h⟩ := bw_some h
            refine g_callVV (As := [.int r5]) (rest := []) cx hw hA (t_X4_readVar l G ad r5 μ9 gμ19) shx_16 rfl ml_X4_123 im_X4_readVar se_X4_readVar in_X4 co_X4_readVar rfl hd_X4_readVar rfl ⟨(by dsimp only; omega), (by dsimp only; omega)⟩ hl.1 rfl (Nat.le_of_ble_eq_true rfl) dX4_readExpression_84 ⟨rfl, rfl⟩ (fun H locs hw => ?_)
            refine lv_goto (tgt := 112) hx hb dX4_readExpression_87 (by decide) ?_
            exact g_vret cx hr hlk hw h dX4_readExpression_112
        · rw [if_neg c12] at h
          refine lv_aload_n hx hb dX4_readExpression_50 rfl (lv_at hl 1 rfl) ?_
          obtain ⟨r22, μ21, gr22, h⟩ := bd_some h
          refine g_callVL (As := []) (rest := []) cx hw hA (t_X4_readNumber l G ad μ9 gr22) shx_16 rfl ml_X4_110 im_X4_readNumber se_X4_readNumber in_X4 co_X4_readNumber rfl hd_X4_readNumber rfl ⟨(by dsimp only; omega), (by dsimp only; omega)⟩ hl.1 rfl (Nat.le_of_ble_eq_true rfl) dX4_readExpression_51 ⟨rfl, rfl⟩ (fun H locs hw => ?_)
          refine lv_lstore_n (lv' := [(3, .long r22), (2, .int r5), (0, .ref (ad 16)), (1, .int a1)]) hx hb dX4_readExpression_54 rfl hl (by decide) rfl (fun ls hl => ?_)
          refine lv_aload_n hx hb dX4_readExpression_55 rfl (lv_at hl 2 rfl) ?_
          refine g_get cx hw inX4 (ci := 3) rfl 4 (by decide) rfl (v := .ref (ad (sel 2 (μ21.2.2 16 4)))) shx_16 rfl fl_X4_25 dX4_readExpression_56 ?_
          refine lv_iconst (v := 0) hx hb dX4_readExpression_59 (by decide) ?_
          refine lv_lload_n hx hb dX4_readExpression_60 rfl (lv_at hl 0 rfl) ?_
          refine s_callI (As := [.long r22]) (rest := [.int 0, .ref (ad (sel 2 (μ21.2.2 16 4)))]) cx hw hA (t_X0_kind l G r22) ml_X4_114 st_X0_kind in_X0 co_X0_kind hd_X0_kind rfl ⟨(by dsimp only; omega), (by dsimp only; omega)⟩ hl.1 rfl (Nat.le_of_ble_eq_true rfl) dX4_readExpression_61 rfl (fun H locs hw => ?_)
          refine lv_lload_n hx hb dX4_readExpression_64 rfl (lv_at hl 0 rfl) ?_
          refine s_callI (As := [.long r22]) (rest := [.int (s_X0_kind r22), .int 0, .ref (ad (sel 2 (μ21.2.2 16 4)))]) cx hw hA (t_X0_bits l G r22) ml_X4_120 st_X0_bits in_X0 co_X0_bits hd_X0_bits rfl ⟨(by dsimp only; omega), (by dsimp only; omega)⟩ hl.1 rfl (Nat.le_of_ble_eq_true rfl) dX4_readExpression_65 rfl (fun H locs hw => ?_)
          obtain ⟨r24, μ23, gr24, h⟩ := bd_some h
          refine g_callVI (As := [.int 0, .int (s_X0_kind r22), .int (s_X0_bits r22)]) (rest := []) cx hw hA (t_X3_add l G ad (sel 2 (μ21.2.2 16 4)) (sel_2 _) (0 : Int32) (s_X0_kind r22) (s_X0_bits r22) μ21 gr24) (sel_2 _) rfl ml_X4_86 im_X3_add se_X3_add in_X3 co_X3_add rfl hd_X3_add rfl ⟨(by dsimp only; omega), (by dsimp only; omega)⟩ hl.1 rfl (Nat.le_of_ble_eq_true rfl) dX4_readExpression_68 ⟨rfl, rfl⟩ (fun H locs hw => ?_)
          refine lv_pop hx hb dX4_readExpression_71 rfl ?_
          refine lv_goto (tgt := 112) hx hb dX4_readExpression_72 (by decide) ?_
          exact g_vret cx hr hlk hw h dX4_readExpression_112
      · rw [if_neg c11] at h
        refine lv_aload_n hx hb dX4_readExpression_32 rfl (lv_at hl 1 rfl) ?_
        refine lv_aload_n hx hb dX4_readExpression_33 rfl (lv_at hl 1 rfl) ?_
        refine g_get cx hw inX4 (ci := 3) rfl 2 (by decide) rfl (v := .int (μ9.1 16 2)) shx_16 rfl fl_X4_19 dX4_readExpression_34 ?_
        obtain ⟨μ25, gμ25, h⟩ := bw_some h
        refine g_callVV (As := [.int (μ9.1 16 2)]) (rest := []) cx hw hA (t_X4_fail l G ad (μ9.1 16 2) μ9 gμ25) shx_16 rfl ml_X4_51 im_X4_fail se_X4_fail in_X4 co_X4_fail rfl hd_X4_fail rfl ⟨(by dsimp only; omega), (by dsimp only; omega)⟩ hl.1 rfl (Nat.le_of_ble_eq_true rfl) dX4_readExpression_37 ⟨rfl, rfl⟩ (fun H locs hw => ?_)
        refine lv_goto (tgt := 112) hx hb dX4_readExpression_40 (by decide) ?_
        exact g_vret cx hr hlk hw h dX4_readExpression_112
  · rw [if_pos c3] at h
    exact g_vret cx hr hlk hw h dX4_readExpression_7
theorem pr_X4_readExpression_ex : ∃ f : Nat → Int32 → Mem → Option Mem, (∀ (a1 : Int32) μ, f 0 a1 μ = none) ∧ (∀ n (a1 : Int32) μ, f (n + 1) a1 μ = p_X4_readExpression (f n) a1 μ) := ⟨fun n => Nat.rec (fun (a1 : Int32) _ => none) (fun _ ih => fun (a1 : Int32) μ => p_X4_readExpression ih a1 μ) n, fun _ _ => rfl, fun _ _ _ => rfl⟩
noncomputable def pr_X4_readExpression : Nat → Int32 → Mem → Option Mem := Classical.choose pr_X4_readExpression_ex
theorem pr_X4_readExpression_z (a1 : Int32) (μ : Mem) : pr_X4_readExpression 0 a1 μ = none := (Classical.choose_spec pr_X4_readExpression_ex).1 a1 μ
theorem pr_X4_readExpression_s (n : Nat) (a1 : Int32) (μ : Mem) : pr_X4_readExpression (n + 1) a1 μ = p_X4_readExpression (pr_X4_readExpression n) a1 μ := (Classical.choose_spec pr_X4_readExpression_ex).2 n a1 μ
theorem tpr_X4_readExpression (l : Launch) (G : Gt) (ad : Nat → Nat) : ∀ (n : Nat) (a1 : Int32) (μ : Mem) {μz : Mem}, pr_X4_readExpression n a1 μ = some μz → Mt l yX4_readExpression cX4_readExpression 5 none ({ frames := n * 5, cells := 0, slots := 0, locals := n * 134 } : Room) G [.ref (ad 16), .int a1] (wd 0 G ad μ) (eV 0 G ad μz) := by
  intro n
  induction n with
  | zero => intro a1 μ μz h; rw [pr_X4_readExpression_z] at h; cases h
  | succ n ih =>
    intro a1 μ μz h
    rw [pr_X4_readExpression_s] at h
    have e1 : (n + 1) * 5 = n * 5 + 5 := Nat.succ_mul n 5
    have e2 : (n + 1) * 134 = n * 134 + 134 := Nat.succ_mul n 134
    rw [e1, e2]
    exact t_X4_readExpression l G ad (pr_X4_readExpression n) (fun a1 μ1 μ2 hh => ih a1 μ1 hh) a1 μ h

theorem p_X4_readFunction_b106_ex : ∃ f : Int32 → Mem → Option Mem, ∀ (a3 : Int32) (μ : Mem), f a3 μ = bd (p_X4_take (61 : Int32) μ) (fun r21 μ20 => (if r21 = (0 : Int32) then some μ20 else bw (p_X3_begin (sel 2 (μ20.2.2 16 4)) a3 μ20) (fun μ23 => bw (pr_X4_readExpression 50 (0 : Int32) μ23) (fun μ25 => bd (p_X4_take (59 : Int32) μ25) (fun r28 μ27 => bd (p_X3_add (sel 2 (μ27.2.2 16 4)) (14 : Int32) (0 : Int32) (0 : Int32) μ27) (fun r30 μ29 => some μ29)))))) := ⟨fun (a3 : Int32) (μ : Mem) => bd (p_X4_take (61 : Int32) μ) (fun r21 μ20 => (if r21 = (0 : Int32) then some μ20 else bw (p_X3_begin (sel 2 (μ20.2.2 16 4)) a3 μ20) (fun μ23 => bw (pr_X4_readExpression 50 (0 : Int32) μ23) (fun μ25 => bd (p_X4_take (59 : Int32) μ25) (fun r28 μ27 => bd (p_X3_add (sel 2 (μ27.2.2 16 4)) (14 : Int32) (0 : Int32) (0 : Int32) μ27) (fun r30 μ29 => some μ29)))))), fun _ _ => rfl⟩
noncomputable def p_X4_readFunction_b106 : Int32 → Mem → Option Mem := Classical.choose p_X4_readFunction_b106_ex
theorem p_X4_readFunction_b106_eq (a3 : Int32) (μ : Mem) : p_X4_readFunction_b106 a3 μ = bd (p_X4_take (61 : Int32) μ) (fun r21 μ20 => (if r21 = (0 : Int32) then some μ20 else bw (p_X3_begin (sel 2 (μ20.2.2 16 4)) a3 μ20) (fun μ23 => bw (pr_X4_readExpression 50 (0 : Int32) μ23) (fun μ25 => bd (p_X4_take (59 : Int32) μ25) (fun r28 μ27 => bd (p_X3_add (sel 2 (μ27.2.2 16 4)) (14 : Int32) (0 : Int32) (0 : Int32) μ27) (fun r30 μ29 => some μ29)))))) := Classical.choose_spec p_X4_readFunction_b106_ex a3 μ
set_option maxHeartbeats 4000000 in
set_option maxRecDepth 100000 in
theorem t_X4_readFunction_b106 (l : Launch) (G : Gt) (ad : Nat → Nat) (av : List Value) {μz : Mem} (a3 : Int32) (μ : Mem) (h : p_X4_readFunction_b106  a3 μ = some μz) : Bk l cX4_readFunction 4 RX4 none ({ frames := 251, cells := 0, slots := 0, locals := 6724 } : Room) G av (eV 0 G ad μz) (wd 0 G ad μ) 106 [(0, .ref (ad 16)), (3, .int a3)] [] := by
  intro p e s m below meth c A ls H locs cx hr hlk hA hl hw
  have hx := cx.1
  have hb := cx.2.1
  rw [p_X4_readFunction_b106_eq] at h
  refine lv_aload_n hx hb dX4_readFunction_106 rfl (lv_at hl 0 rfl) ?_
  refine lv_bipush (v := 61) hx hb dX4_readFunction_107 (by decide) ?_
  obtain ⟨r21, μ20, gr21, h⟩ := bd_some h
  refine g_callVI (As := [.int 61]) (rest := []) cx hw hA (t_X4_take l G ad (61 : Int32) μ gr21) shx_16 rfl ml_X4_70 im_X4_take se_X4_take in_X4 co_X4_take rfl hd_X4_take rfl ⟨(Nat.le_of_ble_eq_true rfl), (Nat.le_of_ble_eq_true rfl)⟩ hl.1 rfl (Nat.le_of_ble_eq_true rfl) dX4_readFunction_109 ⟨rfl, rfl⟩ (fun H locs hw => ?_)
  refine lv_if_eq (tgt := 147) hx hb dX4_readFunction_112 (by decide) (fun c22 => ?_) (fun c22 => ?_)
  · rw [if_pos c22] at h
    exact g_vret cx hr hlk hw h dX4_readFunction_147
  · rw [if_neg c22] at h
    refine lv_aload_n hx hb dX4_readFunction_115 rfl (lv_at hl 0 rfl) ?_
    refine g_get cx hw inX4 (ci := 3) rfl 4 (by decide) rfl (v := .ref (ad (sel 2 (μ20.2.2 16 4)))) shx_16 rfl fl_X4_25 dX4_readFunction_116 ?_
    refine lv_iload_n hx hb dX4_readFunction_119 rfl (lv_at hl 1 rfl) ?_
    obtain ⟨μ23, gμ23, h⟩ := bw_some h
    refine g_callVV (As := [.int a3]) (rest := []) cx hw hA (t_X3_begin l G ad (sel 2 (μ20.2.2 16 4)) (sel_2 _) a3 μ20 gμ23) (sel_2 _) rfl ml_X4_80 im_X3_begin se_X3_begin in_X3 co_X3_begin rfl hd_X3_begin rfl ⟨(Nat.le_of_ble_eq_true rfl), (Nat.le_of_ble_eq_true rfl)⟩ hl.1 rfl (Nat.le_of_ble_eq_true rfl) dX4_readFunction_120 ⟨rfl, rfl⟩ (fun H locs hw => ?_)
    refine lv_aload_n hx hb dX4_readFunction_123 rfl (lv_at hl 0 rfl) ?_
    refine lv_iconst (v := 0) hx hb dX4_readFunction_124 (by decide) ?_
    obtain ⟨μ25, gμ25, h⟩ := bw_some h
    refine g_callVV (As := [.int 0]) (rest := []) cx hw hA (tpr_X4_readExpression l G ad 50 (0 : Int32) μ23 gμ25) shx_16 rfl ml_X4_83 im_X4_readExpression se_X4_readExpression in_X4 co_X4_readExpression rfl hd_X4_readExpression rfl ⟨(Nat.le_of_ble_eq_true rfl), (Nat.le_of_ble_eq_true rfl)⟩ hl.1 rfl (Nat.le_of_ble_eq_true rfl) dX4_readFunction_125 ⟨rfl, rfl⟩ (fun H locs hw => ?_)
    refine lv_aload_n hx hb dX4_readFunction_128 rfl (lv_at hl 0 rfl) ?_
    refine lv_bipush (v := 59) hx hb dX4_readFunction_129 (by decide) ?_
    obtain ⟨r28, μ27, gr28, h⟩ := bd_some h
    refine g_callVI (As := [.int 59]) (rest := []) cx hw hA (t_X4_take l G ad (59 : Int32) μ25 gr28) shx_16 rfl ml_X4_70 im_X4_take se_X4_take in_X4 co_X4_take rfl hd_X4_take rfl ⟨(Nat.le_of_ble_eq_true rfl), (Nat.le_of_ble_eq_true rfl)⟩ hl.1 rfl (Nat.le_of_ble_eq_true rfl) dX4_readFunction_131 ⟨rfl, rfl⟩ (fun H locs hw => ?_)
    refine lv_pop hx hb dX4_readFunction_134 rfl ?_
    refine lv_aload_n hx hb dX4_readFunction_135 rfl (lv_at hl 0 rfl) ?_
    refine g_get cx hw inX4 (ci := 3) rfl 4 (by decide) rfl (v := .ref (ad (sel 2 (μ27.2.2 16 4)))) shx_16 rfl fl_X4_25 dX4_readFunction_136 ?_
    refine lv_bipush (v := 14) hx hb dX4_readFunction_139 (by decide) ?_
    refine lv_iconst (v := 0) hx hb dX4_readFunction_141 (by decide) ?_
    refine lv_iconst (v := 0) hx hb dX4_readFunction_142 (by decide) ?_
    obtain ⟨r30, μ29, gr30, h⟩ := bd_some h
    refine g_callVI (As := [.int 14, .int 0, .int 0]) (rest := []) cx hw hA (t_X3_add l G ad (sel 2 (μ27.2.2 16 4)) (sel_2 _) (14 : Int32) (0 : Int32) (0 : Int32) μ27 gr30) (sel_2 _) rfl ml_X4_86 im_X3_add se_X3_add in_X3 co_X3_add rfl hd_X3_add rfl ⟨(Nat.le_of_ble_eq_true rfl), (Nat.le_of_ble_eq_true rfl)⟩ hl.1 rfl (Nat.le_of_ble_eq_true rfl) dX4_readFunction_143 ⟨rfl, rfl⟩ (fun H locs hw => ?_)
    refine lv_pop hx hb dX4_readFunction_146 rfl ?_
    exact g_vret cx hr hlk hw h dX4_readFunction_147
theorem p_X4_readFunction_ex : ∃ f : Mem → Option Mem, ∀  (μ : Mem), f  μ = bv (μ.1 16 2) (fun v1 => bd (p_X4_here μ) (fun r3 μ2 => (if (s_X4_isLetter r3) = (0 : Int32) then bw (p_X4_fail (μ2.1 16 2) μ2) (fun μ36 => some μ36) else bv (sF μ2 16 2 ((μ2.1 16 2) + (1 : Int32))) (fun μ5 => bv (sF μ5 16 6 (0 : Int32)) (fun μ6 => bd (p_X4_take (40 : Int32) μ6) (fun r8 μ7 => bw (p_X4_readNames μ7) (fun μ9 => bd (p_X4_take (41 : Int32) μ9) (fun r12 μ11 => bd (p_X4_isWell μ11) (fun r14 μ13 => (if r14 = (0 : Int32) then some μ13 else bv (((r3 - (97 : Int32)) * (6 : Int32)) + (μ13.1 16 6)) (fun v16 => bd (p_X4_here μ13) (fun r18 μ17 => (if r18 = (61 : Int32) then bd (p_X3_startOf (sel 2 (μ17.2.2 16 4)) v16 μ17) (fun r32 μ31 => (if r32 = (-1 : Int32) then p_X4_readFunction_b106  v16 μ31 else bw (p_X4_fail v1 μ31) (fun μ34 => p_X4_readFunction_b106  v16 μ34))) else p_X4_readFunction_b106  v16 μ17))))))))))))) := ⟨fun  (μ : Mem) => bv (μ.1 16 2) (fun v1 => bd (p_X4_here μ) (fun r3 μ2 => (if (s_X4_isLetter r3) = (0 : Int32) then bw (p_X4_fail (μ2.1 16 2) μ2) (fun μ36 => some μ36) else bv (sF μ2 16 2 ((μ2.1 16 2) + (1 : Int32))) (fun μ5 => bv (sF μ5 16 6 (0 : Int32)) (fun μ6 => bd (p_X4_take (40 : Int32) μ6) (fun r8 μ7 => bw (p_X4_readNames μ7) (fun μ9 => bd (p_X4_take (41 : Int32) μ9) (fun r12 μ11 => bd (p_X4_isWell μ11) (fun r14 μ13 => (if r14 = (0 : Int32) then some μ13 else bv (((r3 - (97 : Int32)) * (6 : Int32)) + (μ13.1 16 6)) (fun v16 => bd (p_X4_here μ13) (fun r18 μ17 => (if r18 = (61 : Int32) then bd (p_X3_startOf (sel 2 (μ17.2.2 16 4)) v16 μ17) (fun r32 μ31 => (if r32 = (-1 : Int32) then p_X4_readFunction_b106  v16 μ31 else bw (p_X4_fail v1 μ31) (fun μ34 => p_X4_readFunction_b106  v16 μ34))) else p_X4_readFunction_b106  v16 μ17))))))))))))), fun _ => rfl⟩
noncomputable def p_X4_readFunction : Mem → Option Mem := Classical.choose p_X4_readFunction_ex
theorem p_X4_readFunction_eq  (μ : Mem) : p_X4_readFunction  μ = bv (μ.1 16 2) (fun v1 => bd (p_X4_here μ) (fun r3 μ2 => (if (s_X4_isLetter r3) = (0 : Int32) then bw (p_X4_fail (μ2.1 16 2) μ2) (fun μ36 => some μ36) else bv (sF μ2 16 2 ((μ2.1 16 2) + (1 : Int32))) (fun μ5 => bv (sF μ5 16 6 (0 : Int32)) (fun μ6 => bd (p_X4_take (40 : Int32) μ6) (fun r8 μ7 => bw (p_X4_readNames μ7) (fun μ9 => bd (p_X4_take (41 : Int32) μ9) (fun r12 μ11 => bd (p_X4_isWell μ11) (fun r14 μ13 => (if r14 = (0 : Int32) then some μ13 else bv (((r3 - (97 : Int32)) * (6 : Int32)) + (μ13.1 16 6)) (fun v16 => bd (p_X4_here μ13) (fun r18 μ17 => (if r18 = (61 : Int32) then bd (p_X3_startOf (sel 2 (μ17.2.2 16 4)) v16 μ17) (fun r32 μ31 => (if r32 = (-1 : Int32) then p_X4_readFunction_b106  v16 μ31 else bw (p_X4_fail v1 μ31) (fun μ34 => p_X4_readFunction_b106  v16 μ34))) else p_X4_readFunction_b106  v16 μ17))))))))))))) := Classical.choose_spec p_X4_readFunction_ex  μ
set_option maxHeartbeats 4000000 in
set_option maxRecDepth 100000 in
theorem t_X4_readFunction (l : Launch) (G : Gt) (ad : Nat → Nat)  (μ : Mem) {μz : Mem} (h : p_X4_readFunction  μ = some μz) : Mt l yX4_readFunction cX4_readFunction 4 none ({ frames := 251, cells := 0, slots := 0, locals := 6724 } : Room) G [.ref (ad 16)] (wd 0 G ad μ) (eV 0 G ad μz) := by
  refine Bk.mt (by decide) rfl (Nat.le_of_ble_eq_true rfl) ?_
  intro p e s m below meth c A ls H locs cx hr hlk hA hl hw
  have hx := cx.1
  have hb := cx.2.1
  have hl : lv_has ls 4 [(0, .ref (ad 16))] := hl
  rw [p_X4_readFunction_eq] at h
  refine lv_aload_n hx hb dX4_readFunction_0 rfl (lv_at hl 0 rfl) ?_
  refine g_get cx hw inX4 (ci := 3) rfl 2 (by decide) rfl (v := .int (μ.1 16 2)) shx_16 rfl fl_X4_19 dX4_readFunction_1 ?_
  obtain ⟨v1, ev1, h⟩ := bv_ex h
  refine lv_topi (fun y9 z9 => ?_)
  obtain rfl : v1 = y9 := ev1.trans z9.symm
  refine lv_istore_n (lv' := [(1, .int v1), (0, .ref (ad 16))]) hx hb dX4_readFunction_4 rfl hl (by decide) rfl (fun ls hl => ?_)
  refine lv_aload_n hx hb dX4_readFunction_5 rfl (lv_at hl 1 rfl) ?_
  obtain ⟨r3, μ2, gr3, h⟩ := bd_some h
  refine g_callVI (As := []) (rest := []) cx hw hA (t_X4_here l G ad μ gr3) shx_16 rfl ml_X4_47 im_X4_here se_X4_here in_X4 co_X4_here rfl hd_X4_here rfl ⟨(Nat.le_of_ble_eq_true rfl), (Nat.le_of_ble_eq_true rfl)⟩ hl.1 rfl (Nat.le_of_ble_eq_true rfl) dX4_readFunction_6 ⟨rfl, rfl⟩ (fun H locs hw => ?_)
  refine lv_istore_n (lv' := [(2, .int r3), (1, .int v1), (0, .ref (ad 16))]) hx hb dX4_readFunction_9 rfl hl (by decide) rfl (fun ls hl => ?_)
  refine lv_iload_n hx hb dX4_readFunction_10 rfl (lv_at hl 0 rfl) ?_
  refine s_callI (As := [.int r3]) (rest := []) cx hw hA (t_X4_isLetter l G r3) ml_X4_67 st_X4_isLetter in_X4 co_X4_isLetter hd_X4_isLetter rfl ⟨(Nat.le_of_ble_eq_true rfl), (Nat.le_of_ble_eq_true rfl)⟩ hl.1 rfl (Nat.le_of_ble_eq_true rfl) dX4_readFunction_11 rfl (fun H locs hw => ?_)
  refine lv_if_ne (tgt := 26) hx hb dX4_readFunction_14 (by decide) (fun c4 => ?_) (fun c4 => ?_)
  · rw [if_neg c4] at h
    refine lv_aload_n hx hb dX4_readFunction_26 rfl (lv_at hl 2 rfl) ?_
    refine lv_dup hx hb dX4_readFunction_27 rfl ?_
    refine g_get cx hw inX4 (ci := 3) rfl 2 (by decide) rfl (v := .int (μ2.1 16 2)) shx_16 rfl fl_X4_19 dX4_readFunction_28 ?_
    refine lv_iconst (v := 1) hx hb dX4_readFunction_31 (by decide) ?_
    refine lv_iadd hx hb dX4_readFunction_32 ?_
    refine g_put cx hw inX4 (ci := 3) rfl tyX4_ok nmX4 2 (by decide) rfl rfl rfl rfl shx_16 h fl_X4_19 dX4_readFunction_33 (fun μ5 H locs h hw => ?_)
    refine lv_aload_n hx hb dX4_readFunction_36 rfl (lv_at hl 2 rfl) ?_
    refine lv_iconst (v := 0) hx hb dX4_readFunction_37 (by decide) ?_
    refine g_put cx hw inX4 (ci := 3) rfl tyX4_ok nmX4 6 (by decide) rfl rfl rfl rfl shx_16 h fl_X4_34 dX4_readFunction_38 (fun μ6 H locs h hw => ?_)
    refine lv_aload_n hx hb dX4_readFunction_41 rfl (lv_at hl 2 rfl) ?_
    refine lv_bipush (v := 40) hx hb dX4_readFunction_42 (by decide) ?_
    obtain ⟨r8, μ7, gr8, h⟩ := bd_some h
    refine g_callVI (As := [.int 40]) (rest := []) cx hw hA (t_X4_take l G ad (40 : Int32) μ6 gr8) shx_16 rfl ml_X4_70 im_X4_take se_X4_take in_X4 co_X4_take rfl hd_X4_take rfl ⟨(Nat.le_of_ble_eq_true rfl), (Nat.le_of_ble_eq_true rfl)⟩ hl.1 rfl (Nat.le_of_ble_eq_true rfl) dX4_readFunction_44 ⟨rfl, rfl⟩ (fun H locs hw => ?_)
    refine lv_pop hx hb dX4_readFunction_47 rfl ?_
    refine lv_aload_n hx hb dX4_readFunction_48 rfl (lv_at hl 2 rfl) ?_
    obtain ⟨μ9, gμ9, h⟩ := bw_some h
    refine g_callVV (As := []) (rest := []) cx hw hA (t_X4_readNames l G ad μ7 gμ9) shx_16 rfl ml_X4_73 im_X4_readNames se_X4_readNames in_X4 co_X4_readNames rfl hd_X4_readNames rfl ⟨(Nat.le_of_ble_eq_true rfl), (Nat.le_of_ble_eq_true rfl)⟩ hl.1 rfl (Nat.le_of_ble_eq_true rfl) dX4_readFunction_49 ⟨rfl, rfl⟩ (fun H locs hw => ?_)
    refine lv_aload_n hx hb dX4_readFunction_52 rfl (lv_at hl 2 rfl) ?_
    refine lv_bipush (v := 41) hx hb dX4_readFunction_53 (by decide) ?_
    obtain ⟨r12, μ11, gr12, h⟩ := bd_some h
    refine g_callVI (As := [.int 41]) (rest := []) cx hw hA (t_X4_take l G ad (41 : Int32) μ9 gr12) shx_16 rfl ml_X4_70 im_X4_take se_X4_take in_X4 co_X4_take rfl hd_X4_take rfl ⟨(Nat.le_of_ble_eq_true rfl), (Nat.le_of_ble_eq_true rfl)⟩ hl.1 rfl (Nat.le_of_ble_eq_true rfl) dX4_readFunction_55 ⟨rfl, rfl⟩ (fun H locs hw => ?_)
    refine lv_pop hx hb dX4_readFunction_58 rfl ?_
    refine lv_aload_n hx hb dX4_readFunction_59 rfl (lv_at hl 2 rfl) ?_
    obtain ⟨r14, μ13, gr14, h⟩ := bd_some h
    refine g_callVI (As := []) (rest := []) cx hw hA (t_X4_isWell l G ad μ11 gr14) shx_16 rfl ml_X4_43 im_X4_isWell se_X4_isWell in_X4 co_X4_isWell rfl hd_X4_isWell rfl ⟨(Nat.le_of_ble_eq_true rfl), (Nat.le_of_ble_eq_true rfl)⟩ hl.1 rfl (Nat.le_of_ble_eq_true rfl) dX4_readFunction_60 ⟨rfl, rfl⟩ (fun H locs hw => ?_)
    refine lv_if_ne (tgt := 67) hx hb dX4_readFunction_63 (by decide) (fun c15 => ?_) (fun c15 => ?_)
    · rw [if_neg c15] at h
      refine lv_iload_n hx hb dX4_readFunction_67 rfl (lv_at hl 0 rfl) ?_
      refine lv_bipush (v := 97) hx hb dX4_readFunction_68 (by decide) ?_
      refine lv_isub hx hb dX4_readFunction_70 ?_
      refine lv_bipush (v := 6) hx hb dX4_readFunction_71 (by decide) ?_
      refine lv_imul hx hb dX4_readFunction_73 ?_
      refine lv_aload_n hx hb dX4_readFunction_74 rfl (lv_at hl 2 rfl) ?_
      refine g_get cx hw inX4 (ci := 3) rfl 6 (by decide) rfl (v := .int (μ13.1 16 6)) shx_16 rfl fl_X4_34 dX4_readFunction_75 ?_
      refine lv_iadd hx hb dX4_readFunction_78 ?_
      obtain ⟨v16, ev16, h⟩ := bv_ex h
      refine lv_topi (fun y9 z9 => ?_)
      obtain rfl : v16 = y9 := ev16.trans z9.symm
      refine lv_istore_n (lv' := [(3, .int v16), (2, .int r3), (1, .int v1), (0, .ref (ad 16))]) hx hb dX4_readFunction_79 rfl hl (by decide) rfl (fun ls hl => ?_)
      refine lv_aload_n hx hb dX4_readFunction_80 rfl (lv_at hl 3 rfl) ?_
      obtain ⟨r18, μ17, gr18, h⟩ := bd_some h
      refine g_callVI (As := []) (rest := []) cx hw hA (t_X4_here l G ad μ13 gr18) shx_16 rfl ml_X4_47 im_X4_here se_X4_here in_X4 co_X4_here rfl hd_X4_here rfl ⟨(Nat.le_of_ble_eq_true rfl), (Nat.le_of_ble_eq_true rfl)⟩ hl.1 rfl (Nat.le_of_ble_eq_true rfl) dX4_readFunction_81 ⟨rfl, rfl⟩ (fun H locs hw => ?_)
      refine lv_bipush (v := 61) hx hb dX4_readFunction_84 (by decide) ?_
      refine lv_icmp_ne (tgt := 106) hx hb dX4_readFunction_86 (by decide) (fun c19 => ?_) (fun c19 => ?_)
      · rw [if_neg c19] at h
        exact t_X4_readFunction_b106 l G ad _  v16 μ17 h p e s m below meth c A ls H locs cx hr hlk hA (lv_sub hl [3, 0] rfl) hw
      · rw [if_pos c19] at h
        refine lv_aload_n hx hb dX4_readFunction_89 rfl (lv_at hl 3 rfl) ?_
        refine g_get cx hw inX4 (ci := 3) rfl 4 (by decide) rfl (v := .ref (ad (sel 2 (μ17.2.2 16 4)))) shx_16 rfl fl_X4_25 dX4_readFunction_90 ?_
        refine lv_iload_n hx hb dX4_readFunction_93 rfl (lv_at hl 0 rfl) ?_
        obtain ⟨r32, μ31, gr32, h⟩ := bd_some h
        refine g_callVI (As := [.int v16]) (rest := []) cx hw hA (t_X3_startOf l G ad (sel 2 (μ17.2.2 16 4)) (sel_2 _) v16 μ17 gr32) (sel_2 _) rfl ml_X4_76 im_X3_startOf se_X3_startOf in_X3 co_X3_startOf rfl hd_X3_startOf rfl ⟨(Nat.le_of_ble_eq_true rfl), (Nat.le_of_ble_eq_true rfl)⟩ hl.1 rfl (Nat.le_of_ble_eq_true rfl) dX4_readFunction_94 ⟨rfl, rfl⟩ (fun H locs hw => ?_)
        refine lv_iconst (v := (-1)) hx hb dX4_readFunction_97 (by decide) ?_
        refine lv_icmp_eq (tgt := 106) hx hb dX4_readFunction_98 (by decide) (fun c33 => ?_) (fun c33 => ?_)
        · rw [if_pos c33] at h
          exact t_X4_readFunction_b106 l G ad _  v16 μ31 h p e s m below meth c A ls H locs cx hr hlk hA (lv_sub hl [3, 0] rfl) hw
        · rw [if_neg c33] at h
          refine lv_aload_n hx hb dX4_readFunction_101 rfl (lv_at hl 3 rfl) ?_
          refine lv_iload_n hx hb dX4_readFunction_102 rfl (lv_at hl 2 rfl) ?_
          obtain ⟨μ34, gμ34, h⟩ := bw_some h
          refine g_callVV (As := [.int v1]) (rest := []) cx hw hA (t_X4_fail l G ad v1 μ31 gμ34) shx_16 rfl ml_X4_51 im_X4_fail se_X4_fail in_X4 co_X4_fail rfl hd_X4_fail rfl ⟨(Nat.le_of_ble_eq_true rfl), (Nat.le_of_ble_eq_true rfl)⟩ hl.1 rfl (Nat.le_of_ble_eq_true rfl) dX4_readFunction_103 ⟨rfl, rfl⟩ (fun H locs hw => ?_)
          exact t_X4_readFunction_b106 l G ad _  v16 μ34 h p e s m below meth c A ls H locs cx hr hlk hA (lv_sub hl [3, 0] rfl) hw
    · rw [if_pos c15] at h
      exact g_vret cx hr hlk hw h dX4_readFunction_66
  · rw [if_pos c4] at h
    refine lv_aload_n hx hb dX4_readFunction_17 rfl (lv_at hl 2 rfl) ?_
    refine lv_aload_n hx hb dX4_readFunction_18 rfl (lv_at hl 2 rfl) ?_
    refine g_get cx hw inX4 (ci := 3) rfl 2 (by decide) rfl (v := .int (μ2.1 16 2)) shx_16 rfl fl_X4_19 dX4_readFunction_19 ?_
    obtain ⟨μ36, gμ36, h⟩ := bw_some h
    refine g_callVV (As := [.int (μ2.1 16 2)]) (rest := []) cx hw hA (t_X4_fail l G ad (μ2.1 16 2) μ2 gμ36) shx_16 rfl ml_X4_51 im_X4_fail se_X4_fail in_X4 co_X4_fail rfl hd_X4_fail rfl ⟨(Nat.le_of_ble_eq_true rfl), (Nat.le_of_ble_eq_true rfl)⟩ hl.1 rfl (Nat.le_of_ble_eq_true rfl) dX4_readFunction_22 ⟨rfl, rfl⟩ (fun H locs hw => ?_)
    exact g_vret cx hr hlk hw h dX4_readFunction_25

theorem p_X4_readProgram_b14_ex : ∃ f : Nat → Int32 → Mem → Option Mem, (∀ (a2 : Int32) (μ : Mem), f  0 a2 μ = none) ∧ (∀ (n : Nat) (a2 : Int32) (μ : Mem), f  (n + 1) a2 μ = (if (800 : Int32) < a2 then some μ else bd (p_X4_isWell μ) (fun r6 μ5 => (if r6 = (0 : Int32) then some μ5 else (if (μ5.1 16 1) ≤ (μ5.1 16 2) then some μ5 else bw (p_X4_readFunction μ5) (fun μ9 => bv (a2 + 1) (fun v11 => f n v11 μ9))))))) := ⟨fun n => Nat.rec (fun (a2 : Int32) (μ : Mem) => none) (fun _ ih => fun (a2 : Int32) (μ : Mem) => (if (800 : Int32) < a2 then some μ else bd (p_X4_isWell μ) (fun r6 μ5 => (if r6 = (0 : Int32) then some μ5 else (if (μ5.1 16 1) ≤ (μ5.1 16 2) then some μ5 else bw (p_X4_readFunction μ5) (fun μ9 => bv (a2 + 1) (fun v11 => ih v11 μ9))))))) n, fun  _ _ => rfl, fun  _ _ _ => rfl⟩
noncomputable def p_X4_readProgram_b14 : Nat → Int32 → Mem → Option Mem := Classical.choose p_X4_readProgram_b14_ex
theorem p_X4_readProgram_b14_z (a2 : Int32) (μ : Mem) : p_X4_readProgram_b14  0 a2 μ = none := (Classical.choose_spec p_X4_readProgram_b14_ex).1  a2 μ
theorem p_X4_readProgram_b14_s (n : Nat) (a2 : Int32) (μ : Mem) : p_X4_readProgram_b14  (n + 1) a2 μ = (if (800 : Int32) < a2 then some μ else bd (p_X4_isWell μ) (fun r6 μ5 => (if r6 = (0 : Int32) then some μ5 else (if (μ5.1 16 1) ≤ (μ5.1 16 2) then some μ5 else bw (p_X4_readFunction μ5) (fun μ9 => bv (a2 + 1) (fun v11 => p_X4_readProgram_b14  n v11 μ9)))))) := (Classical.choose_spec p_X4_readProgram_b14_ex).2  n a2 μ
set_option maxHeartbeats 4000000 in
set_option maxRecDepth 100000 in
theorem t_X4_readProgram_b14 (l : Launch) (G : Gt) (ad : Nat → Nat) (av : List Value) {μz : Mem} : ∀ (n : Nat) (a2 : Int32) (μ : Mem), p_X4_readProgram_b14  n a2 μ = some μz → Bk l cX4_readProgram 3 RX4 none ({ frames := 252, cells := 0, slots := 0, locals := 6747 } : Room) G av (eV 0 G ad μz) (wd 0 G ad μ) 14 [(0, .ref (ad 16)), (2, .int a2)] [] := by
  intro n
  induction n with
  | zero => intro a2 μ h; rw [p_X4_readProgram_b14_z] at h; cases h
  | succ n ih =>
    intro a2 μ h p e s m below meth c A ls H locs cx hr hlk hA hl hw
    have hx := cx.1
    have hb := cx.2.1
    rw [p_X4_readProgram_b14_s] at h
    refine lv_iload_n hx hb dX4_readProgram_14 rfl (lv_at hl 1 rfl) ?_
    refine lv_sipush (v := 800) hx hb dX4_readProgram_15 (by decide) ?_
    refine lv_icmp_gt (tgt := 49) hx hb dX4_readProgram_18 (by decide) (fun c4 => ?_) (fun c4 => ?_)
    · rw [if_pos c4] at h
      exact g_vret cx hr hlk hw h dX4_readProgram_49
    · rw [if_neg c4] at h
      refine lv_aload_n hx hb dX4_readProgram_21 rfl (lv_at hl 0 rfl) ?_
      obtain ⟨r6, μ5, gr6, h⟩ := bd_some h
      refine g_callVI (As := []) (rest := []) cx hw hA (t_X4_isWell l G ad μ gr6) shx_16 rfl ml_X4_43 im_X4_isWell se_X4_isWell in_X4 co_X4_isWell rfl hd_X4_isWell rfl ⟨(Nat.le_of_ble_eq_true rfl), (Nat.le_of_ble_eq_true rfl)⟩ hl.1 rfl (Nat.le_of_ble_eq_true rfl) dX4_readProgram_22 ⟨rfl, rfl⟩ (fun H locs hw => ?_)
      refine lv_if_eq (tgt := 49) hx hb dX4_readProgram_25 (by decide) (fun c7 => ?_) (fun c7 => ?_)
      · rw [if_pos c7] at h
        exact g_vret cx hr hlk hw h dX4_readProgram_49
      · rw [if_neg c7] at h
        refine lv_aload_n hx hb dX4_readProgram_28 rfl (lv_at hl 0 rfl) ?_
        refine g_get cx hw inX4 (ci := 3) rfl 2 (by decide) rfl (v := .int (μ5.1 16 2)) shx_16 rfl fl_X4_19 dX4_readProgram_29 ?_
        refine lv_aload_n hx hb dX4_readProgram_32 rfl (lv_at hl 0 rfl) ?_
        refine g_get cx hw inX4 (ci := 3) rfl 1 (by decide) rfl (v := .int (μ5.1 16 1)) shx_16 rfl fl_X4_15 dX4_readProgram_33 ?_
        refine lv_icmp_ge (tgt := 49) hx hb dX4_readProgram_36 (by decide) (fun c8 => ?_) (fun c8 => ?_)
        · rw [if_pos c8] at h
          exact g_vret cx hr hlk hw h dX4_readProgram_49
        · rw [if_neg c8] at h
          refine lv_aload_n hx hb dX4_readProgram_39 rfl (lv_at hl 0 rfl) ?_
          obtain ⟨μ9, gμ9, h⟩ := bw_some h
          refine g_callVV (As := []) (rest := []) cx hw hA (t_X4_readFunction l G ad μ5 gμ9) shx_16 rfl ml_X4_64 im_X4_readFunction se_X4_readFunction in_X4 co_X4_readFunction rfl hd_X4_readFunction rfl ⟨(Nat.le_of_ble_eq_true rfl), (Nat.le_of_ble_eq_true rfl)⟩ hl.1 rfl (Nat.le_of_ble_eq_true rfl) dX4_readProgram_40 ⟨rfl, rfl⟩ (fun H locs hw => ?_)
          obtain ⟨v11, ev11, h⟩ := bv_ex h
          refine lv_iinc (v := v11) (lv' := [(2, .int v11), (0, .ref (ad 16))]) hx hb dX4_readProgram_43 hl (k := 1) rfl (by rw [ev11]; rfl) (by decide) rfl (fun ls hl => ?_)
          refine lv_goto (tgt := 14) hx hb dX4_readProgram_46 (by decide) ?_
          exact ih v11 μ9 h p e s m below meth c A ls H locs cx hr hlk hA (lv_sub hl [1, 0] rfl) hw
theorem p_X4_readProgram_ex : ∃ f : Nat → Mem → Option Mem, ∀ (a1 : Nat) (μ : Mem), f a1 μ = bv (sR μ 16 4 a1) (fun μ1 => bw (p_X3_clear (sel 2 (μ1.2.2 16 4)) μ1) (fun μ2 => p_X4_readProgram_b14  FUEL (0 : Int32) μ2)) := ⟨fun (a1 : Nat) (μ : Mem) => bv (sR μ 16 4 a1) (fun μ1 => bw (p_X3_clear (sel 2 (μ1.2.2 16 4)) μ1) (fun μ2 => p_X4_readProgram_b14  FUEL (0 : Int32) μ2)), fun _ _ => rfl⟩
noncomputable def p_X4_readProgram : Nat → Mem → Option Mem := Classical.choose p_X4_readProgram_ex
theorem p_X4_readProgram_eq (a1 : Nat) (μ : Mem) : p_X4_readProgram a1 μ = bv (sR μ 16 4 a1) (fun μ1 => bw (p_X3_clear (sel 2 (μ1.2.2 16 4)) μ1) (fun μ2 => p_X4_readProgram_b14  FUEL (0 : Int32) μ2)) := Classical.choose_spec p_X4_readProgram_ex a1 μ
set_option maxHeartbeats 4000000 in
set_option maxRecDepth 100000 in
theorem t_X4_readProgram (l : Launch) (G : Gt) (ad : Nat → Nat) (a1 : Nat) (q1 : sh 0 a1 = (0, 2)) (μ : Mem) {μz : Mem} (h : p_X4_readProgram a1 μ = some μz) : Mt l yX4_readProgram cX4_readProgram 3 none ({ frames := 252, cells := 0, slots := 0, locals := 6747 } : Room) G [.ref (ad 16), .ref (ad a1)] (wd 0 G ad μ) (eV 0 G ad μz) := by
  refine Bk.mt (by decide) rfl (Nat.le_of_ble_eq_true rfl) ?_
  intro p e s m below meth c A ls H locs cx hr hlk hA hl hw
  have hx := cx.1
  have hb := cx.2.1
  have hl : lv_has ls 3 [(0, .ref (ad 16)), (1, .ref (ad a1))] := hl
  rw [p_X4_readProgram_eq] at h
  refine lv_aload_n hx hb dX4_readProgram_0 rfl (lv_at hl 0 rfl) ?_
  refine lv_aload_n hx hb dX4_readProgram_1 rfl (lv_at hl 1 rfl) ?_
  refine g_putR cx hw inX4 (ci := 3) rfl tyX4_ok nmX4 4 (by decide) rfl rfl rfl rfl shx_16 q1 h fl_X4_25 dX4_readProgram_2 (fun μ1 H locs h hw => ?_)
  refine lv_aload_n hx hb dX4_readProgram_5 rfl (lv_at hl 0 rfl) ?_
  refine g_get cx hw inX4 (ci := 3) rfl 4 (by decide) rfl (v := .ref (ad (sel 2 (μ1.2.2 16 4)))) shx_16 rfl fl_X4_25 dX4_readProgram_6 ?_
  obtain ⟨μ2, gμ2, h⟩ := bw_some h
  refine g_callVV (As := []) (rest := []) cx hw hA (t_X3_clear l G ad (sel 2 (μ1.2.2 16 4)) (sel_2 _) μ1 gμ2) (sel_2 _) rfl ml_X4_59 im_X3_clear se_X3_clear in_X3 co_X3_clear rfl hd_X3_clear rfl ⟨(Nat.le_of_ble_eq_true rfl), (Nat.le_of_ble_eq_true rfl)⟩ hl.1 rfl (Nat.le_of_ble_eq_true rfl) dX4_readProgram_9 ⟨rfl, rfl⟩ (fun H locs hw => ?_)
  refine lv_iconst (v := 0) hx hb dX4_readProgram_12 (by decide) ?_
  refine lv_istore_n (lv' := [(2, .int 0), (0, .ref (ad 16)), (1, .ref (ad a1))]) hx hb dX4_readProgram_13 rfl hl (by decide) rfl (fun ls hl => ?_)
  exact t_X4_readProgram_b14 l G ad _  FUEL (0 : Int32) μ2 h p e s m below meth c A ls H locs cx hr hlk hA (lv_sub hl [1, 0] rfl) hw

theorem p_X4_badPlace_ex : ∃ f : Mem → Option (Int32 × Mem), ∀  (μ : Mem), f  μ = some ((μ.1 16 3), μ) := ⟨fun  (μ : Mem) => some ((μ.1 16 3), μ), fun _ => rfl⟩
noncomputable def p_X4_badPlace : Mem → Option (Int32 × Mem) := Classical.choose p_X4_badPlace_ex
theorem p_X4_badPlace_eq  (μ : Mem) : p_X4_badPlace  μ = some ((μ.1 16 3), μ) := Classical.choose_spec p_X4_badPlace_ex  μ
set_option maxHeartbeats 4000000 in
set_option maxRecDepth 100000 in
theorem t_X4_badPlace (l : Launch) (G : Gt) (ad : Nat → Nat)  (μ : Mem) {r : Int32} {μz : Mem} (h : p_X4_badPlace  μ = some (r, μz)) : Mt l yX4_badPlace cX4_badPlace 1 (some .int) ({ frames := 0, cells := 0, slots := 0, locals := 0 } : Room) G [.ref (ad 16)] (wd 0 G ad μ) (eI 0 G ad r μz) := by
  refine Bk.mt (by decide) rfl (Nat.le_of_ble_eq_true rfl) ?_
  intro p e s m below meth c A ls H locs cx hr hlk hA hl hw
  have hx := cx.1
  have hb := cx.2.1
  have hl : lv_has ls 1 [(0, .ref (ad 16))] := hl
  rw [p_X4_badPlace_eq] at h
  refine lv_aload_n hx hb dX4_badPlace_0 rfl (lv_at hl 0 rfl) ?_
  refine g_get cx hw inX4 (ci := 3) rfl 3 (by decide) rfl (v := .int (μ.1 16 3)) shx_16 rfl fl_X4_22 dX4_badPlace_1 ?_
  exact g_iret cx hr hlk hw h dX4_badPlace_4

theorem p_X5_clear_ex : ∃ f : Mem → Option Mem, ∀  (μ : Mem), f  μ = bv (sF μ 39 0 (0 : Int32)) (fun μ1 => bv (sF μ1 39 1 (0 : Int32)) (fun μ2 => bv (sF μ2 39 2 (0 : Int32)) (fun μ3 => bv (sF μ3 39 3 (0 : Int32)) (fun μ4 => bv (sF μ4 39 4 (0 : Int32)) (fun μ5 => bv (sF μ5 39 5 (0 : Int32)) (fun μ6 => bv (sF μ6 39 6 (0 : Int32)) (fun μ7 => some μ7))))))) := ⟨fun  (μ : Mem) => bv (sF μ 39 0 (0 : Int32)) (fun μ1 => bv (sF μ1 39 1 (0 : Int32)) (fun μ2 => bv (sF μ2 39 2 (0 : Int32)) (fun μ3 => bv (sF μ3 39 3 (0 : Int32)) (fun μ4 => bv (sF μ4 39 4 (0 : Int32)) (fun μ5 => bv (sF μ5 39 5 (0 : Int32)) (fun μ6 => bv (sF μ6 39 6 (0 : Int32)) (fun μ7 => some μ7))))))), fun _ => rfl⟩
noncomputable def p_X5_clear : Mem → Option Mem := Classical.choose p_X5_clear_ex
theorem p_X5_clear_eq  (μ : Mem) : p_X5_clear  μ = bv (sF μ 39 0 (0 : Int32)) (fun μ1 => bv (sF μ1 39 1 (0 : Int32)) (fun μ2 => bv (sF μ2 39 2 (0 : Int32)) (fun μ3 => bv (sF μ3 39 3 (0 : Int32)) (fun μ4 => bv (sF μ4 39 4 (0 : Int32)) (fun μ5 => bv (sF μ5 39 5 (0 : Int32)) (fun μ6 => bv (sF μ6 39 6 (0 : Int32)) (fun μ7 => some μ7))))))) := Classical.choose_spec p_X5_clear_ex  μ
set_option maxHeartbeats 4000000 in
set_option maxRecDepth 100000 in
theorem t_X5_clear (l : Launch) (G : Gt) (ad : Nat → Nat)  (μ : Mem) {μz : Mem} (h : p_X5_clear  μ = some μz) : Mt l yX5_clear cX5_clear 1 none ({ frames := 0, cells := 0, slots := 0, locals := 0 } : Room) G [.ref (ad 39)] (wd 0 G ad μ) (eV 0 G ad μz) := by
  refine Bk.mt (by decide) rfl (Nat.le_of_ble_eq_true rfl) ?_
  intro p e s m below meth c A ls H locs cx hr hlk hA hl hw
  have hx := cx.1
  have hb := cx.2.1
  have hl : lv_has ls 1 [(0, .ref (ad 39))] := hl
  rw [p_X5_clear_eq] at h
  refine lv_aload_n hx hb dX5_clear_0 rfl (lv_at hl 0 rfl) ?_
  refine lv_iconst (v := 0) hx hb dX5_clear_1 (by decide) ?_
  refine g_put cx hw inX5 (ci := 4) rfl tyX5_ok nmX5 0 (by decide) rfl rfl rfl rfl shx_39 h fl_X5_40 dX5_clear_2 (fun μ1 H locs h hw => ?_)
  refine lv_aload_n hx hb dX5_clear_5 rfl (lv_at hl 0 rfl) ?_
  refine lv_iconst (v := 0) hx hb dX5_clear_6 (by decide) ?_
  refine g_put cx hw inX5 (ci := 4) rfl tyX5_ok nmX5 1 (by decide) rfl rfl rfl rfl shx_39 h fl_X5_44 dX5_clear_7 (fun μ2 H locs h hw => ?_)
  refine lv_aload_n hx hb dX5_clear_10 rfl (lv_at hl 0 rfl) ?_
  refine lv_iconst (v := 0) hx hb dX5_clear_11 (by decide) ?_
  refine g_put cx hw inX5 (ci := 4) rfl tyX5_ok nmX5 2 (by decide) rfl rfl rfl rfl shx_39 h fl_X5_48 dX5_clear_12 (fun μ3 H locs h hw => ?_)
  refine lv_aload_n hx hb dX5_clear_15 rfl (lv_at hl 0 rfl) ?_
  refine lv_iconst (v := 0) hx hb dX5_clear_16 (by decide) ?_
  refine g_put cx hw inX5 (ci := 4) rfl tyX5_ok nmX5 3 (by decide) rfl rfl rfl rfl shx_39 h fl_X5_51 dX5_clear_17 (fun μ4 H locs h hw => ?_)
  refine lv_aload_n hx hb dX5_clear_20 rfl (lv_at hl 0 rfl) ?_
  refine lv_iconst (v := 0) hx hb dX5_clear_21 (by decide) ?_
  refine g_put cx hw inX5 (ci := 4) rfl tyX5_ok nmX5 4 (by decide) rfl rfl rfl rfl shx_39 h fl_X5_54 dX5_clear_22 (fun μ5 H locs h hw => ?_)
  refine lv_aload_n hx hb dX5_clear_25 rfl (lv_at hl 0 rfl) ?_
  refine lv_iconst (v := 0) hx hb dX5_clear_26 (by decide) ?_
  refine g_put cx hw inX5 (ci := 4) rfl tyX5_ok nmX5 5 (by decide) rfl rfl rfl rfl shx_39 h fl_X5_57 dX5_clear_27 (fun μ6 H locs h hw => ?_)
  refine lv_aload_n hx hb dX5_clear_30 rfl (lv_at hl 0 rfl) ?_
  refine lv_iconst (v := 0) hx hb dX5_clear_31 (by decide) ?_
  refine g_put cx hw inX5 (ci := 4) rfl tyX5_ok nmX5 6 (by decide) rfl rfl rfl rfl shx_39 h fl_X5_60 dX5_clear_32 (fun μ7 H locs h hw => ?_)
  exact g_vret cx hr hlk hw h dX5_clear_35

theorem p_X11_program_ex : ∃ f : Mem → Option (Int32 × Mem), ∀  (μ : Mem), f  μ = bw (p_X11_takeTape μ) (fun μ1 => bw (p_X4_readProgram (sel 2 (μ1.2.2 0 5)) μ1) (fun μ3 => bd (p_X4_badPlace μ3) (fun r6 μ5 => bv (sF μ5 0 2 r6) (fun μ7 => (if (μ7.1 0 2) = (-1 : Int32) then bv (sR μ7 0 4 (sel 2 (μ7.2.2 0 5))) (fun μ9 => bv (sR μ9 0 5 (sel 2 (μ7.2.2 0 4))) (fun μ10 => bw (p_X5_clear μ10) (fun μ11 => some ((μ11.1 (sel 2 (μ11.2.2 0 4)) 0), μ11)))) else some ((-1 : Int32), μ7)))))) := ⟨fun  (μ : Mem) => bw (p_X11_takeTape μ) (fun μ1 => bw (p_X4_readProgram (sel 2 (μ1.2.2 0 5)) μ1) (fun μ3 => bd (p_X4_badPlace μ3) (fun r6 μ5 => bv (sF μ5 0 2 r6) (fun μ7 => (if (μ7.1 0 2) = (-1 : Int32) then bv (sR μ7 0 4 (sel 2 (μ7.2.2 0 5))) (fun μ9 => bv (sR μ9 0 5 (sel 2 (μ7.2.2 0 4))) (fun μ10 => bw (p_X5_clear μ10) (fun μ11 => some ((μ11.1 (sel 2 (μ11.2.2 0 4)) 0), μ11)))) else some ((-1 : Int32), μ7)))))), fun _ => rfl⟩
noncomputable def p_X11_program : Mem → Option (Int32 × Mem) := Classical.choose p_X11_program_ex
theorem p_X11_program_eq  (μ : Mem) : p_X11_program  μ = bw (p_X11_takeTape μ) (fun μ1 => bw (p_X4_readProgram (sel 2 (μ1.2.2 0 5)) μ1) (fun μ3 => bd (p_X4_badPlace μ3) (fun r6 μ5 => bv (sF μ5 0 2 r6) (fun μ7 => (if (μ7.1 0 2) = (-1 : Int32) then bv (sR μ7 0 4 (sel 2 (μ7.2.2 0 5))) (fun μ9 => bv (sR μ9 0 5 (sel 2 (μ7.2.2 0 4))) (fun μ10 => bw (p_X5_clear μ10) (fun μ11 => some ((μ11.1 (sel 2 (μ11.2.2 0 4)) 0), μ11)))) else some ((-1 : Int32), μ7)))))) := Classical.choose_spec p_X11_program_ex  μ
set_option maxHeartbeats 4000000 in
set_option maxRecDepth 100000 in
theorem t_X11_program (l : Launch) (G : Gt) (ad : Nat → Nat)  (μ : Mem) {r : Int32} {μz : Mem} (h : p_X11_program  μ = some (r, μz)) : Mt l yX11_program cX11_program 2 (some .int) ({ frames := 253, cells := 0, slots := 0, locals := 6769 } : Room) G [.ref (ad 0)] (wd 0 G ad μ) (eI 0 G ad r μz) := by
  refine Bk.mt (by decide) rfl (Nat.le_of_ble_eq_true rfl) ?_
  intro p e s m below meth c A ls H locs cx hr hlk hA hl hw
  have hx := cx.1
  have hb := cx.2.1
  have hl : lv_has ls 2 [(0, .ref (ad 0))] := hl
  rw [p_X11_program_eq] at h
  refine lv_aload_n hx hb dX11_program_0 rfl (lv_at hl 0 rfl) ?_
  obtain ⟨μ1, gμ1, h⟩ := bw_some h
  refine g_callVV (As := []) (rest := []) cx hw hA (t_X11_takeTape l G ad μ gμ1) shx_0 rfl ml_X11_124 im_X11_takeTape se_X11_takeTape in_X11 co_X11_takeTape rfl hd_X11_takeTape rfl ⟨(Nat.le_of_ble_eq_true rfl), (Nat.le_of_ble_eq_true rfl)⟩ hl.1 rfl (Nat.le_of_ble_eq_true rfl) dX11_program_1 ⟨rfl, rfl⟩ (fun H locs hw => ?_)
  refine lv_aload_n hx hb dX11_program_4 rfl (lv_at hl 0 rfl) ?_
  refine g_get cx hw inX11 (ci := 10) rfl 3 (by decide) rfl (v := .ref (ad 16)) shx_0 rfl fl_X11_35 dX11_program_5 ?_
  refine lv_aload_n hx hb dX11_program_8 rfl (lv_at hl 0 rfl) ?_
  refine g_get cx hw inX11 (ci := 10) rfl 5 (by decide) rfl (v := .ref (ad (sel 2 (μ1.2.2 0 5)))) shx_0 rfl fl_X11_27 dX11_program_9 ?_
  obtain ⟨μ3, gμ3, h⟩ := bw_some h
  refine g_callVV (As := [.ref (ad (sel 2 (μ1.2.2 0 5)))]) (rest := []) cx hw hA (t_X4_readProgram l G ad (sel 2 (μ1.2.2 0 5)) (sel_2 _) μ1 gμ3) shx_16 rfl ml_X11_127 im_X4_readProgram se_X4_readProgram in_X4 co_X4_readProgram rfl hd_X4_readProgram rfl ⟨(Nat.le_of_ble_eq_true rfl), (Nat.le_of_ble_eq_true rfl)⟩ hl.1 rfl (Nat.le_of_ble_eq_true rfl) dX11_program_12 ⟨rfl, rfl⟩ (fun H locs hw => ?_)
  refine lv_aload_n hx hb dX11_program_15 rfl (lv_at hl 0 rfl) ?_
  refine lv_aload_n hx hb dX11_program_16 rfl (lv_at hl 0 rfl) ?_
  refine g_get cx hw inX11 (ci := 10) rfl 3 (by decide) rfl (v := .ref (ad 16)) shx_0 rfl fl_X11_35 dX11_program_17 ?_
  obtain ⟨r6, μ5, gr6, h⟩ := bd_some h
  refine g_callVI (As := []) (rest := [.ref (ad 0)]) cx hw hA (t_X4_badPlace l G ad μ3 gr6) shx_16 rfl ml_X11_131 im_X4_badPlace se_X4_badPlace in_X4 co_X4_badPlace rfl hd_X4_badPlace rfl ⟨(Nat.le_of_ble_eq_true rfl), (Nat.le_of_ble_eq_true rfl)⟩ hl.1 rfl (Nat.le_of_ble_eq_true rfl) dX11_program_20 ⟨rfl, rfl⟩ (fun H locs hw => ?_)
  refine g_put cx hw inX11 (ci := 10) rfl tyX11_ok nmX11 2 (by decide) rfl rfl rfl rfl shx_0 h fl_X11_17 dX11_program_23 (fun μ7 H locs h hw => ?_)
  refine lv_aload_n hx hb dX11_program_26 rfl (lv_at hl 0 rfl) ?_
  refine g_get cx hw inX11 (ci := 10) rfl 2 (by decide) rfl (v := .int (μ7.1 0 2)) shx_0 rfl fl_X11_17 dX11_program_27 ?_
  refine lv_iconst (v := (-1)) hx hb dX11_program_30 (by decide) ?_
  refine lv_icmp_eq (tgt := 36) hx hb dX11_program_31 (by decide) (fun c8 => ?_) (fun c8 => ?_)
  · rw [if_pos c8] at h
    refine lv_aload_n hx hb dX11_program_36 rfl (lv_at hl 0 rfl) ?_
    refine g_get cx hw inX11 (ci := 10) rfl 4 (by decide) rfl (v := .ref (ad (sel 2 (μ7.2.2 0 4)))) shx_0 rfl fl_X11_23 dX11_program_37 ?_
    refine lv_astore_n (lv' := [(1, .ref (ad (sel 2 (μ7.2.2 0 4)))), (0, .ref (ad 0))]) hx hb dX11_program_40 rfl hl (by decide) rfl (fun ls hl => ?_)
    refine lv_aload_n hx hb dX11_program_41 rfl (lv_at hl 1 rfl) ?_
    refine lv_aload_n hx hb dX11_program_42 rfl (lv_at hl 1 rfl) ?_
    refine g_get cx hw inX11 (ci := 10) rfl 5 (by decide) rfl (v := .ref (ad (sel 2 (μ7.2.2 0 5)))) shx_0 rfl fl_X11_27 dX11_program_43 ?_
    refine g_putR cx hw inX11 (ci := 10) rfl tyX11_ok nmX11 4 (by decide) rfl rfl rfl rfl shx_0 (sel_2 _) h fl_X11_23 dX11_program_46 (fun μ9 H locs h hw => ?_)
    refine lv_aload_n hx hb dX11_program_49 rfl (lv_at hl 1 rfl) ?_
    refine lv_aload_n hx hb dX11_program_50 rfl (lv_at hl 0 rfl) ?_
    refine g_putR cx hw inX11 (ci := 10) rfl tyX11_ok nmX11 5 (by decide) rfl rfl rfl rfl shx_0 (sel_2 _) h fl_X11_27 dX11_program_51 (fun μ10 H locs h hw => ?_)
    refine lv_aload_n hx hb dX11_program_54 rfl (lv_at hl 1 rfl) ?_
    refine g_get cx hw inX11 (ci := 10) rfl 12 (by decide) rfl (v := .ref (ad 39)) shx_0 rfl fl_X11_67 dX11_program_55 ?_
    obtain ⟨μ11, gμ11, h⟩ := bw_some h
    refine g_callVV (As := []) (rest := []) cx hw hA (t_X5_clear l G ad μ10 gμ11) shx_39 rfl ml_X11_135 im_X5_clear se_X5_clear in_X5 co_X5_clear rfl hd_X5_clear rfl ⟨(Nat.le_of_ble_eq_true rfl), (Nat.le_of_ble_eq_true rfl)⟩ hl.1 rfl (Nat.le_of_ble_eq_true rfl) dX11_program_58 ⟨rfl, rfl⟩ (fun H locs hw => ?_)
    refine lv_aload_n hx hb dX11_program_61 rfl (lv_at hl 1 rfl) ?_
    refine g_get cx hw inX11 (ci := 10) rfl 4 (by decide) rfl (v := .ref (ad (sel 2 (μ11.2.2 0 4)))) shx_0 rfl fl_X11_23 dX11_program_62 ?_
    refine g_get cx hw inX3 (ci := 2) rfl 0 (by decide) rfl (v := .int (μ11.1 (sel 2 (μ11.2.2 0 4)) 0)) (sel_2 _) rfl fl_X11_138 dX11_program_65 ?_
    exact g_iret cx hr hlk hw h dX11_program_68
  · rw [if_neg c8] at h
    refine lv_iconst (v := (-1)) hx hb dX11_program_34 (by decide) ?_
    exact g_iret cx hr hlk hw h dX11_program_35

theorem p_X2_begin_ex : ∃ f : Nat → Int32 → Mem → Option Mem, ∀ (a0 : Nat) (a1 : Int32) (μ : Mem), f a0 a1 μ = bv (sF μ a0 2 (0 : Int32)) (fun μ1 => bv (sF μ1 a0 3 a1) (fun μ2 => some μ2)) := ⟨fun (a0 : Nat) (a1 : Int32) (μ : Mem) => bv (sF μ a0 2 (0 : Int32)) (fun μ1 => bv (sF μ1 a0 3 a1) (fun μ2 => some μ2)), fun _ _ _ => rfl⟩
noncomputable def p_X2_begin : Nat → Int32 → Mem → Option Mem := Classical.choose p_X2_begin_ex
theorem p_X2_begin_eq (a0 : Nat) (a1 : Int32) (μ : Mem) : p_X2_begin a0 a1 μ = bv (sF μ a0 2 (0 : Int32)) (fun μ1 => bv (sF μ1 a0 3 a1) (fun μ2 => some μ2)) := Classical.choose_spec p_X2_begin_ex a0 a1 μ
set_option maxHeartbeats 4000000 in
set_option maxRecDepth 100000 in
theorem t_X2_begin (l : Launch) (G : Gt) (ad : Nat → Nat) (a0 : Nat) (q0 : sh 0 a0 = (0, 1)) (a1 : Int32) (μ : Mem) {μz : Mem} (h : p_X2_begin a0 a1 μ = some μz) : Mt l yX2_begin cX2_begin 2 none ({ frames := 0, cells := 0, slots := 0, locals := 0 } : Room) G [.ref (ad a0), .int a1] (wd 0 G ad μ) (eV 0 G ad μz) := by
  refine Bk.mt (by decide) rfl (Nat.le_of_ble_eq_true rfl) ?_
  intro p e s m below meth c A ls H locs cx hr hlk hA hl hw
  have hx := cx.1
  have hb := cx.2.1
  have hl : lv_has ls 2 [(0, .ref (ad a0)), (1, .int a1)] := hl
  rw [p_X2_begin_eq] at h
  refine lv_aload_n hx hb dX2_begin_0 rfl (lv_at hl 0 rfl) ?_
  refine lv_iconst (v := 0) hx hb dX2_begin_1 (by decide) ?_
  refine g_put cx hw inX2 (ci := 1) rfl tyX2_ok nmX2 2 (by decide) rfl rfl rfl rfl q0 h fl_X2_18 dX2_begin_2 (fun μ1 H locs h hw => ?_)
  refine lv_aload_n hx hb dX2_begin_5 rfl (lv_at hl 0 rfl) ?_
  refine lv_iload_n hx hb dX2_begin_6 rfl (lv_at hl 1 rfl) ?_
  refine g_put cx hw inX2 (ci := 1) rfl tyX2_ok nmX2 3 (by decide) rfl rfl rfl rfl q0 h fl_X2_22 dX2_begin_7 (fun μ2 H locs h hw => ?_)
  exact g_vret cx hr hlk hw h dX2_begin_10

theorem p_X2_add_ex : ∃ f : Nat → Int64 → Int64 → Mem → Option Mem, ∀ (a0 : Nat) (a1 : Int64) (a3 : Int64) (μ : Mem), f a0 a1 a3 μ = (if (Int32.ofNat ((sh 0 (a0 + 1)).2)) ≤ (μ.1 a0 2) then some μ else gd (inb (μ.1 a0 2) ((sh 0 (a0 + 1)).2)) (bv (sL μ (a0 + 1) (μ.1 a0 2).toNatClampNeg a1) (fun μ2 => gd (inb (μ2.1 a0 2) ((sh 0 (a0 + 2)).2)) (bv (sL μ2 (a0 + 2) (μ2.1 a0 2).toNatClampNeg a3) (fun μ3 => bv (sF μ3 a0 2 ((μ3.1 a0 2) + (1 : Int32))) (fun μ4 => some μ4)))))) := ⟨fun (a0 : Nat) (a1 : Int64) (a3 : Int64) (μ : Mem) => (if (Int32.ofNat ((sh 0 (a0 + 1)).2)) ≤ (μ.1 a0 2) then some μ else gd (inb (μ.1 a0 2) ((sh 0 (a0 + 1)).2)) (bv (sL μ (a0 + 1) (μ.1 a0 2).toNatClampNeg a1) (fun μ2 => gd (inb (μ2.1 a0 2) ((sh 0 (a0 + 2)).2)) (bv (sL μ2 (a0 + 2) (μ2.1 a0 2).toNatClampNeg a3) (fun μ3 => bv (sF μ3 a0 2 ((μ3.1 a0 2) + (1 : Int32))) (fun μ4 => some μ4)))))), fun _ _ _ _ => rfl⟩
noncomputable def p_X2_add : Nat → Int64 → Int64 → Mem → Option Mem := Classical.choose p_X2_add_ex
theorem p_X2_add_eq (a0 : Nat) (a1 : Int64) (a3 : Int64) (μ : Mem) : p_X2_add a0 a1 a3 μ = (if (Int32.ofNat ((sh 0 (a0 + 1)).2)) ≤ (μ.1 a0 2) then some μ else gd (inb (μ.1 a0 2) ((sh 0 (a0 + 1)).2)) (bv (sL μ (a0 + 1) (μ.1 a0 2).toNatClampNeg a1) (fun μ2 => gd (inb (μ2.1 a0 2) ((sh 0 (a0 + 2)).2)) (bv (sL μ2 (a0 + 2) (μ2.1 a0 2).toNatClampNeg a3) (fun μ3 => bv (sF μ3 a0 2 ((μ3.1 a0 2) + (1 : Int32))) (fun μ4 => some μ4)))))) := Classical.choose_spec p_X2_add_ex a0 a1 a3 μ
set_option maxHeartbeats 4000000 in
set_option maxRecDepth 100000 in
theorem t_X2_add (l : Launch) (G : Gt) (ad : Nat → Nat) (a0 : Nat) (q0 : sh 0 a0 = (0, 1)) (a1 : Int64) (a3 : Int64) (μ : Mem) {μz : Mem} (h : p_X2_add a0 a1 a3 μ = some μz) : Mt l yX2_add cX2_add 5 none ({ frames := 0, cells := 0, slots := 0, locals := 0 } : Room) G [.ref (ad a0), .long a1, .long a3] (wd 0 G ad μ) (eV 0 G ad μz) := by
  refine Bk.mt (by decide) rfl (Nat.le_of_ble_eq_true rfl) ?_
  intro p e s m below meth c A ls H locs cx hr hlk hA hl hw
  have hx := cx.1
  have hb := cx.2.1
  have hl : lv_has ls 5 [(0, .ref (ad a0)), (1, .long a1), (3, .long a3)] := hl
  rw [p_X2_add_eq] at h
  refine lv_aload_n hx hb dX2_add_0 rfl (lv_at hl 0 rfl) ?_
  refine g_get cx hw inX2 (ci := 1) rfl 2 (by decide) rfl (v := .int (μ.1 a0 2)) q0 rfl fl_X2_18 dX2_add_1 ?_
  refine lv_aload_n hx hb dX2_add_4 rfl (lv_at hl 0 rfl) ?_
  refine g_get cx hw inX2 (ci := 1) rfl 0 (by decide) rfl (v := .ref (ad (a0 + 1))) q0 rfl fl_X2_9 dX2_add_5 ?_
  refine g_alen3 cx hw (rl_X2_0 q0) rfl dX2_add_8 ?_
  refine lv_icmp_ge (tgt := 42) hx hb dX2_add_9 (by decide) (fun c1 => ?_) (fun c1 => ?_)
  · rw [if_pos c1] at h
    exact g_vret cx hr hlk hw h dX2_add_42
  · rw [if_neg c1] at h
    refine lv_aload_n hx hb dX2_add_12 rfl (lv_at hl 0 rfl) ?_
    refine g_get cx hw inX2 (ci := 1) rfl 0 (by decide) rfl (v := .ref (ad (a0 + 1))) q0 rfl fl_X2_9 dX2_add_13 ?_
    refine lv_aload_n hx hb dX2_add_16 rfl (lv_at hl 0 rfl) ?_
    refine g_get cx hw inX2 (ci := 1) rfl 2 (by decide) rfl (v := .int (μ.1 a0 2)) q0 rfl fl_X2_18 dX2_add_17 ?_
    refine lv_lload_n hx hb dX2_add_20 rfl (lv_at hl 1 rfl) ?_
    refine g_last cx hw (rl_X2_0 q0) h dX2_add_21 (fun μ2 H locs h hw => ?_)
    refine lv_aload_n hx hb dX2_add_22 rfl (lv_at hl 0 rfl) ?_
    refine g_get cx hw inX2 (ci := 1) rfl 1 (by decide) rfl (v := .ref (ad (a0 + 2))) q0 rfl fl_X2_15 dX2_add_23 ?_
    refine lv_aload_n hx hb dX2_add_26 rfl (lv_at hl 0 rfl) ?_
    refine g_get cx hw inX2 (ci := 1) rfl 2 (by decide) rfl (v := .int (μ2.1 a0 2)) q0 rfl fl_X2_18 dX2_add_27 ?_
    refine lv_lload_n hx hb dX2_add_30 rfl (lv_at hl 2 rfl) ?_
    refine g_last cx hw (rl_X2_1 q0) h dX2_add_31 (fun μ3 H locs h hw => ?_)
    refine lv_aload_n hx hb dX2_add_32 rfl (lv_at hl 0 rfl) ?_
    refine lv_dup hx hb dX2_add_33 rfl ?_
    refine g_get cx hw inX2 (ci := 1) rfl 2 (by decide) rfl (v := .int (μ3.1 a0 2)) q0 rfl fl_X2_18 dX2_add_34 ?_
    refine lv_iconst (v := 1) hx hb dX2_add_37 (by decide) ?_
    refine lv_iadd hx hb dX2_add_38 ?_
    refine g_put cx hw inX2 (ci := 1) rfl tyX2_ok nmX2 2 (by decide) rfl rfl rfl rfl q0 h fl_X2_18 dX2_add_39 (fun μ4 H locs h hw => ?_)
    exact g_vret cx hr hlk hw h dX2_add_42

theorem p_X2_stars_b28_ex : ∃ f : (Nat → Int32 → Int32 → Mem → Option (Int32 × Mem)) → Nat → Int32 → Int32 → Mem → Option (Int32 × Mem), ∀ (K4 : Nat → Int32 → Int32 → Mem → Option (Int32 × Mem)) (a0 : Nat) (a1 : Int32) (a2 : Int32) (μ : Mem), f K4 a0 a1 a2 μ = bv (a2 + 1) (fun v3 => K4 a0 a1 v3 μ) := ⟨fun (K4 : Nat → Int32 → Int32 → Mem → Option (Int32 × Mem)) (a0 : Nat) (a1 : Int32) (a2 : Int32) (μ : Mem) => bv (a2 + 1) (fun v3 => K4 a0 a1 v3 μ), fun _ _ _ _ _ => rfl⟩
noncomputable def p_X2_stars_b28 : (Nat → Int32 → Int32 → Mem → Option (Int32 × Mem)) → Nat → Int32 → Int32 → Mem → Option (Int32 × Mem) := Classical.choose p_X2_stars_b28_ex
theorem p_X2_stars_b28_eq (K4 : Nat → Int32 → Int32 → Mem → Option (Int32 × Mem)) (a0 : Nat) (a1 : Int32) (a2 : Int32) (μ : Mem) : p_X2_stars_b28 K4 a0 a1 a2 μ = bv (a2 + 1) (fun v3 => K4 a0 a1 v3 μ) := Classical.choose_spec p_X2_stars_b28_ex K4 a0 a1 a2 μ
set_option maxHeartbeats 4000000 in
set_option maxRecDepth 100000 in
theorem t_X2_stars_b28 (l : Launch) (G : Gt) (ad : Nat → Nat) (av : List Value) {r : Int32} {μz : Mem} (K4 : Nat → Int32 → Int32 → Mem → Option (Int32 × Mem)) (hK4 : ∀ (z0 : Nat) (w0 : sh 0 z0 = (0, 1)) (z1 : Int32) (z2 : Int32) (μ1 : Mem), K4 z0 z1 z2 μ1 = some (r, μz) → Bk l cX2_stars 3 RX2 (some .int) ({ frames := 1, cells := 0, slots := 0, locals := 21 } : Room) G av (eI 0 G ad r μz) (wd 0 G ad μ1) 4 [(0, .ref (ad z0)), (1, .int z1), (2, .int z2)] []) (a0 : Nat) (q0 : sh 0 a0 = (0, 1)) (a1 : Int32) (a2 : Int32) (μ : Mem) (h : p_X2_stars_b28 K4 a0 a1 a2 μ = some (r, μz)) : Bk l cX2_stars 3 RX2 (some .int) ({ frames := 1, cells := 0, slots := 0, locals := 21 } : Room) G av (eI 0 G ad r μz) (wd 0 G ad μ) 28 [(0, .ref (ad a0)), (1, .int a1), (2, .int a2)] [] := by
  intro p e s m below meth c A ls H locs cx hr hlk hA hl hw
  have hx := cx.1
  have hb := cx.2.1
  rw [p_X2_stars_b28_eq] at h
  obtain ⟨v3, ev3, h⟩ := bv_ex h
  refine lv_iinc (v := v3) (lv' := [(2, .int v3), (0, .ref (ad a0)), (1, .int a1)]) hx hb dX2_stars_28 hl (k := 2) rfl (by rw [ev3]; rfl) (by decide) rfl (fun ls hl => ?_)
  refine lv_goto (tgt := 4) hx hb dX2_stars_31 (by decide) ?_
  exact hK4 a0 q0 a1 v3 μ h p e s m below meth c A ls H locs cx hr hlk hA (lv_sub hl [1, 2, 0] rfl) hw
theorem p_X2_stars_b4_ex : ∃ f : Nat → Nat → Int32 → Int32 → Mem → Option (Int32 × Mem), (∀ (a0 : Nat) (a1 : Int32) (a2 : Int32) (μ : Mem), f  0 a0 a1 a2 μ = none) ∧ (∀ (n : Nat) (a0 : Nat) (a1 : Int32) (a2 : Int32) (μ : Mem), f  (n + 1) a0 a1 a2 μ = (if (μ.1 a0 2) ≤ a2 then some (a1, μ) else gd (inb a2 ((sh 0 (a0 + 1)).2)) ((if (s_X0_kind (μ.2.1 (a0 + 1) a2.toNatClampNeg)) = (4 : Int32) then bv (a1 + 1) (fun v4 => p_X2_stars_b28 (f n) a0 v4 a2 μ) else p_X2_stars_b28 (f n) a0 a1 a2 μ)))) := ⟨fun n => Nat.rec (fun (a0 : Nat) (a1 : Int32) (a2 : Int32) (μ : Mem) => none) (fun _ ih => fun (a0 : Nat) (a1 : Int32) (a2 : Int32) (μ : Mem) => (if (μ.1 a0 2) ≤ a2 then some (a1, μ) else gd (inb a2 ((sh 0 (a0 + 1)).2)) ((if (s_X0_kind (μ.2.1 (a0 + 1) a2.toNatClampNeg)) = (4 : Int32) then bv (a1 + 1) (fun v4 => p_X2_stars_b28 (ih) a0 v4 a2 μ) else p_X2_stars_b28 (ih) a0 a1 a2 μ)))) n, fun  _ _ _ _ => rfl, fun  _ _ _ _ _ => rfl⟩
noncomputable def p_X2_stars_b4 : Nat → Nat → Int32 → Int32 → Mem → Option (Int32 × Mem) := Classical.choose p_X2_stars_b4_ex
theorem p_X2_stars_b4_z (a0 : Nat) (a1 : Int32) (a2 : Int32) (μ : Mem) : p_X2_stars_b4  0 a0 a1 a2 μ = none := (Classical.choose_spec p_X2_stars_b4_ex).1  a0 a1 a2 μ
theorem p_X2_stars_b4_s (n : Nat) (a0 : Nat) (a1 : Int32) (a2 : Int32) (μ : Mem) : p_X2_stars_b4  (n + 1) a0 a1 a2 μ = (if (μ.1 a0 2) ≤ a2 then some (a1, μ) else gd (inb a2 ((sh 0 (a0 + 1)).2)) ((if (s_X0_kind (μ.2.1 (a0 + 1) a2.toNatClampNeg)) = (4 : Int32) then bv (a1 + 1) (fun v4 => p_X2_stars_b28 (p_X2_stars_b4  n) a0 v4 a2 μ) else p_X2_stars_b28 (p_X2_stars_b4  n) a0 a1 a2 μ))) := (Classical.choose_spec p_X2_stars_b4_ex).2  n a0 a1 a2 μ
set_option maxHeartbeats 4000000 in
set_option maxRecDepth 100000 in
theorem t_X2_stars_b4 (l : Launch) (G : Gt) (ad : Nat → Nat) (av : List Value) {r : Int32} {μz : Mem} : ∀ (n : Nat) (a0 : Nat) (q0 : sh 0 a0 = (0, 1)) (a1 : Int32) (a2 : Int32) (μ : Mem), p_X2_stars_b4  n a0 a1 a2 μ = some (r, μz) → Bk l cX2_stars 3 RX2 (some .int) ({ frames := 1, cells := 0, slots := 0, locals := 21 } : Room) G av (eI 0 G ad r μz) (wd 0 G ad μ) 4 [(0, .ref (ad a0)), (1, .int a1), (2, .int a2)] [] := by
  intro n
  induction n with
  | zero => intro a0 q0 a1 a2 μ h; rw [p_X2_stars_b4_z] at h; cases h
  | succ n ih =>
    intro a0 q0 a1 a2 μ h p e s m below meth c A ls H locs cx hr hlk hA hl hw
    have hx := cx.1
    have hb := cx.2.1
    rw [p_X2_stars_b4_s] at h
    refine lv_iload_n hx hb dX2_stars_4 rfl (lv_at hl 2 rfl) ?_
    refine lv_aload_n hx hb dX2_stars_5 rfl (lv_at hl 0 rfl) ?_
    refine g_get cx hw inX2 (ci := 1) rfl 2 (by decide) rfl (v := .int (μ.1 a0 2)) q0 rfl fl_X2_18 dX2_stars_6 ?_
    refine lv_icmp_ge (tgt := 34) hx hb dX2_stars_9 (by decide) (fun c1 => ?_) (fun c1 => ?_)
    · rw [if_pos c1] at h
      refine lv_iload_n hx hb dX2_stars_34 rfl (lv_at hl 1 rfl) ?_
      exact g_iret cx hr hlk hw h dX2_stars_35
    · rw [if_neg c1] at h
      refine lv_aload_n hx hb dX2_stars_12 rfl (lv_at hl 0 rfl) ?_
      refine g_get cx hw inX2 (ci := 1) rfl 0 (by decide) rfl (v := .ref (ad (a0 + 1))) q0 rfl fl_X2_9 dX2_stars_13 ?_
      refine lv_iload_n hx hb dX2_stars_16 rfl (lv_at hl 2 rfl) ?_
      refine g_lald cx hw (rl_X2_0 q0) h dX2_stars_17 (fun h => ?_)
      refine s_callI (As := [.long (μ.2.1 (a0 + 1) a2.toNatClampNeg)]) (rest := []) cx hw hA (t_X0_kind l G (μ.2.1 (a0 + 1) a2.toNatClampNeg)) ml_X2_37 st_X0_kind in_X0 co_X0_kind hd_X0_kind rfl ⟨(Nat.le_of_ble_eq_true rfl), (Nat.le_of_ble_eq_true rfl)⟩ hl.1 rfl (Nat.le_of_ble_eq_true rfl) dX2_stars_18 rfl (fun H locs hw => ?_)
      refine lv_iconst (v := 4) hx hb dX2_stars_21 (by decide) ?_
      refine lv_icmp_ne (tgt := 28) hx hb dX2_stars_22 (by decide) (fun c2 => ?_) (fun c2 => ?_)
      · rw [if_neg c2] at h
        exact t_X2_stars_b28 l G ad av _ ih a0 q0 a1 a2 μ h p e s m below meth c A ls H locs cx hr hlk hA (lv_sub hl [0, 1, 2] rfl) hw
      · rw [if_pos c2] at h
        obtain ⟨v4, ev4, h⟩ := bv_ex h
        refine lv_iinc (v := v4) (lv' := [(1, .int v4), (0, .ref (ad a0)), (2, .int a2)]) hx hb dX2_stars_25 hl (k := 1) rfl (by rw [ev4]; rfl) (by decide) rfl (fun ls hl => ?_)
        exact t_X2_stars_b28 l G ad av _ ih a0 q0 v4 a2 μ h p e s m below meth c A ls H locs cx hr hlk hA (lv_sub hl [1, 0, 2] rfl) hw
theorem p_X2_stars_ex : ∃ f : Nat → Mem → Option (Int32 × Mem), ∀ (a0 : Nat) (μ : Mem), f a0 μ = p_X2_stars_b4  FUEL a0 (0 : Int32) (0 : Int32) μ := ⟨fun (a0 : Nat) (μ : Mem) => p_X2_stars_b4  FUEL a0 (0 : Int32) (0 : Int32) μ, fun _ _ => rfl⟩
noncomputable def p_X2_stars : Nat → Mem → Option (Int32 × Mem) := Classical.choose p_X2_stars_ex
theorem p_X2_stars_eq (a0 : Nat) (μ : Mem) : p_X2_stars a0 μ = p_X2_stars_b4  FUEL a0 (0 : Int32) (0 : Int32) μ := Classical.choose_spec p_X2_stars_ex a0 μ
set_option maxHeartbeats 4000000 in
set_option maxRecDepth 100000 in
theorem t_X2_stars (l : Launch) (G : Gt) (ad : Nat → Nat) (a0 : Nat) (q0 : sh 0 a0 = (0, 1)) (μ : Mem) {r : Int32} {μz : Mem} (h : p_X2_stars a0 μ = some (r, μz)) : Mt l yX2_stars cX2_stars 3 (some .int) ({ frames := 1, cells := 0, slots := 0, locals := 21 } : Room) G [.ref (ad a0)] (wd 0 G ad μ) (eI 0 G ad r μz) := by
  refine Bk.mt (by decide) rfl (Nat.le_of_ble_eq_true rfl) ?_
  intro p e s m below meth c A ls H locs cx hr hlk hA hl hw
  have hx := cx.1
  have hb := cx.2.1
  have hl : lv_has ls 3 [(0, .ref (ad a0))] := hl
  rw [p_X2_stars_eq] at h
  refine lv_iconst (v := 0) hx hb dX2_stars_0 (by decide) ?_
  refine lv_istore_n (lv' := [(1, .int 0), (0, .ref (ad a0))]) hx hb dX2_stars_1 rfl hl (by decide) rfl (fun ls hl => ?_)
  refine lv_iconst (v := 0) hx hb dX2_stars_2 (by decide) ?_
  refine lv_istore_n (lv' := [(2, .int 0), (1, .int 0), (0, .ref (ad a0))]) hx hb dX2_stars_3 rfl hl (by decide) rfl (fun ls hl => ?_)
  exact t_X2_stars_b4 l G ad _  FUEL a0 q0 (0 : Int32) (0 : Int32) μ h p e s m below meth c A ls H locs cx hr hlk hA (lv_sub hl [2, 1, 0] rfl) hw
