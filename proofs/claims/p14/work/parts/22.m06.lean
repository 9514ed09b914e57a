theorem p_X12_instruction_ex : ∃ f : Int32 → Int32 → Mem → Option (Int32 × Mem), ∀ (a1 : Int32) (a2 : Int32) (μ : Mem), f a1 a2 μ = bd (p_X12_item a1 μ) (fun r2 μ1 => bw (p_X12_countInstruction r2 a2 μ1) (fun μ3 => some (r2, μ3))) := ⟨fun (a1 : Int32) (a2 : Int32) (μ : Mem) => bd (p_X12_item a1 μ) (fun r2 μ1 => bw (p_X12_countInstruction r2 a2 μ1) (fun μ3 => some (r2, μ3))), fun _ _ _ => rfl⟩
noncomputable def p_X12_instruction : Int32 → Int32 → Mem → Option (Int32 × Mem) := Classical.choose p_X12_instruction_ex
theorem p_X12_instruction_eq (a1 : Int32) (a2 : Int32) (μ : Mem) : p_X12_instruction a1 a2 μ = bd (p_X12_item a1 μ) (fun r2 μ1 => bw (p_X12_countInstruction r2 a2 μ1) (fun μ3 => some (r2, μ3))) := Classical.choose_spec p_X12_instruction_ex a1 a2 μ
set_option maxHeartbeats 4000000 in
set_option maxRecDepth 100000 in
theorem t_X12_instruction (l : Launch) (G : Gt) (ad : Nat → Nat) (a1 : Int32) (a2 : Int32) (μ : Mem) {r : Int32} {μz : Mem} (h : p_X12_instruction a1 a2 μ = some (r, μz)) : Mt l yX12_instruction cX12_instruction 4 (some .int) ({ frames := 1, cells := 0, slots := 0, locals := 22 } : Room) G [.ref (ad 0), .int a1, .int a2] (wd 1 G ad μ) (eI 1 G ad r μz) := by
  refine Bk.mt (by decide) rfl (Nat.le_of_ble_eq_true rfl) ?_
  intro p e s m below meth c A ls H locs cx hr hlk hA hl hw
  have hx := cx.1
  have hb := cx.2.1
  have hl : lv_has ls 4 [(0, .ref (ad 0)), (1, .int a1), (2, .int a2)] := hl
  rw [p_X12_instruction_eq] at h
  refine lv_aload_n hx hb dX12_instruction_0 rfl (lv_at hl 0 rfl) ?_
  refine lv_iload_n hx hb dX12_instruction_1 rfl (lv_at hl 1 rfl) ?_
  obtain ⟨r2, μ1, gr2, h⟩ := bd_some h
  refine g_callVI (As := [.int a1]) (rest := []) cx hw hA (t_X12_item l G ad a1 μ gr2) shm_0 rfl ml_X12_606 im_X12_item se_X12_item in_X12 co_X12_item rfl hd_X12_item rfl ⟨(Nat.le_of_ble_eq_true rfl), (Nat.le_of_ble_eq_true rfl)⟩ hl.1 rfl (Nat.le_of_ble_eq_true rfl) dX12_instruction_2 ⟨rfl, rfl⟩ (fun H locs hw => ?_)
  refine lv_istore_n (lv' := [(3, .int r2), (0, .ref (ad 0)), (1, .int a1), (2, .int a2)]) hx hb dX12_instruction_5 rfl hl (by decide) rfl (fun ls hl => ?_)
  refine lv_aload_n hx hb dX12_instruction_6 rfl (lv_at hl 1 rfl) ?_
  refine lv_iload_n hx hb dX12_instruction_7 rfl (lv_at hl 0 rfl) ?_
  refine lv_iload_n hx hb dX12_instruction_8 rfl (lv_at hl 3 rfl) ?_
  obtain ⟨μ3, gμ3, h⟩ := bw_some h
  refine g_callVV (As := [.int r2, .int a2]) (rest := []) cx hw hA (t_X12_countInstruction l G ad r2 a2 μ1 gμ3) shm_0 rfl ml_X12_694 im_X12_countInstruction se_X12_countInstruction in_X12 co_X12_countInstruction rfl hd_X12_countInstruction rfl ⟨(Nat.le_of_ble_eq_true rfl), (Nat.le_of_ble_eq_true rfl)⟩ hl.1 rfl (Nat.le_of_ble_eq_true rfl) dX12_instruction_9 ⟨rfl, rfl⟩ (fun H locs hw => ?_)
  refine lv_iload_n hx hb dX12_instruction_12 rfl (lv_at hl 0 rfl) ?_
  exact g_iret cx hr hlk hw h dX12_instruction_13

theorem p_X12_operand_ex : ∃ f : Int32 → Int32 → Mem → Option Mem, ∀ (a1 : Int32) (a2 : Int32) (μ : Mem), f a1 a2 μ = gd (inb a2 100000) (gd (inb (μ.1 0 88) 4200) (bv (sF μ 53 (μ.1 0 88).toNatClampNeg (μ.1 30 a2.toNatClampNeg)) (fun μ1 => gd (inb a2 100000) (gd (inb (μ1.1 0 88) 4200) (bv (sF μ1 54 (μ1.1 0 88).toNatClampNeg (μ1.1 31 a2.toNatClampNeg)) (fun μ2 => bv (sF μ2 0 88 ((μ2.1 0 88) + (1 : Int32))) (fun μ3 => gd (inb a1 960) (gd (inb a1 960) (bv (sF μ3 52 a1.toNatClampNeg ((μ3.1 52 a1.toNatClampNeg) + (1 : Int32))) (fun μ4 => some μ4)))))))))) := ⟨fun (a1 : Int32) (a2 : Int32) (μ : Mem) => gd (inb a2 100000) (gd (inb (μ.1 0 88) 4200) (bv (sF μ 53 (μ.1 0 88).toNatClampNeg (μ.1 30 a2.toNatClampNeg)) (fun μ1 => gd (inb a2 100000) (gd (inb (μ1.1 0 88) 4200) (bv (sF μ1 54 (μ1.1 0 88).toNatClampNeg (μ1.1 31 a2.toNatClampNeg)) (fun μ2 => bv (sF μ2 0 88 ((μ2.1 0 88) + (1 : Int32))) (fun μ3 => gd (inb a1 960) (gd (inb a1 960) (bv (sF μ3 52 a1.toNatClampNeg ((μ3.1 52 a1.toNatClampNeg) + (1 : Int32))) (fun μ4 => some μ4)))))))))), fun _ _ _ => rfl⟩
noncomputable def p_X12_operand : Int32 → Int32 → Mem → Option Mem := Classical.choose p_X12_operand_ex
theorem p_X12_operand_eq (a1 : Int32) (a2 : Int32) (μ : Mem) : p_X12_operand a1 a2 μ = gd (inb a2 100000) (gd (inb (μ.1 0 88) 4200) (bv (sF μ 53 (μ.1 0 88).toNatClampNeg (μ.1 30 a2.toNatClampNeg)) (fun μ1 => gd (inb a2 100000) (gd (inb (μ1.1 0 88) 4200) (bv (sF μ1 54 (μ1.1 0 88).toNatClampNeg (μ1.1 31 a2.toNatClampNeg)) (fun μ2 => bv (sF μ2 0 88 ((μ2.1 0 88) + (1 : Int32))) (fun μ3 => gd (inb a1 960) (gd (inb a1 960) (bv (sF μ3 52 a1.toNatClampNeg ((μ3.1 52 a1.toNatClampNeg) + (1 : Int32))) (fun μ4 => some μ4)))))))))) := Classical.choose_spec p_X12_operand_ex a1 a2 μ
set_option maxHeartbeats 4000000 in
set_option maxRecDepth 100000 in
theorem t_X12_operand (l : Launch) (G : Gt) (ad : Nat → Nat) (a1 : Int32) (a2 : Int32) (μ : Mem) {μz : Mem} (h : p_X12_operand a1 a2 μ = some μz) : Mt l yX12_operand cX12_operand 3 none ({ frames := 0, cells := 0, slots := 0, locals := 0 } : Room) G [.ref (ad 0), .int a1, .int a2] (wd 1 G ad μ) (eV 1 G ad μz) := by
  refine Bk.mt (by decide) rfl (Nat.le_of_ble_eq_true rfl) ?_
  intro p e s m below meth c A ls H locs cx hr hlk hA hl hw
  have hx := cx.1
  have hb := cx.2.1
  have hl : lv_has ls 3 [(0, .ref (ad 0)), (1, .int a1), (2, .int a2)] := hl
  rw [p_X12_operand_eq] at h
  refine lv_aload_n hx hb dX12_operand_0 rfl (lv_at hl 0 rfl) ?_
  refine g_get cx hw inX12 (ci := 11) rfl 85 (by decide) rfl (v := .ref (ad 53)) shm_0 rfl fl_X12_175 dX12_operand_1 ?_
  refine lv_aload_n hx hb dX12_operand_4 rfl (lv_at hl 0 rfl) ?_
  refine g_get cx hw inX12 (ci := 11) rfl 88 (by decide) rfl (v := .int (μ.1 0 88)) shm_0 rfl fl_X12_685 dX12_operand_5 ?_
  refine lv_aload_n hx hb dX12_operand_8 rfl (lv_at hl 0 rfl) ?_
  refine g_get cx hw inX12 (ci := 11) rfl 51 (by decide) rfl (v := .ref (ad 30)) shm_0 rfl fl_X12_106 dX12_operand_9 ?_
  refine lv_iload_n hx hb dX12_operand_12 rfl (lv_at hl 2 rfl) ?_
  refine g_iald cx hw shm_30 h dX12_operand_13 (fun h => ?_)
  refine g_iast cx hw shm_53 h dX12_operand_14 (fun μ1 H locs h hw => ?_)
  refine lv_aload_n hx hb dX12_operand_15 rfl (lv_at hl 0 rfl) ?_
  refine g_get cx hw inX12 (ci := 11) rfl 86 (by decide) rfl (v := .ref (ad 54)) shm_0 rfl fl_X12_178 dX12_operand_16 ?_
  refine lv_aload_n hx hb dX12_operand_19 rfl (lv_at hl 0 rfl) ?_
  refine g_get cx hw inX12 (ci := 11) rfl 88 (by decide) rfl (v := .int (μ1.1 0 88)) shm_0 rfl fl_X12_685 dX12_operand_20 ?_
  refine lv_aload_n hx hb dX12_operand_23 rfl (lv_at hl 0 rfl) ?_
  refine g_get cx hw inX12 (ci := 11) rfl 52 (by decide) rfl (v := .ref (ad 31)) shm_0 rfl fl_X12_109 dX12_operand_24 ?_
  refine lv_iload_n hx hb dX12_operand_27 rfl (lv_at hl 2 rfl) ?_
  refine g_iald cx hw shm_31 h dX12_operand_28 (fun h => ?_)
  refine g_iast cx hw shm_54 h dX12_operand_29 (fun μ2 H locs h hw => ?_)
  refine lv_aload_n hx hb dX12_operand_30 rfl (lv_at hl 0 rfl) ?_
  refine lv_dup hx hb dX12_operand_31 rfl ?_
  refine g_get cx hw inX12 (ci := 11) rfl 88 (by decide) rfl (v := .int (μ2.1 0 88)) shm_0 rfl fl_X12_685 dX12_operand_32 ?_
  refine lv_iconst (v := 1) hx hb dX12_operand_35 (by decide) ?_
  refine lv_iadd hx hb dX12_operand_36 ?_
  refine g_put cx hw inX12 (ci := 11) rfl tyX12_ok nmX12 88 (by decide) rfl rfl rfl rfl shm_0 h fl_X12_685 dX12_operand_37 (fun μ3 H locs h hw => ?_)
  refine lv_aload_n hx hb dX12_operand_40 rfl (lv_at hl 0 rfl) ?_
  refine g_get cx hw inX12 (ci := 11) rfl 84 (by decide) rfl (v := .ref (ad 52)) shm_0 rfl fl_X12_172 dX12_operand_41 ?_
  refine lv_iload_n hx hb dX12_operand_44 rfl (lv_at hl 1 rfl) ?_
  refine lv_dup2_11 hx hb dX12_operand_45 rfl rfl ?_
  refine g_iald cx hw shm_52 h dX12_operand_46 (fun h => ?_)
  refine lv_iconst (v := 1) hx hb dX12_operand_47 (by decide) ?_
  refine lv_iadd hx hb dX12_operand_48 ?_
  refine g_iast cx hw shm_52 h dX12_operand_49 (fun μ4 H locs h hw => ?_)
  exact g_vret cx hr hlk hw h dX12_operand_50

theorem p_X12_registerOf_ex : ∃ f : Int32 → Mem → Option (Int32 × Mem), ∀ (a1 : Int32) (μ : Mem), f a1 μ = gd (inb a1 960) (bd (p_X12_node (3 : Int32) (μ.1 47 a1.toNatClampNeg) μ) (fun r2 μ1 => some (r2, μ1))) := ⟨fun (a1 : Int32) (μ : Mem) => gd (inb a1 960) (bd (p_X12_node (3 : Int32) (μ.1 47 a1.toNatClampNeg) μ) (fun r2 μ1 => some (r2, μ1))), fun _ _ => rfl⟩
noncomputable def p_X12_registerOf : Int32 → Mem → Option (Int32 × Mem) := Classical.choose p_X12_registerOf_ex
theorem p_X12_registerOf_eq (a1 : Int32) (μ : Mem) : p_X12_registerOf a1 μ = gd (inb a1 960) (bd (p_X12_node (3 : Int32) (μ.1 47 a1.toNatClampNeg) μ) (fun r2 μ1 => some (r2, μ1))) := Classical.choose_spec p_X12_registerOf_ex a1 μ
set_option maxHeartbeats 4000000 in
set_option maxRecDepth 100000 in
theorem t_X12_registerOf (l : Launch) (G : Gt) (ad : Nat → Nat) (a1 : Int32) (μ : Mem) {r : Int32} {μz : Mem} (h : p_X12_registerOf a1 μ = some (r, μz)) : Mt l yX12_registerOf cX12_registerOf 2 (some .int) ({ frames := 1, cells := 0, slots := 0, locals := 22 } : Room) G [.ref (ad 0), .int a1] (wd 1 G ad μ) (eI 1 G ad r μz) := by
  refine Bk.mt (by decide) rfl (Nat.le_of_ble_eq_true rfl) ?_
  intro p e s m below meth c A ls H locs cx hr hlk hA hl hw
  have hx := cx.1
  have hb := cx.2.1
  have hl : lv_has ls 2 [(0, .ref (ad 0)), (1, .int a1)] := hl
  rw [p_X12_registerOf_eq] at h
  refine lv_aload_n hx hb dX12_registerOf_0 rfl (lv_at hl 0 rfl) ?_
  refine lv_iconst (v := 3) hx hb dX12_registerOf_1 (by decide) ?_
  refine lv_aload_n hx hb dX12_registerOf_2 rfl (lv_at hl 0 rfl) ?_
  refine g_get cx hw inX12 (ci := 11) rfl 79 (by decide) rfl (v := .ref (ad 47)) shm_0 rfl fl_X12_157 dX12_registerOf_3 ?_
  refine lv_iload_n hx hb dX12_registerOf_6 rfl (lv_at hl 1 rfl) ?_
  refine g_iald cx hw shm_47 h dX12_registerOf_7 (fun h => ?_)
  obtain ⟨r2, μ1, gr2, h⟩ := bd_some h
  refine g_callVI (As := [.int 3, .int (μ.1 47 a1.toNatClampNeg)]) (rest := []) cx hw hA (t_X12_node l G ad (3 : Int32) (μ.1 47 a1.toNatClampNeg) μ gr2) shm_0 rfl ml_X12_527 im_X12_node se_X12_node in_X12 co_X12_node rfl hd_X12_node rfl ⟨(Nat.le_of_ble_eq_true rfl), (Nat.le_of_ble_eq_true rfl)⟩ hl.1 rfl (Nat.le_of_ble_eq_true rfl) dX12_registerOf_8 ⟨rfl, rfl⟩ (fun H locs hw => ?_)
  exact g_iret cx hr hlk hw h dX12_registerOf_11

theorem p_X12_doSign_b72_ex : ∃ f : Int32 → Int32 → Int32 → Mem → Option Mem, ∀ (a1 : Int32) (a2 : Int32) (a3 : Int32) (μ : Mem), f a1 a2 a3 μ = bd (p_X12_instruction (0 : Int32) (1 : Int32) μ) (fun r13 μ12 => (if (μ12.1 0 68) = (0 : Int32) then gd (inb r13 960) (bv (sF μ12 48 r13.toNatClampNeg a1) (fun μ15 => bw (p_X12_operand r13 a3 μ15) (fun μ16 => bw (p_X12_operand r13 a2 μ16) (fun μ18 => bd (p_X12_registerOf r13 μ18) (fun r21 μ20 => bw (p_X12_come r21 μ20) (fun μ22 => some μ22)))))) else some μ12)) := ⟨fun (a1 : Int32) (a2 : Int32) (a3 : Int32) (μ : Mem) => bd (p_X12_instruction (0 : Int32) (1 : Int32) μ) (fun r13 μ12 => (if (μ12.1 0 68) = (0 : Int32) then gd (inb r13 960) (bv (sF μ12 48 r13.toNatClampNeg a1) (fun μ15 => bw (p_X12_operand r13 a3 μ15) (fun μ16 => bw (p_X12_operand r13 a2 μ16) (fun μ18 => bd (p_X12_registerOf r13 μ18) (fun r21 μ20 => bw (p_X12_come r21 μ20) (fun μ22 => some μ22)))))) else some μ12)), fun _ _ _ _ => rfl⟩
noncomputable def p_X12_doSign_b72 : Int32 → Int32 → Int32 → Mem → Option Mem := Classical.choose p_X12_doSign_b72_ex
theorem p_X12_doSign_b72_eq (a1 : Int32) (a2 : Int32) (a3 : Int32) (μ : Mem) : p_X12_doSign_b72 a1 a2 a3 μ = bd (p_X12_instruction (0 : Int32) (1 : Int32) μ) (fun r13 μ12 => (if (μ12.1 0 68) = (0 : Int32) then gd (inb r13 960) (bv (sF μ12 48 r13.toNatClampNeg a1) (fun μ15 => bw (p_X12_operand r13 a3 μ15) (fun μ16 => bw (p_X12_operand r13 a2 μ16) (fun μ18 => bd (p_X12_registerOf r13 μ18) (fun r21 μ20 => bw (p_X12_come r21 μ20) (fun μ22 => some μ22)))))) else some μ12)) := Classical.choose_spec p_X12_doSign_b72_ex a1 a2 a3 μ
set_option maxHeartbeats 4000000 in
set_option maxRecDepth 100000 in
theorem t_X12_doSign_b72 (l : Launch) (G : Gt) (ad : Nat → Nat) (av : List Value) {μz : Mem} (a1 : Int32) (a2 : Int32) (a3 : Int32) (μ : Mem) (h : p_X12_doSign_b72  a1 a2 a3 μ = some μz) : Bk l cX12_doSign 5 RX12 none ({ frames := 5, cells := 0, slots := 0, locals := 115 } : Room) G av (eV 1 G ad μz) (wd 1 G ad μ) 72 [(0, .ref (ad 0)), (1, .int a1), (2, .int a2), (3, .int a3)] [] := by
  intro p e s m below meth c A ls H locs cx hr hlk hA hl hw
  have hx := cx.1
  have hb := cx.2.1
  rw [p_X12_doSign_b72_eq] at h
  refine lv_aload_n hx hb dX12_doSign_72 rfl (lv_at hl 0 rfl) ?_
  refine lv_iconst (v := 0) hx hb dX12_doSign_73 (by decide) ?_
  refine lv_iconst (v := 1) hx hb dX12_doSign_74 (by decide) ?_
  obtain ⟨r13, μ12, gr13, h⟩ := bd_some h
  refine g_callVI (As := [.int 0, .int 1]) (rest := []) cx hw hA (t_X12_instruction l G ad (0 : Int32) (1 : Int32) μ gr13) shm_0 rfl ml_X12_639 im_X12_instruction se_X12_instruction in_X12 co_X12_instruction rfl hd_X12_instruction rfl ⟨(Nat.le_of_ble_eq_true rfl), (Nat.le_of_ble_eq_true rfl)⟩ hl.1 rfl (Nat.le_of_ble_eq_true rfl) dX12_doSign_75 ⟨rfl, rfl⟩ (fun H locs hw => ?_)
  refine lv_istore (lv' := [(4, .int r13), (0, .ref (ad 0)), (1, .int a1), (2, .int a2), (3, .int a3)]) hx hb dX12_doSign_78 hl (by decide) rfl (fun ls hl => ?_)
  refine lv_aload_n hx hb dX12_doSign_80 rfl (lv_at hl 1 rfl) ?_
  refine g_get cx hw inX12 (ci := 11) rfl 68 (by decide) rfl (v := .int (μ12.1 0 68)) shm_0 rfl fl_X12_557 dX12_doSign_81 ?_
  refine lv_if_eq (tgt := 88) hx hb dX12_doSign_84 (by decide) (fun c14 => ?_) (fun c14 => ?_)
  · rw [if_pos c14] at h
    refine lv_aload_n hx hb dX12_doSign_88 rfl (lv_at hl 1 rfl) ?_
    refine g_get cx hw inX12 (ci := 11) rfl 80 (by decide) rfl (v := .ref (ad 48)) shm_0 rfl fl_X12_160 dX12_doSign_89 ?_
    refine lv_iload hx hb dX12_doSign_92 (lv_at hl 0 rfl) ?_
    refine lv_iload_n hx hb dX12_doSign_94 rfl (lv_at hl 2 rfl) ?_
    refine g_iast cx hw shm_48 h dX12_doSign_95 (fun μ15 H locs h hw => ?_)
    refine lv_aload_n hx hb dX12_doSign_96 rfl (lv_at hl 1 rfl) ?_
    refine lv_iload hx hb dX12_doSign_97 (lv_at hl 0 rfl) ?_
    refine lv_iload_n hx hb dX12_doSign_99 rfl (lv_at hl 4 rfl) ?_
    obtain ⟨μ16, gμ16, h⟩ := bw_some h
    refine g_callVV (As := [.int r13, .int a3]) (rest := []) cx hw hA (t_X12_operand l G ad r13 a3 μ15 gμ16) shm_0 rfl ml_X12_609 im_X12_operand se_X12_operand in_X12 co_X12_operand rfl hd_X12_operand rfl ⟨(Nat.le_of_ble_eq_true rfl), (Nat.le_of_ble_eq_true rfl)⟩ hl.1 rfl (Nat.le_of_ble_eq_true rfl) dX12_doSign_100 ⟨rfl, rfl⟩ (fun H locs hw => ?_)
    refine lv_aload_n hx hb dX12_doSign_103 rfl (lv_at hl 1 rfl) ?_
    refine lv_iload hx hb dX12_doSign_104 (lv_at hl 0 rfl) ?_
    refine lv_iload_n hx hb dX12_doSign_106 rfl (lv_at hl 3 rfl) ?_
    obtain ⟨μ18, gμ18, h⟩ := bw_some h
    refine g_callVV (As := [.int r13, .int a2]) (rest := []) cx hw hA (t_X12_operand l G ad r13 a2 μ16 gμ18) shm_0 rfl ml_X12_609 im_X12_operand se_X12_operand in_X12 co_X12_operand rfl hd_X12_operand rfl ⟨(Nat.le_of_ble_eq_true rfl), (Nat.le_of_ble_eq_true rfl)⟩ hl.1 rfl (Nat.le_of_ble_eq_true rfl) dX12_doSign_107 ⟨rfl, rfl⟩ (fun H locs hw => ?_)
    refine lv_aload_n hx hb dX12_doSign_110 rfl (lv_at hl 1 rfl) ?_
    refine lv_aload_n hx hb dX12_doSign_111 rfl (lv_at hl 1 rfl) ?_
    refine lv_iload hx hb dX12_doSign_112 (lv_at hl 0 rfl) ?_
    obtain ⟨r21, μ20, gr21, h⟩ := bd_some h
    refine g_callVI (As := [.int r13]) (rest := [.ref (ad 0)]) cx hw hA (t_X12_registerOf l G ad r13 μ18 gr21) shm_0 rfl ml_X12_643 im_X12_registerOf se_X12_registerOf in_X12 co_X12_registerOf rfl hd_X12_registerOf rfl ⟨(Nat.le_of_ble_eq_true rfl), (Nat.le_of_ble_eq_true rfl)⟩ hl.1 rfl (Nat.le_of_ble_eq_true rfl) dX12_doSign_114 ⟨rfl, rfl⟩ (fun H locs hw => ?_)
    obtain ⟨μ22, gμ22, h⟩ := bw_some h
    refine g_callVV (As := [.int r21]) (rest := []) cx hw hA (t_X12_come l G ad r21 μ20 gμ22) shm_0 rfl ml_X12_585 im_X12_come se_X12_come in_X12 co_X12_come rfl hd_X12_come rfl ⟨(Nat.le_of_ble_eq_true rfl), (Nat.le_of_ble_eq_true rfl)⟩ hl.1 rfl (Nat.le_of_ble_eq_true rfl) dX12_doSign_117 ⟨rfl, rfl⟩ (fun H locs hw => ?_)
    exact g_vret cx hr hlk hw h dX12_doSign_120
  · rw [if_neg c14] at h
    exact g_vret cx hr hlk hw h dX12_doSign_87
theorem p_X12_doSign_ex : ∃ f : Int32 → Mem → Option Mem, ∀ (a1 : Int32) (μ : Mem), f a1 μ = bd (p_X12_gone μ) (fun r2 μ1 => bd (p_X12_num r2 μ1) (fun r4 μ3 => bd (p_X12_gone μ3) (fun r6 μ5 => bd (p_X12_num r6 μ5) (fun r8 μ7 => bd (p_X12_isKnown r8 μ7) (fun r10 μ9 => (if r10 = (0 : Int32) then p_X12_doSign_b72  a1 r4 r8 μ9 else bd (p_X12_isKnown r4 μ9) (fun r25 μ24 => (if r25 = (0 : Int32) then p_X12_doSign_b72  a1 r4 r8 μ24 else gd (inb r8 100000) (gd (inb r8 100000) (gd (inb r4 100000) (gd (inb r4 100000) (bw (p_X12_join a1 (μ24.1 30 r8.toNatClampNeg) (μ24.1 31 r8.toNatClampNeg) (μ24.1 30 r4.toNatClampNeg) (μ24.1 31 r4.toNatClampNeg) μ24) (fun μ27 => bd (p_X12_given μ27) (fun r30 μ29 => bw (p_X12_come r30 μ29) (fun μ31 => some μ31))))))))))))))) := ⟨fun (a1 : Int32) (μ : Mem) => bd (p_X12_gone μ) (fun r2 μ1 => bd (p_X12_num r2 μ1) (fun r4 μ3 => bd (p_X12_gone μ3) (fun r6 μ5 => bd (p_X12_num r6 μ5) (fun r8 μ7 => bd (p_X12_isKnown r8 μ7) (fun r10 μ9 => (if r10 = (0 : Int32) then p_X12_doSign_b72  a1 r4 r8 μ9 else bd (p_X12_isKnown r4 μ9) (fun r25 μ24 => (if r25 = (0 : Int32) then p_X12_doSign_b72  a1 r4 r8 μ24 else gd (inb r8 100000) (gd (inb r8 100000) (gd (inb r4 100000) (gd (inb r4 100000) (bw (p_X12_join a1 (μ24.1 30 r8.toNatClampNeg) (μ24.1 31 r8.toNatClampNeg) (μ24.1 30 r4.toNatClampNeg) (μ24.1 31 r4.toNatClampNeg) μ24) (fun μ27 => bd (p_X12_given μ27) (fun r30 μ29 => bw (p_X12_come r30 μ29) (fun μ31 => some μ31))))))))))))))), fun _ _ => rfl⟩
noncomputable def p_X12_doSign : Int32 → Mem → Option Mem := Classical.choose p_X12_doSign_ex
theorem p_X12_doSign_eq (a1 : Int32) (μ : Mem) : p_X12_doSign a1 μ = bd (p_X12_gone μ) (fun r2 μ1 => bd (p_X12_num r2 μ1) (fun r4 μ3 => bd (p_X12_gone μ3) (fun r6 μ5 => bd (p_X12_num r6 μ5) (fun r8 μ7 => bd (p_X12_isKnown r8 μ7) (fun r10 μ9 => (if r10 = (0 : Int32) then p_X12_doSign_b72  a1 r4 r8 μ9 else bd (p_X12_isKnown r4 μ9) (fun r25 μ24 => (if r25 = (0 : Int32) then p_X12_doSign_b72  a1 r4 r8 μ24 else gd (inb r8 100000) (gd (inb r8 100000) (gd (inb r4 100000) (gd (inb r4 100000) (bw (p_X12_join a1 (μ24.1 30 r8.toNatClampNeg) (μ24.1 31 r8.toNatClampNeg) (μ24.1 30 r4.toNatClampNeg) (μ24.1 31 r4.toNatClampNeg) μ24) (fun μ27 => bd (p_X12_given μ27) (fun r30 μ29 => bw (p_X12_come r30 μ29) (fun μ31 => some μ31))))))))))))))) := Classical.choose_spec p_X12_doSign_ex a1 μ
set_option maxHeartbeats 4000000 in
set_option maxRecDepth 100000 in
theorem t_X12_doSign (l : Launch) (G : Gt) (ad : Nat → Nat) (a1 : Int32) (μ : Mem) {μz : Mem} (h : p_X12_doSign a1 μ = some μz) : Mt l yX12_doSign cX12_doSign 5 none ({ frames := 5, cells := 0, slots := 0, locals := 115 } : Room) G [.ref (ad 0), .int a1] (wd 1 G ad μ) (eV 1 G ad μz) := by
  refine Bk.mt (by decide) rfl (Nat.le_of_ble_eq_true rfl) ?_
  intro p e s m below meth c A ls H locs cx hr hlk hA hl hw
  have hx := cx.1
  have hb := cx.2.1
  have hl : lv_has ls 5 [(0, .ref (ad 0)), (1, .int a1)] := hl
  rw [p_X12_doSign_eq] at h
  refine lv_aload_n hx hb dX12_doSign_0 rfl (lv_at hl 0 rfl) ?_
  refine lv_aload_n hx hb dX12_doSign_1 rfl (lv_at hl 0 rfl) ?_
  obtain ⟨r2, μ1, gr2, h⟩ := bd_some h
  refine g_callVI (As := []) (rest := [.ref (ad 0)]) cx hw hA (t_X12_gone l G ad μ gr2) shm_0 rfl ml_X12_594 im_X12_gone se_X12_gone in_X12 co_X12_gone rfl hd_X12_gone rfl ⟨(Nat.le_of_ble_eq_true rfl), (Nat.le_of_ble_eq_true rfl)⟩ hl.1 rfl (Nat.le_of_ble_eq_true rfl) dX12_doSign_2 ⟨rfl, rfl⟩ (fun H locs hw => ?_)
  obtain ⟨r4, μ3, gr4, h⟩ := bd_some h
  refine g_callVI (As := [.int r2]) (rest := []) cx hw hA (t_X12_num l G ad r2 μ1 gr4) shm_0 rfl ml_X12_597 im_X12_num se_X12_num in_X12 co_X12_num rfl hd_X12_num rfl ⟨(Nat.le_of_ble_eq_true rfl), (Nat.le_of_ble_eq_true rfl)⟩ hl.1 rfl (Nat.le_of_ble_eq_true rfl) dX12_doSign_5 ⟨rfl, rfl⟩ (fun H locs hw => ?_)
  refine lv_istore_n (lv' := [(2, .int r4), (0, .ref (ad 0)), (1, .int a1)]) hx hb dX12_doSign_8 rfl hl (by decide) rfl (fun ls hl => ?_)
  refine lv_aload_n hx hb dX12_doSign_9 rfl (lv_at hl 1 rfl) ?_
  refine lv_aload_n hx hb dX12_doSign_10 rfl (lv_at hl 1 rfl) ?_
  obtain ⟨r6, μ5, gr6, h⟩ := bd_some h
  refine g_callVI (As := []) (rest := [.ref (ad 0)]) cx hw hA (t_X12_gone l G ad μ3 gr6) shm_0 rfl ml_X12_594 im_X12_gone se_X12_gone in_X12 co_X12_gone rfl hd_X12_gone rfl ⟨(Nat.le_of_ble_eq_true rfl), (Nat.le_of_ble_eq_true rfl)⟩ hl.1 rfl (Nat.le_of_ble_eq_true rfl) dX12_doSign_11 ⟨rfl, rfl⟩ (fun H locs hw => ?_)
  obtain ⟨r8, μ7, gr8, h⟩ := bd_some h
  refine g_callVI (As := [.int r6]) (rest := []) cx hw hA (t_X12_num l G ad r6 μ5 gr8) shm_0 rfl ml_X12_597 im_X12_num se_X12_num in_X12 co_X12_num rfl hd_X12_num rfl ⟨(Nat.le_of_ble_eq_true rfl), (Nat.le_of_ble_eq_true rfl)⟩ hl.1 rfl (Nat.le_of_ble_eq_true rfl) dX12_doSign_14 ⟨rfl, rfl⟩ (fun H locs hw => ?_)
  refine lv_istore_n (lv' := [(3, .int r8), (2, .int r4), (0, .ref (ad 0)), (1, .int a1)]) hx hb dX12_doSign_17 rfl hl (by decide) rfl (fun ls hl => ?_)
  refine lv_aload_n hx hb dX12_doSign_18 rfl (lv_at hl 2 rfl) ?_
  refine lv_iload_n hx hb dX12_doSign_19 rfl (lv_at hl 0 rfl) ?_
  obtain ⟨r10, μ9, gr10, h⟩ := bd_some h
  refine g_callVI (As := [.int r8]) (rest := []) cx hw hA (t_X12_isKnown l G ad r8 μ7 gr10) shm_0 rfl ml_X12_600 im_X12_isKnown se_X12_isKnown in_X12 co_X12_isKnown rfl hd_X12_isKnown rfl ⟨(Nat.le_of_ble_eq_true rfl), (Nat.le_of_ble_eq_true rfl)⟩ hl.1 rfl (Nat.le_of_ble_eq_true rfl) dX12_doSign_20 ⟨rfl, rfl⟩ (fun H locs hw => ?_)
  refine lv_if_eq (tgt := 72) hx hb dX12_doSign_23 (by decide) (fun c11 => ?_) (fun c11 => ?_)
  · rw [if_pos c11] at h
    exact t_X12_doSign_b72 l G ad _  a1 r4 r8 μ9 h p e s m below meth c A ls H locs cx hr hlk hA (lv_sub hl [2, 3, 1, 0] rfl) hw
  · rw [if_neg c11] at h
    refine lv_aload_n hx hb dX12_doSign_26 rfl (lv_at hl 2 rfl) ?_
    refine lv_iload_n hx hb dX12_doSign_27 rfl (lv_at hl 1 rfl) ?_
    obtain ⟨r25, μ24, gr25, h⟩ := bd_some h
    refine g_callVI (As := [.int r4]) (rest := []) cx hw hA (t_X12_isKnown l G ad r4 μ9 gr25) shm_0 rfl ml_X12_600 im_X12_isKnown se_X12_isKnown in_X12 co_X12_isKnown rfl hd_X12_isKnown rfl ⟨(Nat.le_of_ble_eq_true rfl), (Nat.le_of_ble_eq_true rfl)⟩ hl.1 rfl (Nat.le_of_ble_eq_true rfl) dX12_doSign_28 ⟨rfl, rfl⟩ (fun H locs hw => ?_)
    refine lv_if_eq (tgt := 72) hx hb dX12_doSign_31 (by decide) (fun c26 => ?_) (fun c26 => ?_)
    · rw [if_pos c26] at h
      exact t_X12_doSign_b72 l G ad _  a1 r4 r8 μ24 h p e s m below meth c A ls H locs cx hr hlk hA (lv_sub hl [2, 3, 1, 0] rfl) hw
    · rw [if_neg c26] at h
      refine lv_aload_n hx hb dX12_doSign_34 rfl (lv_at hl 2 rfl) ?_
      refine lv_iload_n hx hb dX12_doSign_35 rfl (lv_at hl 3 rfl) ?_
      refine lv_aload_n hx hb dX12_doSign_36 rfl (lv_at hl 2 rfl) ?_
      refine g_get cx hw inX12 (ci := 11) rfl 51 (by decide) rfl (v := .ref (ad 30)) shm_0 rfl fl_X12_106 dX12_doSign_37 ?_
      refine lv_iload_n hx hb dX12_doSign_40 rfl (lv_at hl 0 rfl) ?_
      refine g_iald cx hw shm_30 h dX12_doSign_41 (fun h => ?_)
      refine lv_aload_n hx hb dX12_doSign_42 rfl (lv_at hl 2 rfl) ?_
      refine g_get cx hw inX12 (ci := 11) rfl 52 (by decide) rfl (v := .ref (ad 31)) shm_0 rfl fl_X12_109 dX12_doSign_43 ?_
      refine lv_iload_n hx hb dX12_doSign_46 rfl (lv_at hl 0 rfl) ?_
      refine g_iald cx hw shm_31 h dX12_doSign_47 (fun h => ?_)
      refine lv_aload_n hx hb dX12_doSign_48 rfl (lv_at hl 2 rfl) ?_
      refine g_get cx hw inX12 (ci := 11) rfl 51 (by decide) rfl (v := .ref (ad 30)) shm_0 rfl fl_X12_106 dX12_doSign_49 ?_
      refine lv_iload_n hx hb dX12_doSign_52 rfl (lv_at hl 1 rfl) ?_
      refine g_iald cx hw shm_30 h dX12_doSign_53 (fun h => ?_)
      refine lv_aload_n hx hb dX12_doSign_54 rfl (lv_at hl 2 rfl) ?_
      refine g_get cx hw inX12 (ci := 11) rfl 52 (by decide) rfl (v := .ref (ad 31)) shm_0 rfl fl_X12_109 dX12_doSign_55 ?_
      refine lv_iload_n hx hb dX12_doSign_58 rfl (lv_at hl 1 rfl) ?_
      refine g_iald cx hw shm_31 h dX12_doSign_59 (fun h => ?_)
      obtain ⟨μ27, gμ27, h⟩ := bw_some h
      refine g_callVV (As := [.int a1, .int (μ24.1 30 r8.toNatClampNeg), .int (μ24.1 31 r8.toNatClampNeg), .int (μ24.1 30 r4.toNatClampNeg), .int (μ24.1 31 r4.toNatClampNeg)]) (rest := []) cx hw hA (t_X12_join l G ad a1 (μ24.1 30 r8.toNatClampNeg) (μ24.1 31 r8.toNatClampNeg) (μ24.1 30 r4.toNatClampNeg) (μ24.1 31 r4.toNatClampNeg) μ24 gμ27) shm_0 rfl ml_X12_348 im_X12_join se_X12_join in_X12 co_X12_join rfl hd_X12_join rfl ⟨(Nat.le_of_ble_eq_true rfl), (Nat.le_of_ble_eq_true rfl)⟩ hl.1 rfl (Nat.le_of_ble_eq_true rfl) dX12_doSign_60 ⟨rfl, rfl⟩ (fun H locs hw => ?_)
      refine lv_aload_n hx hb dX12_doSign_63 rfl (lv_at hl 2 rfl) ?_
      refine lv_aload_n hx hb dX12_doSign_64 rfl (lv_at hl 2 rfl) ?_
      obtain ⟨r30, μ29, gr30, h⟩ := bd_some h
      refine g_callVI (As := []) (rest := [.ref (ad 0)]) cx hw hA (t_X12_given l G ad μ27 gr30) shm_0 rfl ml_X12_636 im_X12_given se_X12_given in_X12 co_X12_given rfl hd_X12_given rfl ⟨(Nat.le_of_ble_eq_true rfl), (Nat.le_of_ble_eq_true rfl)⟩ hl.1 rfl (Nat.le_of_ble_eq_true rfl) dX12_doSign_65 ⟨rfl, rfl⟩ (fun H locs hw => ?_)
      obtain ⟨μ31, gμ31, h⟩ := bw_some h
      refine g_callVV (As := [.int r30]) (rest := []) cx hw hA (t_X12_come l G ad r30 μ29 gμ31) shm_0 rfl ml_X12_585 im_X12_come se_X12_come in_X12 co_X12_come rfl hd_X12_come rfl ⟨(Nat.le_of_ble_eq_true rfl), (Nat.le_of_ble_eq_true rfl)⟩ hl.1 rfl (Nat.le_of_ble_eq_true rfl) dX12_doSign_68 ⟨rfl, rfl⟩ (fun H locs hw => ?_)
      exact g_vret cx hr hlk hw h dX12_doSign_71

theorem p_X12_doOne_b56_ex : ∃ f : Int32 → Int32 → Mem → Option Mem, ∀ (a1 : Int32) (a2 : Int32) (μ : Mem), f a1 a2 μ = bd (p_X12_isKnown a2 μ) (fun r6 μ5 => (if r6 = (0 : Int32) then bd (p_X12_instruction ((1 : Int32) + a1) (1 : Int32) μ5) (fun r23 μ22 => (if (μ22.1 0 68) = (0 : Int32) then bw (p_X12_operand r23 a2 μ22) (fun μ25 => bd (p_X12_registerOf r23 μ25) (fun r28 μ27 => bw (p_X12_come r28 μ27) (fun μ29 => some μ29))) else some μ22)) else (if a1 = (3 : Int32) then bw (p_X12_come a2 μ5) (fun μ20 => some μ20) else (if a1 = (4 : Int32) then bd (p_X12_node (0 : Int32) (0 : Int32) μ5) (fun r17 μ16 => bw (p_X12_come r17 μ16) (fun μ18 => some μ18)) else gd (inb a2 100000) (gd (inb a2 100000) (bw (p_X12_turn a1 (μ5.1 30 a2.toNatClampNeg) (μ5.1 31 a2.toNatClampNeg) μ5) (fun μ10 => bd (p_X12_given μ10) (fun r13 μ12 => bw (p_X12_come r13 μ12) (fun μ14 => some μ14))))))))) := ⟨fun (a1 : Int32) (a2 : Int32) (μ : Mem) => bd (p_X12_isKnown a2 μ) (fun r6 μ5 => (if r6 = (0 : Int32) then bd (p_X12_instruction ((1 : Int32) + a1) (1 : Int32) μ5) (fun r23 μ22 => (if (μ22.1 0 68) = (0 : Int32) then bw (p_X12_operand r23 a2 μ22) (fun μ25 => bd (p_X12_registerOf r23 μ25) (fun r28 μ27 => bw (p_X12_come r28 μ27) (fun μ29 => some μ29))) else some μ22)) else (if a1 = (3 : Int32) then bw (p_X12_come a2 μ5) (fun μ20 => some μ20) else (if a1 = (4 : Int32) then bd (p_X12_node (0 : Int32) (0 : Int32) μ5) (fun r17 μ16 => bw (p_X12_come r17 μ16) (fun μ18 => some μ18)) else gd (inb a2 100000) (gd (inb a2 100000) (bw (p_X12_turn a1 (μ5.1 30 a2.toNatClampNeg) (μ5.1 31 a2.toNatClampNeg) μ5) (fun μ10 => bd (p_X12_given μ10) (fun r13 μ12 => bw (p_X12_come r13 μ12) (fun μ14 => some μ14))))))))), fun _ _ _ => rfl⟩
noncomputable def p_X12_doOne_b56 : Int32 → Int32 → Mem → Option Mem := Classical.choose p_X12_doOne_b56_ex
theorem p_X12_doOne_b56_eq (a1 : Int32) (a2 : Int32) (μ : Mem) : p_X12_doOne_b56 a1 a2 μ = bd (p_X12_isKnown a2 μ) (fun r6 μ5 => (if r6 = (0 : Int32) then bd (p_X12_instruction ((1 : Int32) + a1) (1 : Int32) μ5) (fun r23 μ22 => (if (μ22.1 0 68) = (0 : Int32) then bw (p_X12_operand r23 a2 μ22) (fun μ25 => bd (p_X12_registerOf r23 μ25) (fun r28 μ27 => bw (p_X12_come r28 μ27) (fun μ29 => some μ29))) else some μ22)) else (if a1 = (3 : Int32) then bw (p_X12_come a2 μ5) (fun μ20 => some μ20) else (if a1 = (4 : Int32) then bd (p_X12_node (0 : Int32) (0 : Int32) μ5) (fun r17 μ16 => bw (p_X12_come r17 μ16) (fun μ18 => some μ18)) else gd (inb a2 100000) (gd (inb a2 100000) (bw (p_X12_turn a1 (μ5.1 30 a2.toNatClampNeg) (μ5.1 31 a2.toNatClampNeg) μ5) (fun μ10 => bd (p_X12_given μ10) (fun r13 μ12 => bw (p_X12_come r13 μ12) (fun μ14 => some μ14))))))))) := Classical.choose_spec p_X12_doOne_b56_ex a1 a2 μ
set_option maxHeartbeats 4000000 in
set_option maxRecDepth 100000 in
theorem t_X12_doOne_b56 (l : Launch) (G : Gt) (ad : Nat → Nat) (av : List Value) {μz : Mem} (a1 : Int32) (a2 : Int32) (μ : Mem) (h : p_X12_doOne_b56  a1 a2 μ = some μz) : Bk l cX12_doOne 4 RX12 none ({ frames := 5, cells := 0, slots := 0, locals := 108 } : Room) G av (eV 1 G ad μz) (wd 1 G ad μ) 56 [(0, .ref (ad 0)), (1, .int a1), (2, .int a2)] [] := by
  intro p e s m below meth c A ls H locs cx hr hlk hA hl hw
  have hx := cx.1
  have hb := cx.2.1
  rw [p_X12_doOne_b56_eq] at h
  refine lv_aload_n hx hb dX12_doOne_56 rfl (lv_at hl 0 rfl) ?_
  refine lv_iload_n hx hb dX12_doOne_57 rfl (lv_at hl 2 rfl) ?_
  obtain ⟨r6, μ5, gr6, h⟩ := bd_some h
  refine g_callVI (As := [.int a2]) (rest := []) cx hw hA (t_X12_isKnown l G ad a2 μ gr6) shm_0 rfl ml_X12_600 im_X12_isKnown se_X12_isKnown in_X12 co_X12_isKnown rfl hd_X12_isKnown rfl ⟨(Nat.le_of_ble_eq_true rfl), (Nat.le_of_ble_eq_true rfl)⟩ hl.1 rfl (Nat.le_of_ble_eq_true rfl) dX12_doOne_58 ⟨rfl, rfl⟩ (fun H locs hw => ?_)
  refine lv_if_ne (tgt := 99) hx hb dX12_doOne_61 (by decide) (fun c7 => ?_) (fun c7 => ?_)
  · rw [if_neg c7] at h
    refine lv_iload_n hx hb dX12_doOne_99 rfl (lv_at hl 1 rfl) ?_
    refine lv_iconst (v := 3) hx hb dX12_doOne_100 (by decide) ?_
    refine lv_icmp_ne (tgt := 112) hx hb dX12_doOne_101 (by decide) (fun c8 => ?_) (fun c8 => ?_)
    · rw [if_neg c8] at h
      refine lv_iload_n hx hb dX12_doOne_112 rfl (lv_at hl 1 rfl) ?_
      refine lv_iconst (v := 4) hx hb dX12_doOne_113 (by decide) ?_
      refine lv_icmp_ne (tgt := 130) hx hb dX12_doOne_114 (by decide) (fun c9 => ?_) (fun c9 => ?_)
      · rw [if_neg c9] at h
        refine lv_aload_n hx hb dX12_doOne_130 rfl (lv_at hl 0 rfl) ?_
        refine lv_iload_n hx hb dX12_doOne_131 rfl (lv_at hl 1 rfl) ?_
        refine lv_aload_n hx hb dX12_doOne_132 rfl (lv_at hl 0 rfl) ?_
        refine g_get cx hw inX12 (ci := 11) rfl 51 (by decide) rfl (v := .ref (ad 30)) shm_0 rfl fl_X12_106 dX12_doOne_133 ?_
        refine lv_iload_n hx hb dX12_doOne_136 rfl (lv_at hl 2 rfl) ?_
        refine g_iald cx hw shm_30 h dX12_doOne_137 (fun h => ?_)
        refine lv_aload_n hx hb dX12_doOne_138 rfl (lv_at hl 0 rfl) ?_
        refine g_get cx hw inX12 (ci := 11) rfl 52 (by decide) rfl (v := .ref (ad 31)) shm_0 rfl fl_X12_109 dX12_doOne_139 ?_
        refine lv_iload_n hx hb dX12_doOne_142 rfl (lv_at hl 2 rfl) ?_
        refine g_iald cx hw shm_31 h dX12_doOne_143 (fun h => ?_)
        obtain ⟨μ10, gμ10, h⟩ := bw_some h
        refine g_callVV (As := [.int a1, .int (μ5.1 30 a2.toNatClampNeg), .int (μ5.1 31 a2.toNatClampNeg)]) (rest := []) cx hw hA (t_X12_turn l G ad a1 (μ5.1 30 a2.toNatClampNeg) (μ5.1 31 a2.toNatClampNeg) μ5 gμ10) shm_0 rfl ml_X12_646 im_X12_turn se_X12_turn in_X12 co_X12_turn rfl hd_X12_turn rfl ⟨(Nat.le_of_ble_eq_true rfl), (Nat.le_of_ble_eq_true rfl)⟩ hl.1 rfl (Nat.le_of_ble_eq_true rfl) dX12_doOne_144 ⟨rfl, rfl⟩ (fun H locs hw => ?_)
        refine lv_aload_n hx hb dX12_doOne_147 rfl (lv_at hl 0 rfl) ?_
        refine lv_aload_n hx hb dX12_doOne_148 rfl (lv_at hl 0 rfl) ?_
        obtain ⟨r13, μ12, gr13, h⟩ := bd_some h
        refine g_callVI (As := []) (rest := [.ref (ad 0)]) cx hw hA (t_X12_given l G ad μ10 gr13) shm_0 rfl ml_X12_636 im_X12_given se_X12_given in_X12 co_X12_given rfl hd_X12_given rfl ⟨(Nat.le_of_ble_eq_true rfl), (Nat.le_of_ble_eq_true rfl)⟩ hl.1 rfl (Nat.le_of_ble_eq_true rfl) dX12_doOne_149 ⟨rfl, rfl⟩ (fun H locs hw => ?_)
        obtain ⟨μ14, gμ14, h⟩ := bw_some h
        refine g_callVV (As := [.int r13]) (rest := []) cx hw hA (t_X12_come l G ad r13 μ12 gμ14) shm_0 rfl ml_X12_585 im_X12_come se_X12_come in_X12 co_X12_come rfl hd_X12_come rfl ⟨(Nat.le_of_ble_eq_true rfl), (Nat.le_of_ble_eq_true rfl)⟩ hl.1 rfl (Nat.le_of_ble_eq_true rfl) dX12_doOne_152 ⟨rfl, rfl⟩ (fun H locs hw => ?_)
        exact g_vret cx hr hlk hw h dX12_doOne_155
      · rw [if_pos c9] at h
        refine lv_aload_n hx hb dX12_doOne_117 rfl (lv_at hl 0 rfl) ?_
        refine lv_aload_n hx hb dX12_doOne_118 rfl (lv_at hl 0 rfl) ?_
        refine lv_iconst (v := 0) hx hb dX12_doOne_119 (by decide) ?_
        refine lv_iconst (v := 0) hx hb dX12_doOne_120 (by decide) ?_
        obtain ⟨r17, μ16, gr17, h⟩ := bd_some h
        refine g_callVI (As := [.int 0, .int 0]) (rest := [.ref (ad 0)]) cx hw hA (t_X12_node l G ad (0 : Int32) (0 : Int32) μ5 gr17) shm_0 rfl ml_X12_527 im_X12_node se_X12_node in_X12 co_X12_node rfl hd_X12_node rfl ⟨(Nat.le_of_ble_eq_true rfl), (Nat.le_of_ble_eq_true rfl)⟩ hl.1 rfl (Nat.le_of_ble_eq_true rfl) dX12_doOne_121 ⟨rfl, rfl⟩ (fun H locs hw => ?_)
        obtain ⟨μ18, gμ18, h⟩ := bw_some h
        refine g_callVV (As := [.int r17]) (rest := []) cx hw hA (t_X12_come l G ad r17 μ16 gμ18) shm_0 rfl ml_X12_585 im_X12_come se_X12_come in_X12 co_X12_come rfl hd_X12_come rfl ⟨(Nat.le_of_ble_eq_true rfl), (Nat.le_of_ble_eq_true rfl)⟩ hl.1 rfl (Nat.le_of_ble_eq_true rfl) dX12_doOne_124 ⟨rfl, rfl⟩ (fun H locs hw => ?_)
        refine lv_goto (tgt := 155) hx hb dX12_doOne_127 (by decide) ?_
        exact g_vret cx hr hlk hw h dX12_doOne_155
    · rw [if_pos c8] at h
      refine lv_aload_n hx hb dX12_doOne_104 rfl (lv_at hl 0 rfl) ?_
      refine lv_iload_n hx hb dX12_doOne_105 rfl (lv_at hl 2 rfl) ?_
      obtain ⟨μ20, gμ20, h⟩ := bw_some h
      refine g_callVV (As := [.int a2]) (rest := []) cx hw hA (t_X12_come l G ad a2 μ5 gμ20) shm_0 rfl ml_X12_585 im_X12_come se_X12_come in_X12 co_X12_come rfl hd_X12_come rfl ⟨(Nat.le_of_ble_eq_true rfl), (Nat.le_of_ble_eq_true rfl)⟩ hl.1 rfl (Nat.le_of_ble_eq_true rfl) dX12_doOne_106 ⟨rfl, rfl⟩ (fun H locs hw => ?_)
      refine lv_goto (tgt := 155) hx hb dX12_doOne_109 (by decide) ?_
      exact g_vret cx hr hlk hw h dX12_doOne_155
  · rw [if_pos c7] at h
    refine lv_aload_n hx hb dX12_doOne_64 rfl (lv_at hl 0 rfl) ?_
    refine lv_iconst (v := 1) hx hb dX12_doOne_65 (by decide) ?_
    refine lv_iload_n hx hb dX12_doOne_66 rfl (lv_at hl 1 rfl) ?_
    refine lv_iadd hx hb dX12_doOne_67 ?_
    refine lv_iconst (v := 1) hx hb dX12_doOne_68 (by decide) ?_
    obtain ⟨r23, μ22, gr23, h⟩ := bd_some h
    refine g_callVI (As := [.int ((1 : Int32) + a1), .int 1]) (rest := []) cx hw hA (t_X12_instruction l G ad ((1 : Int32) + a1) (1 : Int32) μ5 gr23) shm_0 rfl ml_X12_639 im_X12_instruction se_X12_instruction in_X12 co_X12_instruction rfl hd_X12_instruction rfl ⟨(Nat.le_of_ble_eq_true rfl), (Nat.le_of_ble_eq_true rfl)⟩ hl.1 rfl (Nat.le_of_ble_eq_true rfl) dX12_doOne_69 ⟨rfl, rfl⟩ (fun H locs hw => ?_)
    refine lv_istore_n (lv' := [(3, .int r23), (0, .ref (ad 0)), (1, .int a1), (2, .int a2)]) hx hb dX12_doOne_72 rfl hl (by decide) rfl (fun ls hl => ?_)
    refine lv_aload_n hx hb dX12_doOne_73 rfl (lv_at hl 1 rfl) ?_
    refine g_get cx hw inX12 (ci := 11) rfl 68 (by decide) rfl (v := .int (μ22.1 0 68)) shm_0 rfl fl_X12_557 dX12_doOne_74 ?_
    refine lv_if_eq (tgt := 81) hx hb dX12_doOne_77 (by decide) (fun c24 => ?_) (fun c24 => ?_)
    · rw [if_pos c24] at h
      refine lv_aload_n hx hb dX12_doOne_81 rfl (lv_at hl 1 rfl) ?_
      refine lv_iload_n hx hb dX12_doOne_82 rfl (lv_at hl 0 rfl) ?_
      refine lv_iload_n hx hb dX12_doOne_83 rfl (lv_at hl 3 rfl) ?_
      obtain ⟨μ25, gμ25, h⟩ := bw_some h
      refine g_callVV (As := [.int r23, .int a2]) (rest := []) cx hw hA (t_X12_operand l G ad r23 a2 μ22 gμ25) shm_0 rfl ml_X12_609 im_X12_operand se_X12_operand in_X12 co_X12_operand rfl hd_X12_operand rfl ⟨(Nat.le_of_ble_eq_true rfl), (Nat.le_of_ble_eq_true rfl)⟩ hl.1 rfl (Nat.le_of_ble_eq_true rfl) dX12_doOne_84 ⟨rfl, rfl⟩ (fun H locs hw => ?_)
      refine lv_aload_n hx hb dX12_doOne_87 rfl (lv_at hl 1 rfl) ?_
      refine lv_aload_n hx hb dX12_doOne_88 rfl (lv_at hl 1 rfl) ?_
      refine lv_iload_n hx hb dX12_doOne_89 rfl (lv_at hl 0 rfl) ?_
      obtain ⟨r28, μ27, gr28, h⟩ := bd_some h
      refine g_callVI (As := [.int r23]) (rest := [.ref (ad 0)]) cx hw hA (t_X12_registerOf l G ad r23 μ25 gr28) shm_0 rfl ml_X12_643 im_X12_registerOf se_X12_registerOf in_X12 co_X12_registerOf rfl hd_X12_registerOf rfl ⟨(Nat.le_of_ble_eq_true rfl), (Nat.le_of_ble_eq_true rfl)⟩ hl.1 rfl (Nat.le_of_ble_eq_true rfl) dX12_doOne_90 ⟨rfl, rfl⟩ (fun H locs hw => ?_)
      obtain ⟨μ29, gμ29, h⟩ := bw_some h
      refine g_callVV (As := [.int r28]) (rest := []) cx hw hA (t_X12_come l G ad r28 μ27 gμ29) shm_0 rfl ml_X12_585 im_X12_come se_X12_come in_X12 co_X12_come rfl hd_X12_come rfl ⟨(Nat.le_of_ble_eq_true rfl), (Nat.le_of_ble_eq_true rfl)⟩ hl.1 rfl (Nat.le_of_ble_eq_true rfl) dX12_doOne_93 ⟨rfl, rfl⟩ (fun H locs hw => ?_)
      refine lv_goto (tgt := 155) hx hb dX12_doOne_96 (by decide) ?_
      exact g_vret cx hr hlk hw h dX12_doOne_155
    · rw [if_neg c24] at h
      exact g_vret cx hr hlk hw h dX12_doOne_80
theorem p_X12_doOne_b45_ex : ∃ f : Int32 → Int32 → Mem → Option Mem, ∀ (a1 : Int32) (a2 : Int32) (μ : Mem), f a1 a2 μ = (if (3 : Int32) ≤ a1 then p_X12_doOne_b56  a1 a2 μ else bd (p_X12_num a2 μ) (fun r32 μ31 => p_X12_doOne_b56  a1 r32 μ31)) := ⟨fun (a1 : Int32) (a2 : Int32) (μ : Mem) => (if (3 : Int32) ≤ a1 then p_X12_doOne_b56  a1 a2 μ else bd (p_X12_num a2 μ) (fun r32 μ31 => p_X12_doOne_b56  a1 r32 μ31)), fun _ _ _ => rfl⟩
noncomputable def p_X12_doOne_b45 : Int32 → Int32 → Mem → Option Mem := Classical.choose p_X12_doOne_b45_ex
theorem p_X12_doOne_b45_eq (a1 : Int32) (a2 : Int32) (μ : Mem) : p_X12_doOne_b45 a1 a2 μ = (if (3 : Int32) ≤ a1 then p_X12_doOne_b56  a1 a2 μ else bd (p_X12_num a2 μ) (fun r32 μ31 => p_X12_doOne_b56  a1 r32 μ31)) := Classical.choose_spec p_X12_doOne_b45_ex a1 a2 μ
set_option maxHeartbeats 4000000 in
set_option maxRecDepth 100000 in
theorem t_X12_doOne_b45 (l : Launch) (G : Gt) (ad : Nat → Nat) (av : List Value) {μz : Mem} (a1 : Int32) (a2 : Int32) (μ : Mem) (h : p_X12_doOne_b45  a1 a2 μ = some μz) : Bk l cX12_doOne 4 RX12 none ({ frames := 5, cells := 0, slots := 0, locals := 108 } : Room) G av (eV 1 G ad μz) (wd 1 G ad μ) 45 [(0, .ref (ad 0)), (1, .int a1), (2, .int a2)] [] := by
  intro p e s m below meth c A ls H locs cx hr hlk hA hl hw
  have hx := cx.1
  have hb := cx.2.1
  rw [p_X12_doOne_b45_eq] at h
  refine lv_iload_n hx hb dX12_doOne_45 rfl (lv_at hl 1 rfl) ?_
  refine lv_iconst (v := 3) hx hb dX12_doOne_46 (by decide) ?_
  refine lv_icmp_ge (tgt := 56) hx hb dX12_doOne_47 (by decide) (fun c4 => ?_) (fun c4 => ?_)
  · rw [if_pos c4] at h
    exact t_X12_doOne_b56 l G ad av  a1 a2 μ h p e s m below meth c A ls H locs cx hr hlk hA (lv_sub hl [0, 1, 2] rfl) hw
  · rw [if_neg c4] at h
    refine lv_aload_n hx hb dX12_doOne_50 rfl (lv_at hl 0 rfl) ?_
    refine lv_iload_n hx hb dX12_doOne_51 rfl (lv_at hl 2 rfl) ?_
    obtain ⟨r32, μ31, gr32, h⟩ := bd_some h
    refine g_callVI (As := [.int a2]) (rest := []) cx hw hA (t_X12_num l G ad a2 μ gr32) shm_0 rfl ml_X12_597 im_X12_num se_X12_num in_X12 co_X12_num rfl hd_X12_num rfl ⟨(Nat.le_of_ble_eq_true rfl), (Nat.le_of_ble_eq_true rfl)⟩ hl.1 rfl (Nat.le_of_ble_eq_true rfl) dX12_doOne_52 ⟨rfl, rfl⟩ (fun H locs hw => ?_)
    refine lv_istore_n (lv' := [(2, .int r32), (0, .ref (ad 0)), (1, .int a1)]) hx hb dX12_doOne_55 rfl hl (by decide) rfl (fun ls hl => ?_)
    exact t_X12_doOne_b56 l G ad av  a1 r32 μ31 h p e s m below meth c A ls H locs cx hr hlk hA (lv_sub hl [1, 2, 0] rfl) hw
theorem p_X12_doOne_ex : ∃ f : Int32 → Mem → Option Mem, ∀ (a1 : Int32) (μ : Mem), f a1 μ = bd (p_X12_gone μ) (fun r2 μ1 => (if a1 ≤ (2 : Int32) then p_X12_doOne_b45  a1 r2 μ1 else gd (inb r2 100000) ((if (μ1.1 30 r2.toNatClampNeg) = (2 : Int32) then (if a1 = (3 : Int32) then gd (inb r2 100000) (bw (p_X12_come (μ1.1 31 r2.toNatClampNeg) μ1) (fun μ37 => some μ37)) else gd (inb r2 100000) (bw (p_X12_come (μ1.1 32 r2.toNatClampNeg) μ1) (fun μ35 => some μ35))) else p_X12_doOne_b45  a1 r2 μ1)))) := ⟨fun (a1 : Int32) (μ : Mem) => bd (p_X12_gone μ) (fun r2 μ1 => (if a1 ≤ (2 : Int32) then p_X12_doOne_b45  a1 r2 μ1 else gd (inb r2 100000) ((if (μ1.1 30 r2.toNatClampNeg) = (2 : Int32) then (if a1 = (3 : Int32) then gd (inb r2 100000) (bw (p_X12_come (μ1.1 31 r2.toNatClampNeg) μ1) (fun μ37 => some μ37)) else gd (inb r2 100000) (bw (p_X12_come (μ1.1 32 r2.toNatClampNeg) μ1) (fun μ35 => some μ35))) else p_X12_doOne_b45  a1 r2 μ1)))), fun _ _ => rfl⟩
noncomputable def p_X12_doOne : Int32 → Mem → Option Mem := Classical.choose p_X12_doOne_ex
theorem p_X12_doOne_eq (a1 : Int32) (μ : Mem) : p_X12_doOne a1 μ = bd (p_X12_gone μ) (fun r2 μ1 => (if a1 ≤ (2 : Int32) then p_X12_doOne_b45  a1 r2 μ1 else gd (inb r2 100000) ((if (μ1.1 30 r2.toNatClampNeg) = (2 : Int32) then (if a1 = (3 : Int32) then gd (inb r2 100000) (bw (p_X12_come (μ1.1 31 r2.toNatClampNeg) μ1) (fun μ37 => some μ37)) else gd (inb r2 100000) (bw (p_X12_come (μ1.1 32 r2.toNatClampNeg) μ1) (fun μ35 => some μ35))) else p_X12_doOne_b45  a1 r2 μ1)))) := Classical.choose_spec p_X12_doOne_ex a1 μ
set_option maxHeartbeats 4000000 in
set_option maxRecDepth 100000 in
theorem t_X12_doOne (l : Launch) (G : Gt) (ad : Nat → Nat) (a1 : Int32) (μ : Mem) {μz : Mem} (h : p_X12_doOne a1 μ = some μz) : Mt l yX12_doOne cX12_doOne 4 none ({ frames := 5, cells := 0, slots := 0, locals := 108 } : Room) G [.ref (ad 0), .int a1] (wd 1 G ad μ) (eV 1 G ad μz) := by
  refine Bk.mt (by decide) rfl (Nat.le_of_ble_eq_true rfl) ?_
  intro p e s m below meth c A ls H locs cx hr hlk hA hl hw
  have hx := cx.1
  have hb := cx.2.1
  have hl : lv_has ls 4 [(0, .ref (ad 0)), (1, .int a1)] := hl
  rw [p_X12_doOne_eq] at h
  refine lv_aload_n hx hb dX12_doOne_0 rfl (lv_at hl 0 rfl) ?_
  obtain ⟨r2, μ1, gr2, h⟩ := bd_some h
  refine g_callVI (As := []) (rest := []) cx hw hA (t_X12_gone l G ad μ gr2) shm_0 rfl ml_X12_594 im_X12_gone se_X12_gone in_X12 co_X12_gone rfl hd_X12_gone rfl ⟨(Nat.le_of_ble_eq_true rfl), (Nat.le_of_ble_eq_true rfl)⟩ hl.1 rfl (Nat.le_of_ble_eq_true rfl) dX12_doOne_1 ⟨rfl, rfl⟩ (fun H locs hw => ?_)
  refine lv_istore_n (lv' := [(2, .int r2), (0, .ref (ad 0)), (1, .int a1)]) hx hb dX12_doOne_4 rfl hl (by decide) rfl (fun ls hl => ?_)
  refine lv_iload_n hx hb dX12_doOne_5 rfl (lv_at hl 2 rfl) ?_
  refine lv_iconst (v := 2) hx hb dX12_doOne_6 (by decide) ?_
  refine lv_icmp_le (tgt := 45) hx hb dX12_doOne_7 (by decide) (fun c3 => ?_) (fun c3 => ?_)
  · rw [if_pos c3] at h
    exact t_X12_doOne_b45 l G ad _  a1 r2 μ1 h p e s m below meth c A ls H locs cx hr hlk hA (lv_sub hl [1, 2, 0] rfl) hw
  · rw [if_neg c3] at h
    refine lv_aload_n hx hb dX12_doOne_10 rfl (lv_at hl 1 rfl) ?_
    refine g_get cx hw inX12 (ci := 11) rfl 51 (by decide) rfl (v := .ref (ad 30)) shm_0 rfl fl_X12_106 dX12_doOne_11 ?_
    refine lv_iload_n hx hb dX12_doOne_14 rfl (lv_at hl 0 rfl) ?_
    refine g_iald cx hw shm_30 h dX12_doOne_15 (fun h => ?_)
    refine lv_iconst (v := 2) hx hb dX12_doOne_16 (by decide) ?_
    refine lv_icmp_ne (tgt := 45) hx hb dX12_doOne_17 (by decide) (fun c33 => ?_) (fun c33 => ?_)
    · rw [if_neg c33] at h
      exact t_X12_doOne_b45 l G ad _  a1 r2 μ1 h p e s m below meth c A ls H locs cx hr hlk hA (lv_sub hl [1, 2, 0] rfl) hw
    · rw [if_pos c33] at h
      refine lv_aload_n hx hb dX12_doOne_20 rfl (lv_at hl 1 rfl) ?_
      refine lv_iload_n hx hb dX12_doOne_21 rfl (lv_at hl 2 rfl) ?_
      refine lv_iconst (v := 3) hx hb dX12_doOne_22 (by decide) ?_
      refine lv_icmp_ne (tgt := 35) hx hb dX12_doOne_23 (by decide) (fun c34 => ?_) (fun c34 => ?_)
      · rw [if_neg c34] at h
        refine lv_aload_n hx hb dX12_doOne_35 rfl (lv_at hl 1 rfl) ?_
        refine g_get cx hw inX12 (ci := 11) rfl 53 (by decide) rfl (v := .ref (ad 32)) shm_0 rfl fl_X12_112 dX12_doOne_36 ?_
        refine lv_iload_n hx hb dX12_doOne_39 rfl (lv_at hl 0 rfl) ?_
        refine g_iald cx hw shm_32 h dX12_doOne_40 (fun h => ?_)
        obtain ⟨μ35, gμ35, h⟩ := bw_some h
        refine g_callVV (As := [.int (μ1.1 32 r2.toNatClampNeg)]) (rest := []) cx hw hA (t_X12_come l G ad (μ1.1 32 r2.toNatClampNeg) μ1 gμ35) shm_0 rfl ml_X12_585 im_X12_come se_X12_come in_X12 co_X12_come rfl hd_X12_come rfl ⟨(Nat.le_of_ble_eq_true rfl), (Nat.le_of_ble_eq_true rfl)⟩ hl.1 rfl (Nat.le_of_ble_eq_true rfl) dX12_doOne_41 ⟨rfl, rfl⟩ (fun H locs hw => ?_)
        exact g_vret cx hr hlk hw h dX12_doOne_44
      · rw [if_pos c34] at h
        refine lv_aload_n hx hb dX12_doOne_26 rfl (lv_at hl 1 rfl) ?_
        refine g_get cx hw inX12 (ci := 11) rfl 52 (by decide) rfl (v := .ref (ad 31)) shm_0 rfl fl_X12_109 dX12_doOne_27 ?_
        refine lv_iload_n hx hb dX12_doOne_30 rfl (lv_at hl 0 rfl) ?_
        refine g_iald cx hw shm_31 h dX12_doOne_31 (fun h => ?_)
        refine lv_goto (tgt := 41) hx hb dX12_doOne_32 (by decide) ?_
        obtain ⟨μ37, gμ37, h⟩ := bw_some h
        refine g_callVV (As := [.int (μ1.1 31 r2.toNatClampNeg)]) (rest := []) cx hw hA (t_X12_come l G ad (μ1.1 31 r2.toNatClampNeg) μ1 gμ37) shm_0 rfl ml_X12_585 im_X12_come se_X12_come in_X12 co_X12_come rfl hd_X12_come rfl ⟨(Nat.le_of_ble_eq_true rfl), (Nat.le_of_ble_eq_true rfl)⟩ hl.1 rfl (Nat.le_of_ble_eq_true rfl) dX12_doOne_41 ⟨rfl, rfl⟩ (fun H locs hw => ?_)
        exact g_vret cx hr hlk hw h dX12_doOne_44

theorem p_X12_doPair_ex : ∃ f : Mem → Option Mem, ∀  (μ : Mem), f  μ = bd (p_X12_gone μ) (fun r2 μ1 => bd (p_X12_gone μ1) (fun r4 μ3 => bd (p_X12_pair r4 r2 μ3) (fun r6 μ5 => gd (inb r6 100000) ((if (μ5.1 33 r6.toNatClampNeg) ≤ (40 : Int32) then bw (p_X12_come r6 μ5) (fun μ8 => some μ8) else (if (μ5.1 0 69) = (0 : Int32) then bv (sF μ5 0 68 (2 : Int32)) (fun μ11 => bw (p_X12_come r6 μ11) (fun μ12 => some μ12)) else bv (sF μ5 0 68 (-5 : Int32)) (fun μ14 => bw (p_X12_come r6 μ14) (fun μ15 => some μ15)))))))) := ⟨fun  (μ : Mem) => bd (p_X12_gone μ) (fun r2 μ1 => bd (p_X12_gone μ1) (fun r4 μ3 => bd (p_X12_pair r4 r2 μ3) (fun r6 μ5 => gd (inb r6 100000) ((if (μ5.1 33 r6.toNatClampNeg) ≤ (40 : Int32) then bw (p_X12_come r6 μ5) (fun μ8 => some μ8) else (if (μ5.1 0 69) = (0 : Int32) then bv (sF μ5 0 68 (2 : Int32)) (fun μ11 => bw (p_X12_come r6 μ11) (fun μ12 => some μ12)) else bv (sF μ5 0 68 (-5 : Int32)) (fun μ14 => bw (p_X12_come r6 μ14) (fun μ15 => some μ15)))))))), fun _ => rfl⟩
noncomputable def p_X12_doPair : Mem → Option Mem := Classical.choose p_X12_doPair_ex
theorem p_X12_doPair_eq  (μ : Mem) : p_X12_doPair  μ = bd (p_X12_gone μ) (fun r2 μ1 => bd (p_X12_gone μ1) (fun r4 μ3 => bd (p_X12_pair r4 r2 μ3) (fun r6 μ5 => gd (inb r6 100000) ((if (μ5.1 33 r6.toNatClampNeg) ≤ (40 : Int32) then bw (p_X12_come r6 μ5) (fun μ8 => some μ8) else (if (μ5.1 0 69) = (0 : Int32) then bv (sF μ5 0 68 (2 : Int32)) (fun μ11 => bw (p_X12_come r6 μ11) (fun μ12 => some μ12)) else bv (sF μ5 0 68 (-5 : Int32)) (fun μ14 => bw (p_X12_come r6 μ14) (fun μ15 => some μ15)))))))) := Classical.choose_spec p_X12_doPair_ex  μ
set_option maxHeartbeats 4000000 in
set_option maxRecDepth 100000 in
theorem t_X12_doPair (l : Launch) (G : Gt) (ad : Nat → Nat)  (μ : Mem) {μz : Mem} (h : p_X12_doPair  μ = some μz) : Mt l yX12_doPair cX12_doPair 4 none ({ frames := 2, cells := 0, slots := 0, locals := 45 } : Room) G [.ref (ad 0)] (wd 1 G ad μ) (eV 1 G ad μz) := by
  refine Bk.mt (by decide) rfl (Nat.le_of_ble_eq_true rfl) ?_
  intro p e s m below meth c A ls H locs cx hr hlk hA hl hw
  have hx := cx.1
  have hb := cx.2.1
  have hl : lv_has ls 4 [(0, .ref (ad 0))] := hl
  rw [p_X12_doPair_eq] at h
  refine lv_aload_n hx hb dX12_doPair_0 rfl (lv_at hl 0 rfl) ?_
  obtain ⟨r2, μ1, gr2, h⟩ := bd_some h
  refine g_callVI (As := []) (rest := []) cx hw hA (t_X12_gone l G ad μ gr2) shm_0 rfl ml_X12_594 im_X12_gone se_X12_gone in_X12 co_X12_gone rfl hd_X12_gone rfl ⟨(Nat.le_of_ble_eq_true rfl), (Nat.le_of_ble_eq_true rfl)⟩ hl.1 rfl (Nat.le_of_ble_eq_true rfl) dX12_doPair_1 ⟨rfl, rfl⟩ (fun H locs hw => ?_)
  refine lv_istore_n (lv' := [(1, .int r2), (0, .ref (ad 0))]) hx hb dX12_doPair_4 rfl hl (by decide) rfl (fun ls hl => ?_)
  refine lv_aload_n hx hb dX12_doPair_5 rfl (lv_at hl 1 rfl) ?_
  obtain ⟨r4, μ3, gr4, h⟩ := bd_some h
  refine g_callVI (As := []) (rest := []) cx hw hA (t_X12_gone l G ad μ1 gr4) shm_0 rfl ml_X12_594 im_X12_gone se_X12_gone in_X12 co_X12_gone rfl hd_X12_gone rfl ⟨(Nat.le_of_ble_eq_true rfl), (Nat.le_of_ble_eq_true rfl)⟩ hl.1 rfl (Nat.le_of_ble_eq_true rfl) dX12_doPair_6 ⟨rfl, rfl⟩ (fun H locs hw => ?_)
  refine lv_istore_n (lv' := [(2, .int r4), (1, .int r2), (0, .ref (ad 0))]) hx hb dX12_doPair_9 rfl hl (by decide) rfl (fun ls hl => ?_)
  refine lv_aload_n hx hb dX12_doPair_10 rfl (lv_at hl 2 rfl) ?_
  refine lv_iload_n hx hb dX12_doPair_11 rfl (lv_at hl 0 rfl) ?_
  refine lv_iload_n hx hb dX12_doPair_12 rfl (lv_at hl 1 rfl) ?_
  obtain ⟨r6, μ5, gr6, h⟩ := bd_some h
  refine g_callVI (As := [.int r4, .int r2]) (rest := []) cx hw hA (t_X12_pair l G ad r4 r2 μ3 gr6) shm_0 rfl ml_X12_539 im_X12_pair se_X12_pair in_X12 co_X12_pair rfl hd_X12_pair rfl ⟨(Nat.le_of_ble_eq_true rfl), (Nat.le_of_ble_eq_true rfl)⟩ hl.1 rfl (Nat.le_of_ble_eq_true rfl) dX12_doPair_13 ⟨rfl, rfl⟩ (fun H locs hw => ?_)
  refine lv_istore_n (lv' := [(3, .int r6), (2, .int r4), (1, .int r2), (0, .ref (ad 0))]) hx hb dX12_doPair_16 rfl hl (by decide) rfl (fun ls hl => ?_)
  refine lv_aload_n hx hb dX12_doPair_17 rfl (lv_at hl 3 rfl) ?_
  refine g_get cx hw inX12 (ci := 11) rfl 54 (by decide) rfl (v := .ref (ad 33)) shm_0 rfl fl_X12_115 dX12_doPair_18 ?_
  refine lv_iload_n hx hb dX12_doPair_21 rfl (lv_at hl 0 rfl) ?_
  refine g_iald cx hw shm_33 h dX12_doPair_22 (fun h => ?_)
  refine lv_bipush (v := 40) hx hb dX12_doPair_23 (by decide) ?_
  refine lv_icmp_le (tgt := 45) hx hb dX12_doPair_25 (by decide) (fun c7 => ?_) (fun c7 => ?_)
  · rw [if_pos c7] at h
    refine lv_aload_n hx hb dX12_doPair_45 rfl (lv_at hl 3 rfl) ?_
    refine lv_iload_n hx hb dX12_doPair_46 rfl (lv_at hl 0 rfl) ?_
    obtain ⟨μ8, gμ8, h⟩ := bw_some h
    refine g_callVV (As := [.int r6]) (rest := []) cx hw hA (t_X12_come l G ad r6 μ5 gμ8) shm_0 rfl ml_X12_585 im_X12_come se_X12_come in_X12 co_X12_come rfl hd_X12_come rfl ⟨(Nat.le_of_ble_eq_true rfl), (Nat.le_of_ble_eq_true rfl)⟩ hl.1 rfl (Nat.le_of_ble_eq_true rfl) dX12_doPair_47 ⟨rfl, rfl⟩ (fun H locs hw => ?_)
    exact g_vret cx hr hlk hw h dX12_doPair_50
  · rw [if_neg c7] at h
    refine lv_aload_n hx hb dX12_doPair_28 rfl (lv_at hl 3 rfl) ?_
    refine lv_aload_n hx hb dX12_doPair_29 rfl (lv_at hl 3 rfl) ?_
    refine g_get cx hw inX12 (ci := 11) rfl 69 (by decide) rfl (v := .int (μ5.1 0 69)) shm_0 rfl fl_X12_551 dX12_doPair_30 ?_
    refine lv_if_eq (tgt := 41) hx hb dX12_doPair_33 (by decide) (fun c10 => ?_) (fun c10 => ?_)
    · rw [if_pos c10] at h
      refine lv_iconst (v := 2) hx hb dX12_doPair_41 (by decide) ?_
      refine g_put cx hw inX12 (ci := 11) rfl tyX12_ok nmX12 68 (by decide) rfl rfl rfl rfl shm_0 h fl_X12_557 dX12_doPair_42 (fun μ11 H locs h hw => ?_)
      refine lv_aload_n hx hb dX12_doPair_45 rfl (lv_at hl 3 rfl) ?_
      refine lv_iload_n hx hb dX12_doPair_46 rfl (lv_at hl 0 rfl) ?_
      obtain ⟨μ12, gμ12, h⟩ := bw_some h
      refine g_callVV (As := [.int r6]) (rest := []) cx hw hA (t_X12_come l G ad r6 μ11 gμ12) shm_0 rfl ml_X12_585 im_X12_come se_X12_come in_X12 co_X12_come rfl hd_X12_come rfl ⟨(Nat.le_of_ble_eq_true rfl), (Nat.le_of_ble_eq_true rfl)⟩ hl.1 rfl (Nat.le_of_ble_eq_true rfl) dX12_doPair_47 ⟨rfl, rfl⟩ (fun H locs hw => ?_)
      exact g_vret cx hr hlk hw h dX12_doPair_50
    · rw [if_neg c10] at h
      refine lv_bipush (v := (-5)) hx hb dX12_doPair_36 (by decide) ?_
      refine lv_goto (tgt := 42) hx hb dX12_doPair_38 (by decide) ?_
      refine g_put cx hw inX12 (ci := 11) rfl tyX12_ok nmX12 68 (by decide) rfl rfl rfl rfl shm_0 h fl_X12_557 dX12_doPair_42 (fun μ14 H locs h hw => ?_)
      refine lv_aload_n hx hb dX12_doPair_45 rfl (lv_at hl 3 rfl) ?_
      refine lv_iload_n hx hb dX12_doPair_46 rfl (lv_at hl 0 rfl) ?_
      obtain ⟨μ15, gμ15, h⟩ := bw_some h
      refine g_callVV (As := [.int r6]) (rest := []) cx hw hA (t_X12_come l G ad r6 μ14 gμ15) shm_0 rfl ml_X12_585 im_X12_come se_X12_come in_X12 co_X12_come rfl hd_X12_come rfl ⟨(Nat.le_of_ble_eq_true rfl), (Nat.le_of_ble_eq_true rfl)⟩ hl.1 rfl (Nat.le_of_ble_eq_true rfl) dX12_doPair_47 ⟨rfl, rfl⟩ (fun H locs hw => ?_)
      exact g_vret cx hr hlk hw h dX12_doPair_50

theorem p_X12_show_ex : ∃ f : Int32 → Mem → Option Mem, ∀ (a1 : Int32) (μ : Mem), f a1 μ = (if (60 : Int32) ≤ (μ.1 0 73) then bv (sF μ 0 73 ((μ.1 0 73) + (1 : Int32))) (fun μ2 => some μ2) else gd (inb a1 100000) (gd (inb (μ.1 0 73) 60) (bv (sF μ 43 (μ.1 0 73).toNatClampNeg (μ.1 30 a1.toNatClampNeg)) (fun μ3 => gd (inb a1 100000) (gd (inb (μ3.1 0 73) 60) (bv (sF μ3 44 (μ3.1 0 73).toNatClampNeg (μ3.1 31 a1.toNatClampNeg)) (fun μ4 => bv (sF μ4 0 73 ((μ4.1 0 73) + (1 : Int32))) (fun μ5 => some μ5)))))))) := ⟨fun (a1 : Int32) (μ : Mem) => (if (60 : Int32) ≤ (μ.1 0 73) then bv (sF μ 0 73 ((μ.1 0 73) + (1 : Int32))) (fun μ2 => some μ2) else gd (inb a1 100000) (gd (inb (μ.1 0 73) 60) (bv (sF μ 43 (μ.1 0 73).toNatClampNeg (μ.1 30 a1.toNatClampNeg)) (fun μ3 => gd (inb a1 100000) (gd (inb (μ3.1 0 73) 60) (bv (sF μ3 44 (μ3.1 0 73).toNatClampNeg (μ3.1 31 a1.toNatClampNeg)) (fun μ4 => bv (sF μ4 0 73 ((μ4.1 0 73) + (1 : Int32))) (fun μ5 => some μ5)))))))), fun _ _ => rfl⟩
noncomputable def p_X12_show : Int32 → Mem → Option Mem := Classical.choose p_X12_show_ex
theorem p_X12_show_eq (a1 : Int32) (μ : Mem) : p_X12_show a1 μ = (if (60 : Int32) ≤ (μ.1 0 73) then bv (sF μ 0 73 ((μ.1 0 73) + (1 : Int32))) (fun μ2 => some μ2) else gd (inb a1 100000) (gd (inb (μ.1 0 73) 60) (bv (sF μ 43 (μ.1 0 73).toNatClampNeg (μ.1 30 a1.toNatClampNeg)) (fun μ3 => gd (inb a1 100000) (gd (inb (μ3.1 0 73) 60) (bv (sF μ3 44 (μ3.1 0 73).toNatClampNeg (μ3.1 31 a1.toNatClampNeg)) (fun μ4 => bv (sF μ4 0 73 ((μ4.1 0 73) + (1 : Int32))) (fun μ5 => some μ5)))))))) := Classical.choose_spec p_X12_show_ex a1 μ
set_option maxHeartbeats 4000000 in
set_option maxRecDepth 100000 in
theorem t_X12_show (l : Launch) (G : Gt) (ad : Nat → Nat) (a1 : Int32) (μ : Mem) {μz : Mem} (h : p_X12_show a1 μ = some μz) : Mt l yX12_show cX12_show 2 none ({ frames := 0, cells := 0, slots := 0, locals := 0 } : Room) G [.ref (ad 0), .int a1] (wd 1 G ad μ) (eV 1 G ad μz) := by
  refine Bk.mt (by decide) rfl (Nat.le_of_ble_eq_true rfl) ?_
  intro p e s m below meth c A ls H locs cx hr hlk hA hl hw
  have hx := cx.1
  have hb := cx.2.1
  have hl : lv_has ls 2 [(0, .ref (ad 0)), (1, .int a1)] := hl
  rw [p_X12_show_eq] at h
  refine lv_aload_n hx hb dX12_show_0 rfl (lv_at hl 0 rfl) ?_
  refine g_get cx hw inX12 (ci := 11) rfl 73 (by decide) rfl (v := .int (μ.1 0 73)) shm_0 rfl fl_X12_649 dX12_show_1 ?_
  refine lv_bipush (v := 60) hx hb dX12_show_4 (by decide) ?_
  refine lv_icmp_ge (tgt := 39) hx hb dX12_show_6 (by decide) (fun c1 => ?_) (fun c1 => ?_)
  · rw [if_pos c1] at h
    refine lv_aload_n hx hb dX12_show_39 rfl (lv_at hl 0 rfl) ?_
    refine lv_dup hx hb dX12_show_40 rfl ?_
    refine g_get cx hw inX12 (ci := 11) rfl 73 (by decide) rfl (v := .int (μ.1 0 73)) shm_0 rfl fl_X12_649 dX12_show_41 ?_
    refine lv_iconst (v := 1) hx hb dX12_show_44 (by decide) ?_
    refine lv_iadd hx hb dX12_show_45 ?_
    refine g_put cx hw inX12 (ci := 11) rfl tyX12_ok nmX12 73 (by decide) rfl rfl rfl rfl shm_0 h fl_X12_649 dX12_show_46 (fun μ2 H locs h hw => ?_)
    exact g_vret cx hr hlk hw h dX12_show_49
  · rw [if_neg c1] at h
    refine lv_aload_n hx hb dX12_show_9 rfl (lv_at hl 0 rfl) ?_
    refine g_get cx hw inX12 (ci := 11) rfl 71 (by decide) rfl (v := .ref (ad 43)) shm_0 rfl fl_X12_145 dX12_show_10 ?_
    refine lv_aload_n hx hb dX12_show_13 rfl (lv_at hl 0 rfl) ?_
    refine g_get cx hw inX12 (ci := 11) rfl 73 (by decide) rfl (v := .int (μ.1 0 73)) shm_0 rfl fl_X12_649 dX12_show_14 ?_
    refine lv_aload_n hx hb dX12_show_17 rfl (lv_at hl 0 rfl) ?_
    refine g_get cx hw inX12 (ci := 11) rfl 51 (by decide) rfl (v := .ref (ad 30)) shm_0 rfl fl_X12_106 dX12_show_18 ?_
    refine lv_iload_n hx hb dX12_show_21 rfl (lv_at hl 1 rfl) ?_
    refine g_iald cx hw shm_30 h dX12_show_22 (fun h => ?_)
    refine g_iast cx hw shm_43 h dX12_show_23 (fun μ3 H locs h hw => ?_)
    refine lv_aload_n hx hb dX12_show_24 rfl (lv_at hl 0 rfl) ?_
    refine g_get cx hw inX12 (ci := 11) rfl 72 (by decide) rfl (v := .ref (ad 44)) shm_0 rfl fl_X12_148 dX12_show_25 ?_
    refine lv_aload_n hx hb dX12_show_28 rfl (lv_at hl 0 rfl) ?_
    refine g_get cx hw inX12 (ci := 11) rfl 73 (by decide) rfl (v := .int (μ3.1 0 73)) shm_0 rfl fl_X12_649 dX12_show_29 ?_
    refine lv_aload_n hx hb dX12_show_32 rfl (lv_at hl 0 rfl) ?_
    refine g_get cx hw inX12 (ci := 11) rfl 52 (by decide) rfl (v := .ref (ad 31)) shm_0 rfl fl_X12_109 dX12_show_33 ?_
    refine lv_iload_n hx hb dX12_show_36 rfl (lv_at hl 1 rfl) ?_
    refine g_iald cx hw shm_31 h dX12_show_37 (fun h => ?_)
    refine g_iast cx hw shm_44 h dX12_show_38 (fun μ4 H locs h hw => ?_)
    refine lv_aload_n hx hb dX12_show_39 rfl (lv_at hl 0 rfl) ?_
    refine lv_dup hx hb dX12_show_40 rfl ?_
    refine g_get cx hw inX12 (ci := 11) rfl 73 (by decide) rfl (v := .int (μ4.1 0 73)) shm_0 rfl fl_X12_649 dX12_show_41 ?_
    refine lv_iconst (v := 1) hx hb dX12_show_44 (by decide) ?_
    refine lv_iadd hx hb dX12_show_45 ?_
    refine g_put cx hw inX12 (ci := 11) rfl tyX12_ok nmX12 73 (by decide) rfl rfl rfl rfl shm_0 h fl_X12_649 dX12_show_46 (fun μ5 H locs h hw => ?_)
    exact g_vret cx hr hlk hw h dX12_show_49

theorem p_X12_doOut_ex : ∃ f : Mem → Option Mem, ∀  (μ : Mem), f  μ = bd (p_X12_gone μ) (fun r2 μ1 => bd (p_X12_num r2 μ1) (fun r4 μ3 => (if (μ3.1 0 69) = (0 : Int32) then bw (p_X12_show r4 μ3) (fun μ6 => bw (p_X12_come r2 μ6) (fun μ8 => some μ8)) else bd (p_X12_instruction (7 : Int32) (0 : Int32) μ3) (fun r11 μ10 => (if (μ10.1 0 68) = (0 : Int32) then bw (p_X12_operand r11 r4 μ10) (fun μ13 => bw (p_X12_come r2 μ13) (fun μ15 => some μ15)) else some μ10))))) := ⟨fun  (μ : Mem) => bd (p_X12_gone μ) (fun r2 μ1 => bd (p_X12_num r2 μ1) (fun r4 μ3 => (if (μ3.1 0 69) = (0 : Int32) then bw (p_X12_show r4 μ3) (fun μ6 => bw (p_X12_come r2 μ6) (fun μ8 => some μ8)) else bd (p_X12_instruction (7 : Int32) (0 : Int32) μ3) (fun r11 μ10 => (if (μ10.1 0 68) = (0 : Int32) then bw (p_X12_operand r11 r4 μ10) (fun μ13 => bw (p_X12_come r2 μ13) (fun μ15 => some μ15)) else some μ10))))), fun _ => rfl⟩
noncomputable def p_X12_doOut : Mem → Option Mem := Classical.choose p_X12_doOut_ex
theorem p_X12_doOut_eq  (μ : Mem) : p_X12_doOut  μ = bd (p_X12_gone μ) (fun r2 μ1 => bd (p_X12_num r2 μ1) (fun r4 μ3 => (if (μ3.1 0 69) = (0 : Int32) then bw (p_X12_show r4 μ3) (fun μ6 => bw (p_X12_come r2 μ6) (fun μ8 => some μ8)) else bd (p_X12_instruction (7 : Int32) (0 : Int32) μ3) (fun r11 μ10 => (if (μ10.1 0 68) = (0 : Int32) then bw (p_X12_operand r11 r4 μ10) (fun μ13 => bw (p_X12_come r2 μ13) (fun μ15 => some μ15)) else some μ10))))) := Classical.choose_spec p_X12_doOut_ex  μ
set_option maxHeartbeats 4000000 in
set_option maxRecDepth 100000 in
theorem t_X12_doOut (l : Launch) (G : Gt) (ad : Nat → Nat)  (μ : Mem) {μz : Mem} (h : p_X12_doOut  μ = some μz) : Mt l yX12_doOut cX12_doOut 4 none ({ frames := 2, cells := 0, slots := 0, locals := 45 } : Room) G [.ref (ad 0)] (wd 1 G ad μ) (eV 1 G ad μz) := by
  refine Bk.mt (by decide) rfl (Nat.le_of_ble_eq_true rfl) ?_
  intro p e s m below meth c A ls H locs cx hr hlk hA hl hw
  have hx := cx.1
  have hb := cx.2.1
  have hl : lv_has ls 4 [(0, .ref (ad 0))] := hl
  rw [p_X12_doOut_eq] at h
  refine lv_aload_n hx hb dX12_doOut_0 rfl (lv_at hl 0 rfl) ?_
  obtain ⟨r2, μ1, gr2, h⟩ := bd_some h
  refine g_callVI (As := []) (rest := []) cx hw hA (t_X12_gone l G ad μ gr2) shm_0 rfl ml_X12_594 im_X12_gone se_X12_gone in_X12 co_X12_gone rfl hd_X12_gone rfl ⟨(Nat.le_of_ble_eq_true rfl), (Nat.le_of_ble_eq_true rfl)⟩ hl.1 rfl (Nat.le_of_ble_eq_true rfl) dX12_doOut_1 ⟨rfl, rfl⟩ (fun H locs hw => ?_)
  refine lv_istore_n (lv' := [(1, .int r2), (0, .ref (ad 0))]) hx hb dX12_doOut_4 rfl hl (by decide) rfl (fun ls hl => ?_)
  refine lv_aload_n hx hb dX12_doOut_5 rfl (lv_at hl 1 rfl) ?_
  refine lv_iload_n hx hb dX12_doOut_6 rfl (lv_at hl 0 rfl) ?_
  obtain ⟨r4, μ3, gr4, h⟩ := bd_some h
  refine g_callVI (As := [.int r2]) (rest := []) cx hw hA (t_X12_num l G ad r2 μ1 gr4) shm_0 rfl ml_X12_597 im_X12_num se_X12_num in_X12 co_X12_num rfl hd_X12_num rfl ⟨(Nat.le_of_ble_eq_true rfl), (Nat.le_of_ble_eq_true rfl)⟩ hl.1 rfl (Nat.le_of_ble_eq_true rfl) dX12_doOut_7 ⟨rfl, rfl⟩ (fun H locs hw => ?_)
  refine lv_istore_n (lv' := [(2, .int r4), (1, .int r2), (0, .ref (ad 0))]) hx hb dX12_doOut_10 rfl hl (by decide) rfl (fun ls hl => ?_)
  refine lv_aload_n hx hb dX12_doOut_11 rfl (lv_at hl 2 rfl) ?_
  refine g_get cx hw inX12 (ci := 11) rfl 69 (by decide) rfl (v := .int (μ3.1 0 69)) shm_0 rfl fl_X12_551 dX12_doOut_12 ?_
  refine lv_if_eq (tgt := 43) hx hb dX12_doOut_15 (by decide) (fun c5 => ?_) (fun c5 => ?_)
  · rw [if_pos c5] at h
    refine lv_aload_n hx hb dX12_doOut_43 rfl (lv_at hl 2 rfl) ?_
    refine lv_iload_n hx hb dX12_doOut_44 rfl (lv_at hl 0 rfl) ?_
    obtain ⟨μ6, gμ6, h⟩ := bw_some h
    refine g_callVV (As := [.int r4]) (rest := []) cx hw hA (t_X12_show l G ad r4 μ3 gμ6) shm_0 rfl ml_X12_652 im_X12_show se_X12_show in_X12 co_X12_show rfl hd_X12_show rfl ⟨(Nat.le_of_ble_eq_true rfl), (Nat.le_of_ble_eq_true rfl)⟩ hl.1 rfl (Nat.le_of_ble_eq_true rfl) dX12_doOut_45 ⟨rfl, rfl⟩ (fun H locs hw => ?_)
    refine lv_aload_n hx hb dX12_doOut_48 rfl (lv_at hl 2 rfl) ?_
    refine lv_iload_n hx hb dX12_doOut_49 rfl (lv_at hl 1 rfl) ?_
    obtain ⟨μ8, gμ8, h⟩ := bw_some h
    refine g_callVV (As := [.int r2]) (rest := []) cx hw hA (t_X12_come l G ad r2 μ6 gμ8) shm_0 rfl ml_X12_585 im_X12_come se_X12_come in_X12 co_X12_come rfl hd_X12_come rfl ⟨(Nat.le_of_ble_eq_true rfl), (Nat.le_of_ble_eq_true rfl)⟩ hl.1 rfl (Nat.le_of_ble_eq_true rfl) dX12_doOut_50 ⟨rfl, rfl⟩ (fun H locs hw => ?_)
    exact g_vret cx hr hlk hw h dX12_doOut_53
  · rw [if_neg c5] at h
    refine lv_aload_n hx hb dX12_doOut_18 rfl (lv_at hl 2 rfl) ?_
    refine lv_bipush (v := 7) hx hb dX12_doOut_19 (by decide) ?_
    refine lv_iconst (v := 0) hx hb dX12_doOut_21 (by decide) ?_
    obtain ⟨r11, μ10, gr11, h⟩ := bd_some h
    refine g_callVI (As := [.int 7, .int 0]) (rest := []) cx hw hA (t_X12_instruction l G ad (7 : Int32) (0 : Int32) μ3 gr11) shm_0 rfl ml_X12_639 im_X12_instruction se_X12_instruction in_X12 co_X12_instruction rfl hd_X12_instruction rfl ⟨(Nat.le_of_ble_eq_true rfl), (Nat.le_of_ble_eq_true rfl)⟩ hl.1 rfl (Nat.le_of_ble_eq_true rfl) dX12_doOut_22 ⟨rfl, rfl⟩ (fun H locs hw => ?_)
    refine lv_istore_n (lv' := [(3, .int r11), (2, .int r4), (1, .int r2), (0, .ref (ad 0))]) hx hb dX12_doOut_25 rfl hl (by decide) rfl (fun ls hl => ?_)
    refine lv_aload_n hx hb dX12_doOut_26 rfl (lv_at hl 3 rfl) ?_
    refine g_get cx hw inX12 (ci := 11) rfl 68 (by decide) rfl (v := .int (μ10.1 0 68)) shm_0 rfl fl_X12_557 dX12_doOut_27 ?_
    refine lv_if_eq (tgt := 34) hx hb dX12_doOut_30 (by decide) (fun c12 => ?_) (fun c12 => ?_)
    · rw [if_pos c12] at h
      refine lv_aload_n hx hb dX12_doOut_34 rfl (lv_at hl 3 rfl) ?_
      refine lv_iload_n hx hb dX12_doOut_35 rfl (lv_at hl 0 rfl) ?_
      refine lv_iload_n hx hb dX12_doOut_36 rfl (lv_at hl 1 rfl) ?_
      obtain ⟨μ13, gμ13, h⟩ := bw_some h
      refine g_callVV (As := [.int r11, .int r4]) (rest := []) cx hw hA (t_X12_operand l G ad r11 r4 μ10 gμ13) shm_0 rfl ml_X12_609 im_X12_operand se_X12_operand in_X12 co_X12_operand rfl hd_X12_operand rfl ⟨(Nat.le_of_ble_eq_true rfl), (Nat.le_of_ble_eq_true rfl)⟩ hl.1 rfl (Nat.le_of_ble_eq_true rfl) dX12_doOut_37 ⟨rfl, rfl⟩ (fun H locs hw => ?_)
      refine lv_goto (tgt := 48) hx hb dX12_doOut_40 (by decide) ?_
      refine lv_aload_n hx hb dX12_doOut_48 rfl (lv_at hl 3 rfl) ?_
      refine lv_iload_n hx hb dX12_doOut_49 rfl (lv_at hl 2 rfl) ?_
      obtain ⟨μ15, gμ15, h⟩ := bw_some h
      refine g_callVV (As := [.int r2]) (rest := []) cx hw hA (t_X12_come l G ad r2 μ13 gμ15) shm_0 rfl ml_X12_585 im_X12_come se_X12_come in_X12 co_X12_come rfl hd_X12_come rfl ⟨(Nat.le_of_ble_eq_true rfl), (Nat.le_of_ble_eq_true rfl)⟩ hl.1 rfl (Nat.le_of_ble_eq_true rfl) dX12_doOut_50 ⟨rfl, rfl⟩ (fun H locs hw => ?_)
      exact g_vret cx hr hlk hw h dX12_doOut_53
    · rw [if_neg c12] at h
      exact g_vret cx hr hlk hw h dX12_doOut_33

theorem p_X12_holdAt_ex : ∃ f : Int32 → Int32 → Mem → Option Mem, ∀ (a1 : Int32) (a2 : Int32) (μ : Mem), f a1 a2 μ = (if (4 : Int32) ≤ a1 then gd (inb a2 100000) (gd (inb a2 100000) (bw (p_X12_give (1 : Int32) (s_X12_floatOf (μ.1 30 a2.toNatClampNeg) (μ.1 31 a2.toNatClampNeg)) μ) (fun μ2 => some μ2))) else gd (inb a2 100000) (gd (inb a2 100000) (bs (p_X12_intOf (μ.1 30 a2.toNatClampNeg) (μ.1 31 a2.toNatClampNeg)) (fun r4 => bw (p_X12_give (0 : Int32) r4 μ) (fun μ5 => some μ5))))) := ⟨fun (a1 : Int32) (a2 : Int32) (μ : Mem) => (if (4 : Int32) ≤ a1 then gd (inb a2 100000) (gd (inb a2 100000) (bw (p_X12_give (1 : Int32) (s_X12_floatOf (μ.1 30 a2.toNatClampNeg) (μ.1 31 a2.toNatClampNeg)) μ) (fun μ2 => some μ2))) else gd (inb a2 100000) (gd (inb a2 100000) (bs (p_X12_intOf (μ.1 30 a2.toNatClampNeg) (μ.1 31 a2.toNatClampNeg)) (fun r4 => bw (p_X12_give (0 : Int32) r4 μ) (fun μ5 => some μ5))))), fun _ _ _ => rfl⟩
noncomputable def p_X12_holdAt : Int32 → Int32 → Mem → Option Mem := Classical.choose p_X12_holdAt_ex
theorem p_X12_holdAt_eq (a1 : Int32) (a2 : Int32) (μ : Mem) : p_X12_holdAt a1 a2 μ = (if (4 : Int32) ≤ a1 then gd (inb a2 100000) (gd (inb a2 100000) (bw (p_X12_give (1 : Int32) (s_X12_floatOf (μ.1 30 a2.toNatClampNeg) (μ.1 31 a2.toNatClampNeg)) μ) (fun μ2 => some μ2))) else gd (inb a2 100000) (gd (inb a2 100000) (bs (p_X12_intOf (μ.1 30 a2.toNatClampNeg) (μ.1 31 a2.toNatClampNeg)) (fun r4 => bw (p_X12_give (0 : Int32) r4 μ) (fun μ5 => some μ5))))) := Classical.choose_spec p_X12_holdAt_ex a1 a2 μ
set_option maxHeartbeats 4000000 in
set_option maxRecDepth 100000 in
theorem t_X12_holdAt (l : Launch) (G : Gt) (ad : Nat → Nat) (a1 : Int32) (a2 : Int32) (μ : Mem) {μz : Mem} (h : p_X12_holdAt a1 a2 μ = some μz) : Mt l yX12_holdAt cX12_holdAt 3 none ({ frames := 4, cells := 0, slots := 0, locals := 85 } : Room) G [.ref (ad 0), .int a1, .int a2] (wd 1 G ad μ) (eV 1 G ad μz) := by
  refine Bk.mt (by decide) rfl (Nat.le_of_ble_eq_true rfl) ?_
  intro p e s m below meth c A ls H locs cx hr hlk hA hl hw
  have hx := cx.1
  have hb := cx.2.1
  have hl : lv_has ls 3 [(0, .ref (ad 0)), (1, .int a1), (2, .int a2)] := hl
  rw [p_X12_holdAt_eq] at h
  refine lv_iload_n hx hb dX12_holdAt_0 rfl (lv_at hl 1 rfl) ?_
  refine lv_iconst (v := 4) hx hb dX12_holdAt_1 (by decide) ?_
  refine lv_icmp_ge (tgt := 28) hx hb dX12_holdAt_2 (by decide) (fun c1 => ?_) (fun c1 => ?_)
  · rw [if_pos c1] at h
    refine lv_aload_n hx hb dX12_holdAt_28 rfl (lv_at hl 0 rfl) ?_
    refine lv_iconst (v := 1) hx hb dX12_holdAt_29 (by decide) ?_
    refine lv_aload_n hx hb dX12_holdAt_30 rfl (lv_at hl 0 rfl) ?_
    refine g_get cx hw inX12 (ci := 11) rfl 51 (by decide) rfl (v := .ref (ad 30)) shm_0 rfl fl_X12_106 dX12_holdAt_31 ?_
    refine lv_iload_n hx hb dX12_holdAt_34 rfl (lv_at hl 2 rfl) ?_
    refine g_iald cx hw shm_30 h dX12_holdAt_35 (fun h => ?_)
    refine lv_aload_n hx hb dX12_holdAt_36 rfl (lv_at hl 0 rfl) ?_
    refine g_get cx hw inX12 (ci := 11) rfl 52 (by decide) rfl (v := .ref (ad 31)) shm_0 rfl fl_X12_109 dX12_holdAt_37 ?_
    refine lv_iload_n hx hb dX12_holdAt_40 rfl (lv_at hl 2 rfl) ?_
    refine g_iald cx hw shm_31 h dX12_holdAt_41 (fun h => ?_)
    refine s_callI (As := [.int (μ.1 30 a2.toNatClampNeg), .int (μ.1 31 a2.toNatClampNeg)]) (rest := [.int 1, .ref (ad 0)]) cx hw hA (t_X12_floatOf l G (μ.1 30 a2.toNatClampNeg) (μ.1 31 a2.toNatClampNeg)) ml_X12_328 st_X12_floatOf in_X12 co_X12_floatOf hd_X12_floatOf rfl ⟨(Nat.le_of_ble_eq_true rfl), (Nat.le_of_ble_eq_true rfl)⟩ hl.1 rfl (Nat.le_of_ble_eq_true rfl) dX12_holdAt_42 rfl (fun H locs hw => ?_)
    obtain ⟨μ2, gμ2, h⟩ := bw_some h
    refine g_callVV (As := [.int 1, .int (s_X12_floatOf (μ.1 30 a2.toNatClampNeg) (μ.1 31 a2.toNatClampNeg))]) (rest := []) cx hw hA (t_X12_give l G ad (1 : Int32) (s_X12_floatOf (μ.1 30 a2.toNatClampNeg) (μ.1 31 a2.toNatClampNeg)) μ gμ2) shm_0 rfl ml_X12_324 im_X12_give se_X12_give in_X12 co_X12_give rfl hd_X12_give rfl ⟨(Nat.le_of_ble_eq_true rfl), (Nat.le_of_ble_eq_true rfl)⟩ hl.1 rfl (Nat.le_of_ble_eq_true rfl) dX12_holdAt_45 ⟨rfl, rfl⟩ (fun H locs hw => ?_)
    exact g_vret cx hr hlk hw h dX12_holdAt_48
  · rw [if_neg c1] at h
    refine lv_aload_n hx hb dX12_holdAt_5 rfl (lv_at hl 0 rfl) ?_
    refine lv_iconst (v := 0) hx hb dX12_holdAt_6 (by decide) ?_
    refine lv_aload_n hx hb dX12_holdAt_7 rfl (lv_at hl 0 rfl) ?_
    refine g_get cx hw inX12 (ci := 11) rfl 51 (by decide) rfl (v := .ref (ad 30)) shm_0 rfl fl_X12_106 dX12_holdAt_8 ?_
    refine lv_iload_n hx hb dX12_holdAt_11 rfl (lv_at hl 2 rfl) ?_
    refine g_iald cx hw shm_30 h dX12_holdAt_12 (fun h => ?_)
    refine lv_aload_n hx hb dX12_holdAt_13 rfl (lv_at hl 0 rfl) ?_
    refine g_get cx hw inX12 (ci := 11) rfl 52 (by decide) rfl (v := .ref (ad 31)) shm_0 rfl fl_X12_109 dX12_holdAt_14 ?_
    refine lv_iload_n hx hb dX12_holdAt_17 rfl (lv_at hl 2 rfl) ?_
    refine g_iald cx hw shm_31 h dX12_holdAt_18 (fun h => ?_)
    obtain ⟨r4, gr4, h⟩ := bs_some h
    refine s_callI (As := [.int (μ.1 30 a2.toNatClampNeg), .int (μ.1 31 a2.toNatClampNeg)]) (rest := [.int 0, .ref (ad 0)]) cx hw hA (t_X12_intOf l G (μ.1 30 a2.toNatClampNeg) (μ.1 31 a2.toNatClampNeg) gr4) ml_X12_320 st_X12_intOf in_X12 co_X12_intOf hd_X12_intOf rfl ⟨(Nat.le_of_ble_eq_true rfl), (Nat.le_of_ble_eq_true rfl)⟩ hl.1 rfl (Nat.le_of_ble_eq_true rfl) dX12_holdAt_19 rfl (fun H locs hw => ?_)
    obtain ⟨μ5, gμ5, h⟩ := bw_some h
    refine g_callVV (As := [.int 0, .int r4]) (rest := []) cx hw hA (t_X12_give l G ad (0 : Int32) r4 μ gμ5) shm_0 rfl ml_X12_324 im_X12_give se_X12_give in_X12 co_X12_give rfl hd_X12_give rfl ⟨(Nat.le_of_ble_eq_true rfl), (Nat.le_of_ble_eq_true rfl)⟩ hl.1 rfl (Nat.le_of_ble_eq_true rfl) dX12_holdAt_22 ⟨rfl, rfl⟩ (fun H locs hw => ?_)
    refine lv_goto (tgt := 48) hx hb dX12_holdAt_25 (by decide) ?_
    exact g_vret cx hr hlk hw h dX12_holdAt_48

theorem p_X12_doPut_b54_ex : ∃ f : Int32 → Int32 → Int32 → Mem → Option Mem, ∀ (a1 : Int32) (a2 : Int32) (a3 : Int32) (μ : Mem), f a1 a2 a3 μ = bd (p_X12_isKnown a2 μ) (fun r9 μ8 => (if r9 = (0 : Int32) then bd (p_X12_registerOf a3 μ8) (fun r24 μ23 => bw (p_X12_come r24 μ23) (fun μ25 => some μ25)) else bw (p_X12_holdAt a1 a2 μ8) (fun μ11 => (if (μ11.1 0 69) = (0 : Int32) then gd (inb a1 8) (bv (sF μ11 42 a1.toNatClampNeg (μ11.1 0 1)) (fun μ18 => bd (p_X12_given μ18) (fun r20 μ19 => bw (p_X12_come r20 μ19) (fun μ21 => some μ21)))) else bd (p_X12_given μ11) (fun r15 μ14 => bw (p_X12_come r15 μ14) (fun μ16 => some μ16)))))) := ⟨fun (a1 : Int32) (a2 : Int32) (a3 : Int32) (μ : Mem) => bd (p_X12_isKnown a2 μ) (fun r9 μ8 => (if r9 = (0 : Int32) then bd (p_X12_registerOf a3 μ8) (fun r24 μ23 => bw (p_X12_come r24 μ23) (fun μ25 => some μ25)) else bw (p_X12_holdAt a1 a2 μ8) (fun μ11 => (if (μ11.1 0 69) = (0 : Int32) then gd (inb a1 8) (bv (sF μ11 42 a1.toNatClampNeg (μ11.1 0 1)) (fun μ18 => bd (p_X12_given μ18) (fun r20 μ19 => bw (p_X12_come r20 μ19) (fun μ21 => some μ21)))) else bd (p_X12_given μ11) (fun r15 μ14 => bw (p_X12_come r15 μ14) (fun μ16 => some μ16)))))), fun _ _ _ _ => rfl⟩
noncomputable def p_X12_doPut_b54 : Int32 → Int32 → Int32 → Mem → Option Mem := Classical.choose p_X12_doPut_b54_ex
theorem p_X12_doPut_b54_eq (a1 : Int32) (a2 : Int32) (a3 : Int32) (μ : Mem) : p_X12_doPut_b54 a1 a2 a3 μ = bd (p_X12_isKnown a2 μ) (fun r9 μ8 => (if r9 = (0 : Int32) then bd (p_X12_registerOf a3 μ8) (fun r24 μ23 => bw (p_X12_come r24 μ23) (fun μ25 => some μ25)) else bw (p_X12_holdAt a1 a2 μ8) (fun μ11 => (if (μ11.1 0 69) = (0 : Int32) then gd (inb a1 8) (bv (sF μ11 42 a1.toNatClampNeg (μ11.1 0 1)) (fun μ18 => bd (p_X12_given μ18) (fun r20 μ19 => bw (p_X12_come r20 μ19) (fun μ21 => some μ21)))) else bd (p_X12_given μ11) (fun r15 μ14 => bw (p_X12_come r15 μ14) (fun μ16 => some μ16)))))) := Classical.choose_spec p_X12_doPut_b54_ex a1 a2 a3 μ
set_option maxHeartbeats 4000000 in
set_option maxRecDepth 100000 in
theorem t_X12_doPut_b54 (l : Launch) (G : Gt) (ad : Nat → Nat) (av : List Value) {μz : Mem} (a1 : Int32) (a2 : Int32) (a3 : Int32) (μ : Mem) (h : p_X12_doPut_b54  a1 a2 a3 μ = some μz) : Bk l cX12_doPut 4 RX12 none ({ frames := 5, cells := 0, slots := 0, locals := 107 } : Room) G av (eV 1 G ad μz) (wd 1 G ad μ) 54 [(0, .ref (ad 0)), (1, .int a1), (2, .int a2), (3, .int a3)] [] := by
  intro p e s m below meth c A ls H locs cx hr hlk hA hl hw
  have hx := cx.1
  have hb := cx.2.1
  rw [p_X12_doPut_b54_eq] at h
  refine lv_aload_n hx hb dX12_doPut_54 rfl (lv_at hl 0 rfl) ?_
  refine lv_iload_n hx hb dX12_doPut_55 rfl (lv_at hl 2 rfl) ?_
  obtain ⟨r9, μ8, gr9, h⟩ := bd_some h
  refine g_callVI (As := [.int a2]) (rest := []) cx hw hA (t_X12_isKnown l G ad a2 μ gr9) shm_0 rfl ml_X12_600 im_X12_isKnown se_X12_isKnown in_X12 co_X12_isKnown rfl hd_X12_isKnown rfl ⟨(Nat.le_of_ble_eq_true rfl), (Nat.le_of_ble_eq_true rfl)⟩ hl.1 rfl (Nat.le_of_ble_eq_true rfl) dX12_doPut_56 ⟨rfl, rfl⟩ (fun H locs hw => ?_)
  refine lv_if_ne (tgt := 72) hx hb dX12_doPut_59 (by decide) (fun c10 => ?_) (fun c10 => ?_)
  · rw [if_neg c10] at h
    refine lv_aload_n hx hb dX12_doPut_72 rfl (lv_at hl 0 rfl) ?_
    refine lv_iload_n hx hb dX12_doPut_73 rfl (lv_at hl 1 rfl) ?_
    refine lv_iload_n hx hb dX12_doPut_74 rfl (lv_at hl 2 rfl) ?_
    obtain ⟨μ11, gμ11, h⟩ := bw_some h
    refine g_callVV (As := [.int a1, .int a2]) (rest := []) cx hw hA (t_X12_holdAt l G ad a1 a2 μ8 gμ11) shm_0 rfl ml_X12_655 im_X12_holdAt se_X12_holdAt in_X12 co_X12_holdAt rfl hd_X12_holdAt rfl ⟨(Nat.le_of_ble_eq_true rfl), (Nat.le_of_ble_eq_true rfl)⟩ hl.1 rfl (Nat.le_of_ble_eq_true rfl) dX12_doPut_75 ⟨rfl, rfl⟩ (fun H locs hw => ?_)
    refine lv_aload_n hx hb dX12_doPut_78 rfl (lv_at hl 0 rfl) ?_
    refine g_get cx hw inX12 (ci := 11) rfl 69 (by decide) rfl (v := .int (μ11.1 0 69)) shm_0 rfl fl_X12_551 dX12_doPut_79 ?_
    refine lv_if_ne (tgt := 95) hx hb dX12_doPut_82 (by decide) (fun c13 => ?_) (fun c13 => ?_)
    · rw [if_neg c13] at h
      refine lv_aload_n hx hb dX12_doPut_95 rfl (lv_at hl 0 rfl) ?_
      refine lv_aload_n hx hb dX12_doPut_96 rfl (lv_at hl 0 rfl) ?_
      obtain ⟨r15, μ14, gr15, h⟩ := bd_some h
      refine g_callVI (As := []) (rest := [.ref (ad 0)]) cx hw hA (t_X12_given l G ad μ11 gr15) shm_0 rfl ml_X12_636 im_X12_given se_X12_given in_X12 co_X12_given rfl hd_X12_given rfl ⟨(Nat.le_of_ble_eq_true rfl), (Nat.le_of_ble_eq_true rfl)⟩ hl.1 rfl (Nat.le_of_ble_eq_true rfl) dX12_doPut_97 ⟨rfl, rfl⟩ (fun H locs hw => ?_)
      obtain ⟨μ16, gμ16, h⟩ := bw_some h
      refine g_callVV (As := [.int r15]) (rest := []) cx hw hA (t_X12_come l G ad r15 μ14 gμ16) shm_0 rfl ml_X12_585 im_X12_come se_X12_come in_X12 co_X12_come rfl hd_X12_come rfl ⟨(Nat.le_of_ble_eq_true rfl), (Nat.le_of_ble_eq_true rfl)⟩ hl.1 rfl (Nat.le_of_ble_eq_true rfl) dX12_doPut_100 ⟨rfl, rfl⟩ (fun H locs hw => ?_)
      exact g_vret cx hr hlk hw h dX12_doPut_103
    · rw [if_pos c13] at h
      refine lv_aload_n hx hb dX12_doPut_85 rfl (lv_at hl 0 rfl) ?_
      refine g_get cx hw inX12 (ci := 11) rfl 70 (by decide) rfl (v := .ref (ad 42)) shm_0 rfl fl_X12_142 dX12_doPut_86 ?_
      refine lv_iload_n hx hb dX12_doPut_89 rfl (lv_at hl 1 rfl) ?_
      refine lv_aload_n hx hb dX12_doPut_90 rfl (lv_at hl 0 rfl) ?_
      refine g_get cx hw inX12 (ci := 11) rfl 1 (by decide) rfl (v := .int (μ11.1 0 1)) shm_0 rfl fl_X12_308 dX12_doPut_91 ?_
      refine g_iast cx hw shm_42 h dX12_doPut_94 (fun μ18 H locs h hw => ?_)
      refine lv_aload_n hx hb dX12_doPut_95 rfl (lv_at hl 0 rfl) ?_
      refine lv_aload_n hx hb dX12_doPut_96 rfl (lv_at hl 0 rfl) ?_
      obtain ⟨r20, μ19, gr20, h⟩ := bd_some h
      refine g_callVI (As := []) (rest := [.ref (ad 0)]) cx hw hA (t_X12_given l G ad μ18 gr20) shm_0 rfl ml_X12_636 im_X12_given se_X12_given in_X12 co_X12_given rfl hd_X12_given rfl ⟨(Nat.le_of_ble_eq_true rfl), (Nat.le_of_ble_eq_true rfl)⟩ hl.1 rfl (Nat.le_of_ble_eq_true rfl) dX12_doPut_97 ⟨rfl, rfl⟩ (fun H locs hw => ?_)
      obtain ⟨μ21, gμ21, h⟩ := bw_some h
      refine g_callVV (As := [.int r20]) (rest := []) cx hw hA (t_X12_come l G ad r20 μ19 gμ21) shm_0 rfl ml_X12_585 im_X12_come se_X12_come in_X12 co_X12_come rfl hd_X12_come rfl ⟨(Nat.le_of_ble_eq_true rfl), (Nat.le_of_ble_eq_true rfl)⟩ hl.1 rfl (Nat.le_of_ble_eq_true rfl) dX12_doPut_100 ⟨rfl, rfl⟩ (fun H locs hw => ?_)
      exact g_vret cx hr hlk hw h dX12_doPut_103
  · rw [if_pos c10] at h
    refine lv_aload_n hx hb dX12_doPut_62 rfl (lv_at hl 0 rfl) ?_
    refine lv_aload_n hx hb dX12_doPut_63 rfl (lv_at hl 0 rfl) ?_
    refine lv_iload_n hx hb dX12_doPut_64 rfl (lv_at hl 3 rfl) ?_
    obtain ⟨r24, μ23, gr24, h⟩ := bd_some h
    refine g_callVI (As := [.int a3]) (rest := [.ref (ad 0)]) cx hw hA (t_X12_registerOf l G ad a3 μ8 gr24) shm_0 rfl ml_X12_643 im_X12_registerOf se_X12_registerOf in_X12 co_X12_registerOf rfl hd_X12_registerOf rfl ⟨(Nat.le_of_ble_eq_true rfl), (Nat.le_of_ble_eq_true rfl)⟩ hl.1 rfl (Nat.le_of_ble_eq_true rfl) dX12_doPut_65 ⟨rfl, rfl⟩ (fun H locs hw => ?_)
    obtain ⟨μ25, gμ25, h⟩ := bw_some h
    refine g_callVV (As := [.int r24]) (rest := []) cx hw hA (t_X12_come l G ad r24 μ23 gμ25) shm_0 rfl ml_X12_585 im_X12_come se_X12_come in_X12 co_X12_come rfl hd_X12_come rfl ⟨(Nat.le_of_ble_eq_true rfl), (Nat.le_of_ble_eq_true rfl)⟩ hl.1 rfl (Nat.le_of_ble_eq_true rfl) dX12_doPut_68 ⟨rfl, rfl⟩ (fun H locs hw => ?_)
    exact g_vret cx hr hlk hw h dX12_doPut_71
theorem p_X12_doPut_b27_ex : ∃ f : Int32 → Int32 → Int32 → Mem → Option Mem, ∀ (a1 : Int32) (a2 : Int32) (k0 : Int32) (μ : Mem), f a1 a2 k0 μ = (if (μ.1 0 68) = (0 : Int32) then (if k0 = (-1 : Int32) then p_X12_doPut_b54  a1 a2 k0 μ else gd (inb k0 960) (bv (sF μ 48 k0.toNatClampNeg a1) (fun μ27 => bw (p_X12_operand k0 a2 μ27) (fun μ28 => p_X12_doPut_b54  a1 a2 k0 μ28)))) else some μ) := ⟨fun (a1 : Int32) (a2 : Int32) (k0 : Int32) (μ : Mem) => (if (μ.1 0 68) = (0 : Int32) then (if k0 = (-1 : Int32) then p_X12_doPut_b54  a1 a2 k0 μ else gd (inb k0 960) (bv (sF μ 48 k0.toNatClampNeg a1) (fun μ27 => bw (p_X12_operand k0 a2 μ27) (fun μ28 => p_X12_doPut_b54  a1 a2 k0 μ28)))) else some μ), fun _ _ _ _ => rfl⟩
noncomputable def p_X12_doPut_b27 : Int32 → Int32 → Int32 → Mem → Option Mem := Classical.choose p_X12_doPut_b27_ex
theorem p_X12_doPut_b27_eq (a1 : Int32) (a2 : Int32) (k0 : Int32) (μ : Mem) : p_X12_doPut_b27 a1 a2 k0 μ = (if (μ.1 0 68) = (0 : Int32) then (if k0 = (-1 : Int32) then p_X12_doPut_b54  a1 a2 k0 μ else gd (inb k0 960) (bv (sF μ 48 k0.toNatClampNeg a1) (fun μ27 => bw (p_X12_operand k0 a2 μ27) (fun μ28 => p_X12_doPut_b54  a1 a2 k0 μ28)))) else some μ) := Classical.choose_spec p_X12_doPut_b27_ex a1 a2 k0 μ
set_option maxHeartbeats 4000000 in
set_option maxRecDepth 100000 in
theorem t_X12_doPut_b27 (l : Launch) (G : Gt) (ad : Nat → Nat) (av : List Value) {μz : Mem} (a1 : Int32) (a2 : Int32) (k0 : Int32) (μ : Mem) (h : p_X12_doPut_b27  a1 a2 k0 μ = some μz) : Bk l cX12_doPut 4 RX12 none ({ frames := 5, cells := 0, slots := 0, locals := 107 } : Room) G av (eV 1 G ad μz) (wd 1 G ad μ) 27 [(0, .ref (ad 0)), (1, .int a1), (2, .int a2)] [.int k0] := by
  intro p e s m below meth c A ls H locs cx hr hlk hA hl hw
  have hx := cx.1
  have hb := cx.2.1
  rw [p_X12_doPut_b27_eq] at h
  refine lv_istore_n (lv' := [(3, .int k0), (0, .ref (ad 0)), (1, .int a1), (2, .int a2)]) hx hb dX12_doPut_27 rfl hl (by decide) rfl (fun ls hl => ?_)
  refine lv_aload_n hx hb dX12_doPut_28 rfl (lv_at hl 1 rfl) ?_
  refine g_get cx hw inX12 (ci := 11) rfl 68 (by decide) rfl (v := .int (μ.1 0 68)) shm_0 rfl fl_X12_557 dX12_doPut_29 ?_
  refine lv_if_eq (tgt := 36) hx hb dX12_doPut_32 (by decide) (fun c6 => ?_) (fun c6 => ?_)
  · rw [if_pos c6] at h
    refine lv_iload_n hx hb dX12_doPut_36 rfl (lv_at hl 0 rfl) ?_
    refine lv_iconst (v := (-1)) hx hb dX12_doPut_37 (by decide) ?_
    refine lv_icmp_eq (tgt := 54) hx hb dX12_doPut_38 (by decide) (fun c7 => ?_) (fun c7 => ?_)
    · rw [if_pos c7] at h
      exact t_X12_doPut_b54 l G ad av  a1 a2 k0 μ h p e s m below meth c A ls H locs cx hr hlk hA (lv_sub hl [1, 2, 3, 0] rfl) hw
    · rw [if_neg c7] at h
      refine lv_aload_n hx hb dX12_doPut_41 rfl (lv_at hl 1 rfl) ?_
      refine g_get cx hw inX12 (ci := 11) rfl 80 (by decide) rfl (v := .ref (ad 48)) shm_0 rfl fl_X12_160 dX12_doPut_42 ?_
      refine lv_iload_n hx hb dX12_doPut_45 rfl (lv_at hl 0 rfl) ?_
      refine lv_iload_n hx hb dX12_doPut_46 rfl (lv_at hl 2 rfl) ?_
      refine g_iast cx hw shm_48 h dX12_doPut_47 (fun μ27 H locs h hw => ?_)
      refine lv_aload_n hx hb dX12_doPut_48 rfl (lv_at hl 1 rfl) ?_
      refine lv_iload_n hx hb dX12_doPut_49 rfl (lv_at hl 0 rfl) ?_
      refine lv_iload_n hx hb dX12_doPut_50 rfl (lv_at hl 3 rfl) ?_
      obtain ⟨μ28, gμ28, h⟩ := bw_some h
      refine g_callVV (As := [.int k0, .int a2]) (rest := []) cx hw hA (t_X12_operand l G ad k0 a2 μ27 gμ28) shm_0 rfl ml_X12_609 im_X12_operand se_X12_operand in_X12 co_X12_operand rfl hd_X12_operand rfl ⟨(Nat.le_of_ble_eq_true rfl), (Nat.le_of_ble_eq_true rfl)⟩ hl.1 rfl (Nat.le_of_ble_eq_true rfl) dX12_doPut_51 ⟨rfl, rfl⟩ (fun H locs hw => ?_)
      exact t_X12_doPut_b54 l G ad av  a1 a2 k0 μ28 h p e s m below meth c A ls H locs cx hr hlk hA (lv_sub hl [1, 2, 3, 0] rfl) hw
  · rw [if_neg c6] at h
    exact g_vret cx hr hlk hw h dX12_doPut_35
theorem p_X12_doPut_ex : ∃ f : Int32 → Mem → Option Mem, ∀ (a1 : Int32) (μ : Mem), f a1 μ = bd (p_X12_gone μ) (fun r2 μ1 => bd (p_X12_num r2 μ1) (fun r4 μ3 => (if (μ3.1 0 69) = (0 : Int32) then p_X12_doPut_b27  a1 r4 (-1 : Int32) μ3 else bd (p_X12_instruction (8 : Int32) (1 : Int32) μ3) (fun r31 μ30 => p_X12_doPut_b27  a1 r4 r31 μ30)))) := ⟨fun (a1 : Int32) (μ : Mem) => bd (p_X12_gone μ) (fun r2 μ1 => bd (p_X12_num r2 μ1) (fun r4 μ3 => (if (μ3.1 0 69) = (0 : Int32) then p_X12_doPut_b27  a1 r4 (-1 : Int32) μ3 else bd (p_X12_instruction (8 : Int32) (1 : Int32) μ3) (fun r31 μ30 => p_X12_doPut_b27  a1 r4 r31 μ30)))), fun _ _ => rfl⟩
noncomputable def p_X12_doPut : Int32 → Mem → Option Mem := Classical.choose p_X12_doPut_ex
theorem p_X12_doPut_eq (a1 : Int32) (μ : Mem) : p_X12_doPut a1 μ = bd (p_X12_gone μ) (fun r2 μ1 => bd (p_X12_num r2 μ1) (fun r4 μ3 => (if (μ3.1 0 69) = (0 : Int32) then p_X12_doPut_b27  a1 r4 (-1 : Int32) μ3 else bd (p_X12_instruction (8 : Int32) (1 : Int32) μ3) (fun r31 μ30 => p_X12_doPut_b27  a1 r4 r31 μ30)))) := Classical.choose_spec p_X12_doPut_ex a1 μ
set_option maxHeartbeats 4000000 in
set_option maxRecDepth 100000 in
theorem t_X12_doPut (l : Launch) (G : Gt) (ad : Nat → Nat) (a1 : Int32) (μ : Mem) {μz : Mem} (h : p_X12_doPut a1 μ = some μz) : Mt l yX12_doPut cX12_doPut 4 none ({ frames := 5, cells := 0, slots := 0, locals := 107 } : Room) G [.ref (ad 0), .int a1] (wd 1 G ad μ) (eV 1 G ad μz) := by
  refine Bk.mt (by decide) rfl (Nat.le_of_ble_eq_true rfl) ?_
  intro p e s m below meth c A ls H locs cx hr hlk hA hl hw
  have hx := cx.1
  have hb := cx.2.1
  have hl : lv_has ls 4 [(0, .ref (ad 0)), (1, .int a1)] := hl
  rw [p_X12_doPut_eq] at h
  refine lv_aload_n hx hb dX12_doPut_0 rfl (lv_at hl 0 rfl) ?_
  refine lv_aload_n hx hb dX12_doPut_1 rfl (lv_at hl 0 rfl) ?_
  obtain ⟨r2, μ1, gr2, h⟩ := bd_some h
  refine g_callVI (As := []) (rest := [.ref (ad 0)]) cx hw hA (t_X12_gone l G ad μ gr2) shm_0 rfl ml_X12_594 im_X12_gone se_X12_gone in_X12 co_X12_gone rfl hd_X12_gone rfl ⟨(Nat.le_of_ble_eq_true rfl), (Nat.le_of_ble_eq_true rfl)⟩ hl.1 rfl (Nat.le_of_ble_eq_true rfl) dX12_doPut_2 ⟨rfl, rfl⟩ (fun H locs hw => ?_)
  obtain ⟨r4, μ3, gr4, h⟩ := bd_some h
  refine g_callVI (As := [.int r2]) (rest := []) cx hw hA (t_X12_num l G ad r2 μ1 gr4) shm_0 rfl ml_X12_597 im_X12_num se_X12_num in_X12 co_X12_num rfl hd_X12_num rfl ⟨(Nat.le_of_ble_eq_true rfl), (Nat.le_of_ble_eq_true rfl)⟩ hl.1 rfl (Nat.le_of_ble_eq_true rfl) dX12_doPut_5 ⟨rfl, rfl⟩ (fun H locs hw => ?_)
  refine lv_istore_n (lv' := [(2, .int r4), (0, .ref (ad 0)), (1, .int a1)]) hx hb dX12_doPut_8 rfl hl (by decide) rfl (fun ls hl => ?_)
  refine lv_aload_n hx hb dX12_doPut_9 rfl (lv_at hl 1 rfl) ?_
  refine g_get cx hw inX12 (ci := 11) rfl 69 (by decide) rfl (v := .int (μ3.1 0 69)) shm_0 rfl fl_X12_551 dX12_doPut_10 ?_
  refine lv_if_eq (tgt := 26) hx hb dX12_doPut_13 (by decide) (fun c5 => ?_) (fun c5 => ?_)
  · rw [if_pos c5] at h
    refine lv_iconst (v := (-1)) hx hb dX12_doPut_26 (by decide) ?_
    exact t_X12_doPut_b27 l G ad _  a1 r4 (-1 : Int32) μ3 h p e s m below meth c A ls H locs cx hr hlk hA (lv_sub hl [1, 2, 0] rfl) hw
  · rw [if_neg c5] at h
    refine lv_aload_n hx hb dX12_doPut_16 rfl (lv_at hl 1 rfl) ?_
    refine lv_bipush (v := 8) hx hb dX12_doPut_17 (by decide) ?_
    refine lv_iconst (v := 1) hx hb dX12_doPut_19 (by decide) ?_
    obtain ⟨r31, μ30, gr31, h⟩ := bd_some h
    refine g_callVI (As := [.int 8, .int 1]) (rest := []) cx hw hA (t_X12_instruction l G ad (8 : Int32) (1 : Int32) μ3 gr31) shm_0 rfl ml_X12_639 im_X12_instruction se_X12_instruction in_X12 co_X12_instruction rfl hd_X12_instruction rfl ⟨(Nat.le_of_ble_eq_true rfl), (Nat.le_of_ble_eq_true rfl)⟩ hl.1 rfl (Nat.le_of_ble_eq_true rfl) dX12_doPut_20 ⟨rfl, rfl⟩ (fun H locs hw => ?_)
    refine lv_goto (tgt := 27) hx hb dX12_doPut_23 (by decide) ?_
    exact t_X12_doPut_b27 l G ad _  a1 r4 r31 μ30 h p e s m below meth c A ls H locs cx hr hlk hA (lv_sub hl [1, 2, 0] rfl) hw

theorem p_X12_doGet_ex : ∃ f : Int32 → Mem → Option Mem, ∀ (a1 : Int32) (μ : Mem), f a1 μ = (if (μ.1 0 69) = (0 : Int32) then (if (4 : Int32) ≤ a1 then gd (inb a1 8) (bd (p_X12_node (1 : Int32) (μ.1 42 a1.toNatClampNeg) μ) (fun r12 μ11 => bw (p_X12_come r12 μ11) (fun μ13 => some μ13))) else gd (inb a1 8) (bd (p_X12_node (0 : Int32) (μ.1 42 a1.toNatClampNeg) μ) (fun r16 μ15 => bw (p_X12_come r16 μ15) (fun μ17 => some μ17)))) else bd (p_X12_instruction (9 : Int32) (1 : Int32) μ) (fun r3 μ2 => (if (μ2.1 0 68) = (0 : Int32) then gd (inb r3 960) (bv (sF μ2 48 r3.toNatClampNeg a1) (fun μ5 => bd (p_X12_registerOf r3 μ5) (fun r7 μ6 => bw (p_X12_come r7 μ6) (fun μ8 => some μ8)))) else some μ2))) := ⟨fun (a1 : Int32) (μ : Mem) => (if (μ.1 0 69) = (0 : Int32) then (if (4 : Int32) ≤ a1 then gd (inb a1 8) (bd (p_X12_node (1 : Int32) (μ.1 42 a1.toNatClampNeg) μ) (fun r12 μ11 => bw (p_X12_come r12 μ11) (fun μ13 => some μ13))) else gd (inb a1 8) (bd (p_X12_node (0 : Int32) (μ.1 42 a1.toNatClampNeg) μ) (fun r16 μ15 => bw (p_X12_come r16 μ15) (fun μ17 => some μ17)))) else bd (p_X12_instruction (9 : Int32) (1 : Int32) μ) (fun r3 μ2 => (if (μ2.1 0 68) = (0 : Int32) then gd (inb r3 960) (bv (sF μ2 48 r3.toNatClampNeg a1) (fun μ5 => bd (p_X12_registerOf r3 μ5) (fun r7 μ6 => bw (p_X12_come r7 μ6) (fun μ8 => some μ8)))) else some μ2))), fun _ _ => rfl⟩
noncomputable def p_X12_doGet : Int32 → Mem → Option Mem := Classical.choose p_X12_doGet_ex
theorem p_X12_doGet_eq (a1 : Int32) (μ : Mem) : p_X12_doGet a1 μ = (if (μ.1 0 69) = (0 : Int32) then (if (4 : Int32) ≤ a1 then gd (inb a1 8) (bd (p_X12_node (1 : Int32) (μ.1 42 a1.toNatClampNeg) μ) (fun r12 μ11 => bw (p_X12_come r12 μ11) (fun μ13 => some μ13))) else gd (inb a1 8) (bd (p_X12_node (0 : Int32) (μ.1 42 a1.toNatClampNeg) μ) (fun r16 μ15 => bw (p_X12_come r16 μ15) (fun μ17 => some μ17)))) else bd (p_X12_instruction (9 : Int32) (1 : Int32) μ) (fun r3 μ2 => (if (μ2.1 0 68) = (0 : Int32) then gd (inb r3 960) (bv (sF μ2 48 r3.toNatClampNeg a1) (fun μ5 => bd (p_X12_registerOf r3 μ5) (fun r7 μ6 => bw (p_X12_come r7 μ6) (fun μ8 => some μ8)))) else some μ2))) := Classical.choose_spec p_X12_doGet_ex a1 μ
set_option maxHeartbeats 4000000 in
set_option maxRecDepth 100000 in
theorem t_X12_doGet (l : Launch) (G : Gt) (ad : Nat → Nat) (a1 : Int32) (μ : Mem) {μz : Mem} (h : p_X12_doGet a1 μ = some μz) : Mt l yX12_doGet cX12_doGet 3 none ({ frames := 2, cells := 0, slots := 0, locals := 45 } : Room) G [.ref (ad 0), .int a1] (wd 1 G ad μ) (eV 1 G ad μz) := by
  refine Bk.mt (by decide) rfl (Nat.le_of_ble_eq_true rfl) ?_
  intro p e s m below meth c A ls H locs cx hr hlk hA hl hw
  have hx := cx.1
  have hb := cx.2.1
  have hl : lv_has ls 3 [(0, .ref (ad 0)), (1, .int a1)] := hl
  rw [p_X12_doGet_eq] at h
  refine lv_aload_n hx hb dX12_doGet_0 rfl (lv_at hl 0 rfl) ?_
  refine g_get cx hw inX12 (ci := 11) rfl 69 (by decide) rfl (v := .int (μ.1 0 69)) shm_0 rfl fl_X12_551 dX12_doGet_1 ?_
  refine lv_if_ne (tgt := 32) hx hb dX12_doGet_4 (by decide) (fun c1 => ?_) (fun c1 => ?_)
  · rw [if_neg c1] at h
    refine lv_aload_n hx hb dX12_doGet_32 rfl (lv_at hl 0 rfl) ?_
    refine lv_bipush (v := 9) hx hb dX12_doGet_33 (by decide) ?_
    refine lv_iconst (v := 1) hx hb dX12_doGet_35 (by decide) ?_
    obtain ⟨r3, μ2, gr3, h⟩ := bd_some h
    refine g_callVI (As := [.int 9, .int 1]) (rest := []) cx hw hA (t_X12_instruction l G ad (9 : Int32) (1 : Int32) μ gr3) shm_0 rfl ml_X12_639 im_X12_instruction se_X12_instruction in_X12 co_X12_instruction rfl hd_X12_instruction rfl ⟨(Nat.le_of_ble_eq_true rfl), (Nat.le_of_ble_eq_true rfl)⟩ hl.1 rfl (Nat.le_of_ble_eq_true rfl) dX12_doGet_36 ⟨rfl, rfl⟩ (fun H locs hw => ?_)
    refine lv_istore_n (lv' := [(2, .int r3), (0, .ref (ad 0)), (1, .int a1)]) hx hb dX12_doGet_39 rfl hl (by decide) rfl (fun ls hl => ?_)
    refine lv_aload_n hx hb dX12_doGet_40 rfl (lv_at hl 1 rfl) ?_
    refine g_get cx hw inX12 (ci := 11) rfl 68 (by decide) rfl (v := .int (μ2.1 0 68)) shm_0 rfl fl_X12_557 dX12_doGet_41 ?_
    refine lv_if_eq (tgt := 48) hx hb dX12_doGet_44 (by decide) (fun c4 => ?_) (fun c4 => ?_)
    · rw [if_pos c4] at h
      refine lv_aload_n hx hb dX12_doGet_48 rfl (lv_at hl 1 rfl) ?_
      refine g_get cx hw inX12 (ci := 11) rfl 80 (by decide) rfl (v := .ref (ad 48)) shm_0 rfl fl_X12_160 dX12_doGet_49 ?_
      refine lv_iload_n hx hb dX12_doGet_52 rfl (lv_at hl 0 rfl) ?_
      refine lv_iload_n hx hb dX12_doGet_53 rfl (lv_at hl 2 rfl) ?_
      refine g_iast cx hw shm_48 h dX12_doGet_54 (fun μ5 H locs h hw => ?_)
      refine lv_aload_n hx hb dX12_doGet_55 rfl (lv_at hl 1 rfl) ?_
      refine lv_aload_n hx hb dX12_doGet_56 rfl (lv_at hl 1 rfl) ?_
      refine lv_iload_n hx hb dX12_doGet_57 rfl (lv_at hl 0 rfl) ?_
      obtain ⟨r7, μ6, gr7, h⟩ := bd_some h
      refine g_callVI (As := [.int r3]) (rest := [.ref (ad 0)]) cx hw hA (t_X12_registerOf l G ad r3 μ5 gr7) shm_0 rfl ml_X12_643 im_X12_registerOf se_X12_registerOf in_X12 co_X12_registerOf rfl hd_X12_registerOf rfl ⟨(Nat.le_of_ble_eq_true rfl), (Nat.le_of_ble_eq_true rfl)⟩ hl.1 rfl (Nat.le_of_ble_eq_true rfl) dX12_doGet_58 ⟨rfl, rfl⟩ (fun H locs hw => ?_)
      obtain ⟨μ8, gμ8, h⟩ := bw_some h
      refine g_callVV (As := [.int r7]) (rest := []) cx hw hA (t_X12_come l G ad r7 μ6 gμ8) shm_0 rfl ml_X12_585 im_X12_come se_X12_come in_X12 co_X12_come rfl hd_X12_come rfl ⟨(Nat.le_of_ble_eq_true rfl), (Nat.le_of_ble_eq_true rfl)⟩ hl.1 rfl (Nat.le_of_ble_eq_true rfl) dX12_doGet_61 ⟨rfl, rfl⟩ (fun H locs hw => ?_)
      exact g_vret cx hr hlk hw h dX12_doGet_64
    · rw [if_neg c4] at h
      exact g_vret cx hr hlk hw h dX12_doGet_47
  · rw [if_pos c1] at h
    refine lv_aload_n hx hb dX12_doGet_7 rfl (lv_at hl 0 rfl) ?_
    refine lv_aload_n hx hb dX12_doGet_8 rfl (lv_at hl 0 rfl) ?_
    refine lv_iload_n hx hb dX12_doGet_9 rfl (lv_at hl 1 rfl) ?_
    refine lv_iconst (v := 4) hx hb dX12_doGet_10 (by decide) ?_
    refine lv_icmp_ge (tgt := 18) hx hb dX12_doGet_11 (by decide) (fun c10 => ?_) (fun c10 => ?_)
    · rw [if_pos c10] at h
      refine lv_iconst (v := 1) hx hb dX12_doGet_18 (by decide) ?_
      refine lv_aload_n hx hb dX12_doGet_19 rfl (lv_at hl 0 rfl) ?_
      refine g_get cx hw inX12 (ci := 11) rfl 70 (by decide) rfl (v := .ref (ad 42)) shm_0 rfl fl_X12_142 dX12_doGet_20 ?_
      refine lv_iload_n hx hb dX12_doGet_23 rfl (lv_at hl 1 rfl) ?_
      refine g_iald cx hw shm_42 h dX12_doGet_24 (fun h => ?_)
      obtain ⟨r12, μ11, gr12, h⟩ := bd_some h
      refine g_callVI (As := [.int 1, .int (μ.1 42 a1.toNatClampNeg)]) (rest := [.ref (ad 0)]) cx hw hA (t_X12_node l G ad (1 : Int32) (μ.1 42 a1.toNatClampNeg) μ gr12) shm_0 rfl ml_X12_527 im_X12_node se_X12_node in_X12 co_X12_node rfl hd_X12_node rfl ⟨(Nat.le_of_ble_eq_true rfl), (Nat.le_of_ble_eq_true rfl)⟩ hl.1 rfl (Nat.le_of_ble_eq_true rfl) dX12_doGet_25 ⟨rfl, rfl⟩ (fun H locs hw => ?_)
      obtain ⟨μ13, gμ13, h⟩ := bw_some h
      refine g_callVV (As := [.int r12]) (rest := []) cx hw hA (t_X12_come l G ad r12 μ11 gμ13) shm_0 rfl ml_X12_585 im_X12_come se_X12_come in_X12 co_X12_come rfl hd_X12_come rfl ⟨(Nat.le_of_ble_eq_true rfl), (Nat.le_of_ble_eq_true rfl)⟩ hl.1 rfl (Nat.le_of_ble_eq_true rfl) dX12_doGet_28 ⟨rfl, rfl⟩ (fun H locs hw => ?_)
      exact g_vret cx hr hlk hw h dX12_doGet_31
    · rw [if_neg c10] at h
      refine lv_iconst (v := 0) hx hb dX12_doGet_14 (by decide) ?_
      refine lv_goto (tgt := 19) hx hb dX12_doGet_15 (by decide) ?_
      refine lv_aload_n hx hb dX12_doGet_19 rfl (lv_at hl 0 rfl) ?_
      refine g_get cx hw inX12 (ci := 11) rfl 70 (by decide) rfl (v := .ref (ad 42)) shm_0 rfl fl_X12_142 dX12_doGet_20 ?_
      refine lv_iload_n hx hb dX12_doGet_23 rfl (lv_at hl 1 rfl) ?_
      refine g_iald cx hw shm_42 h dX12_doGet_24 (fun h => ?_)
      obtain ⟨r16, μ15, gr16, h⟩ := bd_some h
      refine g_callVI (As := [.int 0, .int (μ.1 42 a1.toNatClampNeg)]) (rest := [.ref (ad 0)]) cx hw hA (t_X12_node l G ad (0 : Int32) (μ.1 42 a1.toNatClampNeg) μ gr16) shm_0 rfl ml_X12_527 im_X12_node se_X12_node in_X12 co_X12_node rfl hd_X12_node rfl ⟨(Nat.le_of_ble_eq_true rfl), (Nat.le_of_ble_eq_true rfl)⟩ hl.1 rfl (Nat.le_of_ble_eq_true rfl) dX12_doGet_25 ⟨rfl, rfl⟩ (fun H locs hw => ?_)
      obtain ⟨μ17, gμ17, h⟩ := bw_some h
      refine g_callVV (As := [.int r16]) (rest := []) cx hw hA (t_X12_come l G ad r16 μ15 gμ17) shm_0 rfl ml_X12_585 im_X12_come se_X12_come in_X12 co_X12_come rfl hd_X12_come rfl ⟨(Nat.le_of_ble_eq_true rfl), (Nat.le_of_ble_eq_true rfl)⟩ hl.1 rfl (Nat.le_of_ble_eq_true rfl) dX12_doGet_28 ⟨rfl, rfl⟩ (fun H locs hw => ?_)
      exact g_vret cx hr hlk hw h dX12_doGet_31

theorem p_X12_enter_b13_ex : ∃ f : Nat → Int32 → Int32 → Mem → Option Mem, (∀ (a1 : Int32) (a2 : Int32) (μ : Mem), f  0 a1 a2 μ = none) ∧ (∀ (n : Nat) (a1 : Int32) (a2 : Int32) (μ : Mem), f  (n + 1) a1 a2 μ = gd (inb a1 73) ((if (μ.1 3 a1.toNatClampNeg) ≤ a2 then bw (p_X12_push (5 : Int32) (0 : Int32) (0 : Int32) μ) (fun μ3 => gd (inb a1 73) (bw (p_X12_push (0 : Int32) (μ3.1 5 a1.toNatClampNeg) (0 : Int32) μ3) (fun μ5 => some μ5))) else gd (inb (((5 : Int32) * a1) + a2) 365) (gd (inb a2 5) (gd (inb ((μ.1 0 67) + (μ.1 4 (((5 : Int32) * a1) + a2).toNatClampNeg)) 500) (bv (sF μ 41 ((μ.1 0 67) + (μ.1 4 (((5 : Int32) * a1) + a2).toNatClampNeg)).toNatClampNeg (μ.1 45 a2.toNatClampNeg)) (fun μ7 => bv (a2 + 1) (fun v8 => f n a1 v8 μ7)))))))) := ⟨fun n => Nat.rec (fun (a1 : Int32) (a2 : Int32) (μ : Mem) => none) (fun _ ih => fun (a1 : Int32) (a2 : Int32) (μ : Mem) => gd (inb a1 73) ((if (μ.1 3 a1.toNatClampNeg) ≤ a2 then bw (p_X12_push (5 : Int32) (0 : Int32) (0 : Int32) μ) (fun μ3 => gd (inb a1 73) (bw (p_X12_push (0 : Int32) (μ3.1 5 a1.toNatClampNeg) (0 : Int32) μ3) (fun μ5 => some μ5))) else gd (inb (((5 : Int32) * a1) + a2) 365) (gd (inb a2 5) (gd (inb ((μ.1 0 67) + (μ.1 4 (((5 : Int32) * a1) + a2).toNatClampNeg)) 500) (bv (sF μ 41 ((μ.1 0 67) + (μ.1 4 (((5 : Int32) * a1) + a2).toNatClampNeg)).toNatClampNeg (μ.1 45 a2.toNatClampNeg)) (fun μ7 => bv (a2 + 1) (fun v8 => ih a1 v8 μ7)))))))) n, fun  _ _ _ => rfl, fun  _ _ _ _ => rfl⟩
noncomputable def p_X12_enter_b13 : Nat → Int32 → Int32 → Mem → Option Mem := Classical.choose p_X12_enter_b13_ex
theorem p_X12_enter_b13_z (a1 : Int32) (a2 : Int32) (μ : Mem) : p_X12_enter_b13  0 a1 a2 μ = none := (Classical.choose_spec p_X12_enter_b13_ex).1  a1 a2 μ
theorem p_X12_enter_b13_s (n : Nat) (a1 : Int32) (a2 : Int32) (μ : Mem) : p_X12_enter_b13  (n + 1) a1 a2 μ = gd (inb a1 73) ((if (μ.1 3 a1.toNatClampNeg) ≤ a2 then bw (p_X12_push (5 : Int32) (0 : Int32) (0 : Int32) μ) (fun μ3 => gd (inb a1 73) (bw (p_X12_push (0 : Int32) (μ3.1 5 a1.toNatClampNeg) (0 : Int32) μ3) (fun μ5 => some μ5))) else gd (inb (((5 : Int32) * a1) + a2) 365) (gd (inb a2 5) (gd (inb ((μ.1 0 67) + (μ.1 4 (((5 : Int32) * a1) + a2).toNatClampNeg)) 500) (bv (sF μ 41 ((μ.1 0 67) + (μ.1 4 (((5 : Int32) * a1) + a2).toNatClampNeg)).toNatClampNeg (μ.1 45 a2.toNatClampNeg)) (fun μ7 => bv (a2 + 1) (fun v8 => p_X12_enter_b13  n a1 v8 μ7))))))) := (Classical.choose_spec p_X12_enter_b13_ex).2  n a1 a2 μ
set_option maxHeartbeats 4000000 in
set_option maxRecDepth 100000 in
theorem t_X12_enter_b13 (l : Launch) (G : Gt) (ad : Nat → Nat) (av : List Value) {μz : Mem} : ∀ (n : Nat) (a1 : Int32) (a2 : Int32) (μ : Mem), p_X12_enter_b13  n a1 a2 μ = some μz → Bk l cX12_enter 3 RX12 none ({ frames := 1, cells := 0, slots := 0, locals := 23 } : Room) G av (eV 1 G ad μz) (wd 1 G ad μ) 13 [(0, .ref (ad 0)), (1, .int a1), (2, .int a2)] [] := by
  intro n
  induction n with
  | zero => intro a1 a2 μ h; rw [p_X12_enter_b13_z] at h; cases h
  | succ n ih =>
    intro a1 a2 μ h p e s m below meth c A ls H locs cx hr hlk hA hl hw
    have hx := cx.1
    have hb := cx.2.1
    rw [p_X12_enter_b13_s] at h
    refine lv_iload_n hx hb dX12_enter_13 rfl (lv_at hl 2 rfl) ?_
    refine lv_aload_n hx hb dX12_enter_14 rfl (lv_at hl 0 rfl) ?_
    refine g_get cx hw inX12 (ci := 11) rfl 9 (by decide) rfl (v := .ref (ad 3)) shm_0 rfl fl_X12_21 dX12_enter_15 ?_
    refine lv_iload_n hx hb dX12_enter_18 rfl (lv_at hl 1 rfl) ?_
    refine g_iald cx hw shm_3 h dX12_enter_19 (fun h => ?_)
    refine lv_icmp_ge (tgt := 55) hx hb dX12_enter_20 (by decide) (fun c2 => ?_) (fun c2 => ?_)
    · rw [if_pos c2] at h
      refine lv_aload_n hx hb dX12_enter_55 rfl (lv_at hl 0 rfl) ?_
      refine lv_iconst (v := 5) hx hb dX12_enter_56 (by decide) ?_
      refine lv_iconst (v := 0) hx hb dX12_enter_57 (by decide) ?_
      refine lv_iconst (v := 0) hx hb dX12_enter_58 (by decide) ?_
      obtain ⟨μ3, gμ3, h⟩ := bw_some h
      refine g_callVV (As := [.int 5, .int 0, .int 0]) (rest := []) cx hw hA (t_X12_push l G ad (5 : Int32) (0 : Int32) (0 : Int32) μ gμ3) shm_0 rfl ml_X12_588 im_X12_push se_X12_push in_X12 co_X12_push rfl hd_X12_push rfl ⟨(Nat.le_of_ble_eq_true rfl), (Nat.le_of_ble_eq_true rfl)⟩ hl.1 rfl (Nat.le_of_ble_eq_true rfl) dX12_enter_59 ⟨rfl, rfl⟩ (fun H locs hw => ?_)
      refine lv_aload_n hx hb dX12_enter_62 rfl (lv_at hl 0 rfl) ?_
      refine lv_iconst (v := 0) hx hb dX12_enter_63 (by decide) ?_
      refine lv_aload_n hx hb dX12_enter_64 rfl (lv_at hl 0 rfl) ?_
      refine g_get cx hw inX12 (ci := 11) rfl 11 (by decide) rfl (v := .ref (ad 5)) shm_0 rfl fl_X12_27 dX12_enter_65 ?_
      refine lv_iload_n hx hb dX12_enter_68 rfl (lv_at hl 1 rfl) ?_
      refine g_iald cx hw shm_5 h dX12_enter_69 (fun h => ?_)
      refine lv_iconst (v := 0) hx hb dX12_enter_70 (by decide) ?_
      obtain ⟨μ5, gμ5, h⟩ := bw_some h
      refine g_callVV (As := [.int 0, .int (μ3.1 5 a1.toNatClampNeg), .int 0]) (rest := []) cx hw hA (t_X12_push l G ad (0 : Int32) (μ3.1 5 a1.toNatClampNeg) (0 : Int32) μ3 gμ5) shm_0 rfl ml_X12_588 im_X12_push se_X12_push in_X12 co_X12_push rfl hd_X12_push rfl ⟨(Nat.le_of_ble_eq_true rfl), (Nat.le_of_ble_eq_true rfl)⟩ hl.1 rfl (Nat.le_of_ble_eq_true rfl) dX12_enter_71 ⟨rfl, rfl⟩ (fun H locs hw => ?_)
      exact g_vret cx hr hlk hw h dX12_enter_74
    · rw [if_neg c2] at h
      refine lv_aload_n hx hb dX12_enter_23 rfl (lv_at hl 0 rfl) ?_
      refine g_get cx hw inX12 (ci := 11) rfl 64 (by decide) rfl (v := .ref (ad 41)) shm_0 rfl fl_X12_139 dX12_enter_24 ?_
      refine lv_aload_n hx hb dX12_enter_27 rfl (lv_at hl 0 rfl) ?_
      refine g_get cx hw inX12 (ci := 11) rfl 67 (by decide) rfl (v := .int (μ.1 0 67)) shm_0 rfl fl_X12_554 dX12_enter_28 ?_
      refine lv_aload_n hx hb dX12_enter_31 rfl (lv_at hl 0 rfl) ?_
      refine g_get cx hw inX12 (ci := 11) rfl 10 (by decide) rfl (v := .ref (ad 4)) shm_0 rfl fl_X12_24 dX12_enter_32 ?_
      refine lv_iconst (v := 5) hx hb dX12_enter_35 (by decide) ?_
      refine lv_iload_n hx hb dX12_enter_36 rfl (lv_at hl 1 rfl) ?_
      refine lv_imul hx hb dX12_enter_37 ?_
      refine lv_iload_n hx hb dX12_enter_38 rfl (lv_at hl 2 rfl) ?_
      refine lv_iadd hx hb dX12_enter_39 ?_
      refine g_iald cx hw shm_4 h dX12_enter_40 (fun h => ?_)
      refine lv_iadd hx hb dX12_enter_41 ?_
      refine lv_aload_n hx hb dX12_enter_42 rfl (lv_at hl 0 rfl) ?_
      refine g_get cx hw inX12 (ci := 11) rfl 74 (by decide) rfl (v := .ref (ad 45)) shm_0 rfl fl_X12_151 dX12_enter_43 ?_
      refine lv_iload_n hx hb dX12_enter_46 rfl (lv_at hl 2 rfl) ?_
      refine g_iald cx hw shm_45 h dX12_enter_47 (fun h => ?_)
      refine g_iast cx hw shm_41 h dX12_enter_48 (fun μ7 H locs h hw => ?_)
      obtain ⟨v8, ev8, h⟩ := bv_ex h
      refine lv_iinc (v := v8) (lv' := [(2, .int v8), (0, .ref (ad 0)), (1, .int a1)]) hx hb dX12_enter_49 hl (k := 2) rfl (by rw [ev8]; rfl) (by decide) rfl (fun ls hl => ?_)
      refine lv_goto (tgt := 13) hx hb dX12_enter_52 (by decide) ?_
      exact ih a1 v8 μ7 h p e s m below meth c A ls H locs cx hr hlk hA (lv_sub hl [1, 2, 0] rfl) hw
theorem p_X12_enter_ex : ∃ f : Int32 → Mem → Option Mem, ∀ (a1 : Int32) (μ : Mem), f a1 μ = bv (sF μ 0 67 ((μ.1 0 67) + (14 : Int32))) (fun μ1 => p_X12_enter_b13  FUEL a1 (0 : Int32) μ1) := ⟨fun (a1 : Int32) (μ : Mem) => bv (sF μ 0 67 ((μ.1 0 67) + (14 : Int32))) (fun μ1 => p_X12_enter_b13  FUEL a1 (0 : Int32) μ1), fun _ _ => rfl⟩
noncomputable def p_X12_enter : Int32 → Mem → Option Mem := Classical.choose p_X12_enter_ex
theorem p_X12_enter_eq (a1 : Int32) (μ : Mem) : p_X12_enter a1 μ = bv (sF μ 0 67 ((μ.1 0 67) + (14 : Int32))) (fun μ1 => p_X12_enter_b13  FUEL a1 (0 : Int32) μ1) := Classical.choose_spec p_X12_enter_ex a1 μ
set_option maxHeartbeats 4000000 in
set_option maxRecDepth 100000 in
theorem t_X12_enter (l : Launch) (G : Gt) (ad : Nat → Nat) (a1 : Int32) (μ : Mem) {μz : Mem} (h : p_X12_enter a1 μ = some μz) : Mt l yX12_enter cX12_enter 3 none ({ frames := 1, cells := 0, slots := 0, locals := 23 } : Room) G [.ref (ad 0), .int a1] (wd 1 G ad μ) (eV 1 G ad μz) := by
  refine Bk.mt (by decide) rfl (Nat.le_of_ble_eq_true rfl) ?_
  intro p e s m below meth c A ls H locs cx hr hlk hA hl hw
  have hx := cx.1
  have hb := cx.2.1
  have hl : lv_has ls 3 [(0, .ref (ad 0)), (1, .int a1)] := hl
  rw [p_X12_enter_eq] at h
  refine lv_aload_n hx hb dX12_enter_0 rfl (lv_at hl 0 rfl) ?_
  refine lv_dup hx hb dX12_enter_1 rfl ?_
  refine g_get cx hw inX12 (ci := 11) rfl 67 (by decide) rfl (v := .int (μ.1 0 67)) shm_0 rfl fl_X12_554 dX12_enter_2 ?_
  refine lv_bipush (v := 14) hx hb dX12_enter_5 (by decide) ?_
  refine lv_iadd hx hb dX12_enter_7 ?_
  refine g_put cx hw inX12 (ci := 11) rfl tyX12_ok nmX12 67 (by decide) rfl rfl rfl rfl shm_0 h fl_X12_554 dX12_enter_8 (fun μ1 H locs h hw => ?_)
  refine lv_iconst (v := 0) hx hb dX12_enter_11 (by decide) ?_
  refine lv_istore_n (lv' := [(2, .int 0), (0, .ref (ad 0)), (1, .int a1)]) hx hb dX12_enter_12 rfl hl (by decide) rfl (fun ls hl => ?_)
  exact t_X12_enter_b13 l G ad _  FUEL a1 (0 : Int32) μ1 h p e s m below meth c A ls H locs cx hr hlk hA (lv_sub hl [1, 2, 0] rfl) hw

theorem s_X12_isNumber_ex : ∃ f : Int32 → Int32, ∀ (a0 : Int32), f a0 = (if a0 = (0 : Int32) then (1 : Int32) else (if a0 = (1 : Int32) then (1 : Int32) else (0 : Int32))) := ⟨fun (a0 : Int32) => (if a0 = (0 : Int32) then (1 : Int32) else (if a0 = (1 : Int32) then (1 : Int32) else (0 : Int32))), fun _ => rfl⟩
noncomputable def s_X12_isNumber : Int32 → Int32 := Classical.choose s_X12_isNumber_ex
theorem s_X12_isNumber_eq (a0 : Int32) : s_X12_isNumber a0 = (if a0 = (0 : Int32) then (1 : Int32) else (if a0 = (1 : Int32) then (1 : Int32) else (0 : Int32))) := Classical.choose_spec s_X12_isNumber_ex a0
set_option maxHeartbeats 4000000 in
set_option maxRecDepth 100000 in
theorem t_X12_isNumber (l : Launch) (G : Gt) (a0 : Int32) : Mt l yX12_isNumber cX12_isNumber 1 (some .boolean) ({ frames := 0, cells := 0, slots := 0, locals := 0 } : Room) G [.int a0] [] (sI G (s_X12_isNumber a0)) := by
  obtain ⟨r, h⟩ : ∃ r, s_X12_isNumber a0 = r := ⟨_, rfl⟩
  rw [h]
  refine Bk.mt (by decide) rfl (Nat.le_of_ble_eq_true rfl) ?_
  intro p e s m below meth c A ls H locs cx hr hlk hA hl hw
  have hx := cx.1
  have hb := cx.2.1
  have hl : lv_has ls 1 [(0, .int a0)] := hl
  rw [s_X12_isNumber_eq] at h
  refine lv_iload_n hx hb dX12_isNumber_0 rfl (lv_at hl 0 rfl) ?_
  refine lv_if_eq (tgt := 9) hx hb dX12_isNumber_1 (by decide) (fun c1 => ?_) (fun c1 => ?_)
  · rw [if_pos c1] at h
    refine lv_iconst (v := 1) hx hb dX12_isNumber_9 (by decide) ?_
    refine lv_goto (tgt := 14) hx hb dX12_isNumber_10 (by decide) ?_
    exact s_zret cx hr hlk rfl hw h dX12_isNumber_14
  · rw [if_neg c1] at h
    refine lv_iload_n hx hb dX12_isNumber_4 rfl (lv_at hl 0 rfl) ?_
    refine lv_iconst (v := 1) hx hb dX12_isNumber_5 (by decide) ?_
    refine lv_icmp_ne (tgt := 13) hx hb dX12_isNumber_6 (by decide) (fun c2 => ?_) (fun c2 => ?_)
    · rw [if_neg c2] at h
      refine lv_iconst (v := 0) hx hb dX12_isNumber_13 (by decide) ?_
      exact s_zret cx hr hlk rfl hw h dX12_isNumber_14
    · rw [if_pos c2] at h
      refine lv_iconst (v := 1) hx hb dX12_isNumber_9 (by decide) ?_
      refine lv_goto (tgt := 14) hx hb dX12_isNumber_10 (by decide) ?_
      exact s_zret cx hr hlk rfl hw h dX12_isNumber_14

theorem p_X12_layMade_b95_ex : ∃ f : (Int32 → Mem → Option Mem) → Int32 → Int32 → Int32 → Int32 → Mem → Option Mem, ∀ (K36 : Int32 → Mem → Option Mem) (a2 : Int32) (a3 : Int32) (k0 : Int32) (k1 : Int32) (μ : Mem), f K36 a2 a3 k0 k1 μ = gd (inb k1 210) (bv (sF μ 68 k1.toNatClampNeg k0) (fun μ9 => gd (inb (μ9.1 0 118) 210) (bv (sF μ9 69 (μ9.1 0 118).toNatClampNeg a3) (fun μ10 => bv (sF μ10 0 118 ((μ10.1 0 118) + (1 : Int32))) (fun μ11 => gd (inb a3 100000) ((if (μ11.1 30 a3.toNatClampNeg) = (2 : Int32) then gd (inb a3 100000) (gd (inb a2 200) (bv (sF μ11 55 a2.toNatClampNeg (μ11.1 32 a3.toNatClampNeg)) (fun μ13 => gd (inb a3 100000) (gd (inb (a2 + (1 : Int32)) 200) (bv (sF μ13 55 (a2 + (1 : Int32)).toNatClampNeg (μ13.1 31 a3.toNatClampNeg)) (fun μ14 => bv (a2 + 2) (fun v15 => K36 v15 μ14))))))) else K36 a2 μ11))))))) := ⟨fun (K36 : Int32 → Mem → Option Mem) (a2 : Int32) (a3 : Int32) (k0 : Int32) (k1 : Int32) (μ : Mem) => gd (inb k1 210) (bv (sF μ 68 k1.toNatClampNeg k0) (fun μ9 => gd (inb (μ9.1 0 118) 210) (bv (sF μ9 69 (μ9.1 0 118).toNatClampNeg a3) (fun μ10 => bv (sF μ10 0 118 ((μ10.1 0 118) + (1 : Int32))) (fun μ11 => gd (inb a3 100000) ((if (μ11.1 30 a3.toNatClampNeg) = (2 : Int32) then gd (inb a3 100000) (gd (inb a2 200) (bv (sF μ11 55 a2.toNatClampNeg (μ11.1 32 a3.toNatClampNeg)) (fun μ13 => gd (inb a3 100000) (gd (inb (a2 + (1 : Int32)) 200) (bv (sF μ13 55 (a2 + (1 : Int32)).toNatClampNeg (μ13.1 31 a3.toNatClampNeg)) (fun μ14 => bv (a2 + 2) (fun v15 => K36 v15 μ14))))))) else K36 a2 μ11))))))), fun _ _ _ _ _ _ => rfl⟩
noncomputable def p_X12_layMade_b95 : (Int32 → Mem → Option Mem) → Int32 → Int32 → Int32 → Int32 → Mem → Option Mem := Classical.choose p_X12_layMade_b95_ex
theorem p_X12_layMade_b95_eq (K36 : Int32 → Mem → Option Mem) (a2 : Int32) (a3 : Int32) (k0 : Int32) (k1 : Int32) (μ : Mem) : p_X12_layMade_b95 K36 a2 a3 k0 k1 μ = gd (inb k1 210) (bv (sF μ 68 k1.toNatClampNeg k0) (fun μ9 => gd (inb (μ9.1 0 118) 210) (bv (sF μ9 69 (μ9.1 0 118).toNatClampNeg a3) (fun μ10 => bv (sF μ10 0 118 ((μ10.1 0 118) + (1 : Int32))) (fun μ11 => gd (inb a3 100000) ((if (μ11.1 30 a3.toNatClampNeg) = (2 : Int32) then gd (inb a3 100000) (gd (inb a2 200) (bv (sF μ11 55 a2.toNatClampNeg (μ11.1 32 a3.toNatClampNeg)) (fun μ13 => gd (inb a3 100000) (gd (inb (a2 + (1 : Int32)) 200) (bv (sF μ13 55 (a2 + (1 : Int32)).toNatClampNeg (μ13.1 31 a3.toNatClampNeg)) (fun μ14 => bv (a2 + 2) (fun v15 => K36 v15 μ14))))))) else K36 a2 μ11))))))) := Classical.choose_spec p_X12_layMade_b95_ex K36 a2 a3 k0 k1 μ
set_option maxHeartbeats 4000000 in
set_option maxRecDepth 100000 in
theorem t_X12_layMade_b95 (l : Launch) (G : Gt) (ad : Nat → Nat) (av : List Value) {μz : Mem} (K36 : Int32 → Mem → Option Mem) (hK36 : ∀ (z2 : Int32) (μ1 : Mem), K36 z2 μ1 = some μz → Bk l cX12_layMade 4 RX12 none ({ frames := 1, cells := 0, slots := 0, locals := 20 } : Room) G av (eV 1 G ad μz) (wd 1 G ad μ1) 36 [(0, .ref (ad 0)), (2, .int z2)] []) (a2 : Int32) (a3 : Int32) (k0 : Int32) (k1 : Int32) (μ : Mem) (h : p_X12_layMade_b95 K36 a2 a3 k0 k1 μ = some μz) : Bk l cX12_layMade 4 RX12 none ({ frames := 1, cells := 0, slots := 0, locals := 20 } : Room) G av (eV 1 G ad μz) (wd 1 G ad μ) 95 [(0, .ref (ad 0)), (2, .int a2), (3, .int a3)] [.int k0, .int k1, .ref (ad 68)] := by
  intro p e s m below meth c A ls H locs cx hr hlk hA hl hw
  have hx := cx.1
  have hb := cx.2.1
  rw [p_X12_layMade_b95_eq] at h
  refine g_iast cx hw shm_68 h dX12_layMade_95 (fun μ9 H locs h hw => ?_)
  refine lv_aload_n hx hb dX12_layMade_96 rfl (lv_at hl 0 rfl) ?_
  refine g_get cx hw inX12 (ci := 11) rfl 114 (by decide) rfl (v := .ref (ad 69)) shm_0 rfl fl_X12_223 dX12_layMade_97 ?_
  refine lv_aload_n hx hb dX12_layMade_100 rfl (lv_at hl 0 rfl) ?_
  refine g_get cx hw inX12 (ci := 11) rfl 118 (by decide) rfl (v := .int (μ9.1 0 118)) shm_0 rfl fl_X12_707 dX12_layMade_101 ?_
  refine lv_iload_n hx hb dX12_layMade_104 rfl (lv_at hl 2 rfl) ?_
  refine g_iast cx hw shm_69 h dX12_layMade_105 (fun μ10 H locs h hw => ?_)
  refine lv_aload_n hx hb dX12_layMade_106 rfl (lv_at hl 0 rfl) ?_
  refine lv_dup hx hb dX12_layMade_107 rfl ?_
  refine g_get cx hw inX12 (ci := 11) rfl 118 (by decide) rfl (v := .int (μ10.1 0 118)) shm_0 rfl fl_X12_707 dX12_layMade_108 ?_
  refine lv_iconst (v := 1) hx hb dX12_layMade_111 (by decide) ?_
  refine lv_iadd hx hb dX12_layMade_112 ?_
  refine g_put cx hw inX12 (ci := 11) rfl tyX12_ok nmX12 118 (by decide) rfl rfl rfl rfl shm_0 h fl_X12_707 dX12_layMade_113 (fun μ11 H locs h hw => ?_)
  refine lv_aload_n hx hb dX12_layMade_116 rfl (lv_at hl 0 rfl) ?_
  refine g_get cx hw inX12 (ci := 11) rfl 51 (by decide) rfl (v := .ref (ad 30)) shm_0 rfl fl_X12_106 dX12_layMade_117 ?_
  refine lv_iload_n hx hb dX12_layMade_120 rfl (lv_at hl 2 rfl) ?_
  refine g_iald cx hw shm_30 h dX12_layMade_121 (fun h => ?_)
  refine lv_iconst (v := 2) hx hb dX12_layMade_122 (by decide) ?_
  refine lv_icmp_eq (tgt := 129) hx hb dX12_layMade_123 (by decide) (fun c12 => ?_) (fun c12 => ?_)
  · rw [if_pos c12] at h
    refine lv_aload_n hx hb dX12_layMade_129 rfl (lv_at hl 0 rfl) ?_
    refine g_get cx hw inX12 (ci := 11) rfl 98 (by decide) rfl (v := .ref (ad 55)) shm_0 rfl fl_X12_181 dX12_layMade_130 ?_
    refine lv_iload_n hx hb dX12_layMade_133 rfl (lv_at hl 1 rfl) ?_
    refine lv_aload_n hx hb dX12_layMade_134 rfl (lv_at hl 0 rfl) ?_
    refine g_get cx hw inX12 (ci := 11) rfl 53 (by decide) rfl (v := .ref (ad 32)) shm_0 rfl fl_X12_112 dX12_layMade_135 ?_
    refine lv_iload_n hx hb dX12_layMade_138 rfl (lv_at hl 2 rfl) ?_
    refine g_iald cx hw shm_32 h dX12_layMade_139 (fun h => ?_)
    refine g_iast cx hw shm_55 h dX12_layMade_140 (fun μ13 H locs h hw => ?_)
    refine lv_aload_n hx hb dX12_layMade_141 rfl (lv_at hl 0 rfl) ?_
    refine g_get cx hw inX12 (ci := 11) rfl 98 (by decide) rfl (v := .ref (ad 55)) shm_0 rfl fl_X12_181 dX12_layMade_142 ?_
    refine lv_iload_n hx hb dX12_layMade_145 rfl (lv_at hl 1 rfl) ?_
    refine lv_iconst (v := 1) hx hb dX12_layMade_146 (by decide) ?_
    refine lv_iadd hx hb dX12_layMade_147 ?_
    refine lv_aload_n hx hb dX12_layMade_148 rfl (lv_at hl 0 rfl) ?_
    refine g_get cx hw inX12 (ci := 11) rfl 52 (by decide) rfl (v := .ref (ad 31)) shm_0 rfl fl_X12_109 dX12_layMade_149 ?_
    refine lv_iload_n hx hb dX12_layMade_152 rfl (lv_at hl 2 rfl) ?_
    refine g_iald cx hw shm_31 h dX12_layMade_153 (fun h => ?_)
    refine g_iast cx hw shm_55 h dX12_layMade_154 (fun μ14 H locs h hw => ?_)
    obtain ⟨v15, ev15, h⟩ := bv_ex h
    refine lv_iinc (v := v15) (lv' := [(2, .int v15), (0, .ref (ad 0)), (3, .int a3)]) hx hb dX12_layMade_155 hl (k := 1) rfl (by rw [ev15]; rfl) (by decide) rfl (fun ls hl => ?_)
    refine lv_goto (tgt := 36) hx hb dX12_layMade_158 (by decide) ?_
    exact hK36 v15 μ14 h p e s m below meth c A ls H locs cx hr hlk hA (lv_sub hl [1, 0] rfl) hw
  · rw [if_neg c12] at h
    refine lv_goto (tgt := 36) hx hb dX12_layMade_126 (by decide) ?_
    exact hK36 a2 μ11 h p e s m below meth c A ls H locs cx hr hlk hA (lv_sub hl [0, 1] rfl) hw
theorem p_X12_layMade_b36_ex : ∃ f : Nat → Int32 → Mem → Option Mem, (∀ (a2 : Int32) (μ : Mem), f  0 a2 μ = none) ∧ (∀ (n : Nat) (a2 : Int32) (μ : Mem), f  (n + 1) a2 μ = (if a2 ≤ (0 : Int32) then some μ else bv (a2 + (-1)) (fun v5 => gd (inb v5 200) (bv (μ.1 55 v5.toNatClampNeg) (fun v6 => gd (inb v6 100000) (gd (inb (μ.1 0 118) 210) (bv (sF μ 67 (μ.1 0 118).toNatClampNeg (μ.1 30 v6.toNatClampNeg)) (fun μ7 => gd (inb v6 100000) ((if (s_X12_isNumber (μ7.1 30 v6.toNatClampNeg)) = (0 : Int32) then p_X12_layMade_b95 (f n) v5 v6 (0 : Int32) (μ7.1 0 118) μ7 else gd (inb v6 100000) (p_X12_layMade_b95 (f n) v5 v6 (μ7.1 31 v6.toNatClampNeg) (μ7.1 0 118) μ7))))))))))) := ⟨fun n => Nat.rec (fun (a2 : Int32) (μ : Mem) => none) (fun _ ih => fun (a2 : Int32) (μ : Mem) => (if a2 ≤ (0 : Int32) then some μ else bv (a2 + (-1)) (fun v5 => gd (inb v5 200) (bv (μ.1 55 v5.toNatClampNeg) (fun v6 => gd (inb v6 100000) (gd (inb (μ.1 0 118) 210) (bv (sF μ 67 (μ.1 0 118).toNatClampNeg (μ.1 30 v6.toNatClampNeg)) (fun μ7 => gd (inb v6 100000) ((if (s_X12_isNumber (μ7.1 30 v6.toNatClampNeg)) = (0 : Int32) then p_X12_layMade_b95 (ih) v5 v6 (0 : Int32) (μ7.1 0 118) μ7 else gd (inb v6 100000) (p_X12_layMade_b95 (ih) v5 v6 (μ7.1 31 v6.toNatClampNeg) (μ7.1 0 118) μ7))))))))))) n, fun  _ _ => rfl, fun  _ _ _ => rfl⟩
noncomputable def p_X12_layMade_b36 : Nat → Int32 → Mem → Option Mem := Classical.choose p_X12_layMade_b36_ex
theorem p_X12_layMade_b36_z (a2 : Int32) (μ : Mem) : p_X12_layMade_b36  0 a2 μ = none := (Classical.choose_spec p_X12_layMade_b36_ex).1  a2 μ
theorem p_X12_layMade_b36_s (n : Nat) (a2 : Int32) (μ : Mem) : p_X12_layMade_b36  (n + 1) a2 μ = (if a2 ≤ (0 : Int32) then some μ else bv (a2 + (-1)) (fun v5 => gd (inb v5 200) (bv (μ.1 55 v5.toNatClampNeg) (fun v6 => gd (inb v6 100000) (gd (inb (μ.1 0 118) 210) (bv (sF μ 67 (μ.1 0 118).toNatClampNeg (μ.1 30 v6.toNatClampNeg)) (fun μ7 => gd (inb v6 100000) ((if (s_X12_isNumber (μ7.1 30 v6.toNatClampNeg)) = (0 : Int32) then p_X12_layMade_b95 (p_X12_layMade_b36  n) v5 v6 (0 : Int32) (μ7.1 0 118) μ7 else gd (inb v6 100000) (p_X12_layMade_b95 (p_X12_layMade_b36  n) v5 v6 (μ7.1 31 v6.toNatClampNeg) (μ7.1 0 118) μ7)))))))))) := (Classical.choose_spec p_X12_layMade_b36_ex).2  n a2 μ
set_option maxHeartbeats 4000000 in
set_option maxRecDepth 100000 in
theorem t_X12_layMade_b36 (l : Launch) (G : Gt) (ad : Nat → Nat) (av : List Value) {μz : Mem} : ∀ (n : Nat) (a2 : Int32) (μ : Mem), p_X12_layMade_b36  n a2 μ = some μz → Bk l cX12_layMade 4 RX12 none ({ frames := 1, cells := 0, slots := 0, locals := 20 } : Room) G av (eV 1 G ad μz) (wd 1 G ad μ) 36 [(0, .ref (ad 0)), (2, .int a2)] [] := by
  intro n
  induction n with
  | zero => intro a2 μ h; rw [p_X12_layMade_b36_z] at h; cases h
  | succ n ih =>
    intro a2 μ h p e s m below meth c A ls H locs cx hr hlk hA hl hw
    have hx := cx.1
    have hb := cx.2.1
    rw [p_X12_layMade_b36_s] at h
    refine lv_iload_n hx hb dX12_layMade_36 rfl (lv_at hl 1 rfl) ?_
    refine lv_if_le (tgt := 161) hx hb dX12_layMade_37 (by decide) (fun c4 => ?_) (fun c4 => ?_)
    · rw [if_pos c4] at h
      exact g_vret cx hr hlk hw h dX12_layMade_161
    · rw [if_neg c4] at h
      obtain ⟨v5, ev5, h⟩ := bv_ex h
      refine lv_iinc (v := v5) (lv' := [(2, .int v5), (0, .ref (ad 0))]) hx hb dX12_layMade_40 hl (k := 1) rfl (by rw [ev5]; rfl) (by decide) rfl (fun ls hl => ?_)
      refine lv_aload_n hx hb dX12_layMade_43 rfl (lv_at hl 1 rfl) ?_
      refine g_get cx hw inX12 (ci := 11) rfl 98 (by decide) rfl (v := .ref (ad 55)) shm_0 rfl fl_X12_181 dX12_layMade_44 ?_
      refine lv_iload_n hx hb dX12_layMade_47 rfl (lv_at hl 0 rfl) ?_
      refine g_iald cx hw shm_55 h dX12_layMade_48 (fun h => ?_)
      obtain ⟨v6, ev6, h⟩ := bv_ex h
      refine lv_topi (fun y9 z9 => ?_)
      obtain rfl : v6 = y9 := ev6.trans z9.symm
      refine lv_istore_n (lv' := [(3, .int v6), (2, .int v5), (0, .ref (ad 0))]) hx hb dX12_layMade_49 rfl hl (by decide) rfl (fun ls hl => ?_)
      refine lv_aload_n hx hb dX12_layMade_50 rfl (lv_at hl 2 rfl) ?_
      refine g_get cx hw inX12 (ci := 11) rfl 112 (by decide) rfl (v := .ref (ad 67)) shm_0 rfl fl_X12_217 dX12_layMade_51 ?_
      refine lv_aload_n hx hb dX12_layMade_54 rfl (lv_at hl 2 rfl) ?_
      refine g_get cx hw inX12 (ci := 11) rfl 118 (by decide) rfl (v := .int (μ.1 0 118)) shm_0 rfl fl_X12_707 dX12_layMade_55 ?_
      refine lv_aload_n hx hb dX12_layMade_58 rfl (lv_at hl 2 rfl) ?_
      refine g_get cx hw inX12 (ci := 11) rfl 51 (by decide) rfl (v := .ref (ad 30)) shm_0 rfl fl_X12_106 dX12_layMade_59 ?_
      refine lv_iload_n hx hb dX12_layMade_62 rfl (lv_at hl 0 rfl) ?_
      refine g_iald cx hw shm_30 h dX12_layMade_63 (fun h => ?_)
      refine g_iast cx hw shm_67 h dX12_layMade_64 (fun μ7 H locs h hw => ?_)
      refine lv_aload_n hx hb dX12_layMade_65 rfl (lv_at hl 2 rfl) ?_
      refine g_get cx hw inX12 (ci := 11) rfl 113 (by decide) rfl (v := .ref (ad 68)) shm_0 rfl fl_X12_220 dX12_layMade_66 ?_
      refine lv_aload_n hx hb dX12_layMade_69 rfl (lv_at hl 2 rfl) ?_
      refine g_get cx hw inX12 (ci := 11) rfl 118 (by decide) rfl (v := .int (μ7.1 0 118)) shm_0 rfl fl_X12_707 dX12_layMade_70 ?_
      refine lv_aload_n hx hb dX12_layMade_73 rfl (lv_at hl 2 rfl) ?_
      refine g_get cx hw inX12 (ci := 11) rfl 51 (by decide) rfl (v := .ref (ad 30)) shm_0 rfl fl_X12_106 dX12_layMade_74 ?_
      refine lv_iload_n hx hb dX12_layMade_77 rfl (lv_at hl 0 rfl) ?_
      refine g_iald cx hw shm_30 h dX12_layMade_78 (fun h => ?_)
      refine s_callI (As := [.int (μ7.1 30 v6.toNatClampNeg)]) (rest := [.int (μ7.1 0 118), .ref (ad 68)]) cx hw hA (t_X12_isNumber l G (μ7.1 30 v6.toNatClampNeg)) ml_X12_710 st_X12_isNumber in_X12 co_X12_isNumber hd_X12_isNumber rfl ⟨(Nat.le_of_ble_eq_true rfl), (Nat.le_of_ble_eq_true rfl)⟩ hl.1 rfl (Nat.le_of_ble_eq_true rfl) dX12_layMade_79 rfl (fun H locs hw => ?_)
      refine lv_if_eq (tgt := 94) hx hb dX12_layMade_82 (by decide) (fun c8 => ?_) (fun c8 => ?_)
      · rw [if_pos c8] at h
        refine lv_iconst (v := 0) hx hb dX12_layMade_94 (by decide) ?_
        exact t_X12_layMade_b95 l G ad av _ ih v5 v6 (0 : Int32) (μ7.1 0 118) μ7 h p e s m below meth c A ls H locs cx hr hlk hA (lv_sub hl [2, 1, 0] rfl) hw
      · rw [if_neg c8] at h
        refine lv_aload_n hx hb dX12_layMade_85 rfl (lv_at hl 2 rfl) ?_
        refine g_get cx hw inX12 (ci := 11) rfl 52 (by decide) rfl (v := .ref (ad 31)) shm_0 rfl fl_X12_109 dX12_layMade_86 ?_
        refine lv_iload_n hx hb dX12_layMade_89 rfl (lv_at hl 0 rfl) ?_
        refine g_iald cx hw shm_31 h dX12_layMade_90 (fun h => ?_)
        refine lv_goto (tgt := 95) hx hb dX12_layMade_91 (by decide) ?_
        exact t_X12_layMade_b95 l G ad av _ ih v5 v6 (μ7.1 31 v6.toNatClampNeg) (μ7.1 0 118) μ7 h p e s m below meth c A ls H locs cx hr hlk hA (lv_sub hl [2, 1, 0] rfl) hw
theorem p_X12_layMade_b11_ex : ∃ f : Nat → Int32 → Int32 → Mem → Option Mem, (∀ (a2 : Int32) (a3 : Int32) (μ : Mem), f  0 a2 a3 μ = none) ∧ (∀ (n : Nat) (a2 : Int32) (a3 : Int32) (μ : Mem), f  (n + 1) a2 a3 μ = (if a3 < (0 : Int32) then p_X12_layMade_b36  FUEL a2 μ else gd (inb a3 5) (gd (inb a2 200) (bv (sF μ 55 a2.toNatClampNeg (μ.1 45 a3.toNatClampNeg)) (fun μ16 => bv (a2 + 1) (fun v17 => bv (a3 + (-1)) (fun v18 => f n v17 v18 μ16))))))) := ⟨fun n => Nat.rec (fun (a2 : Int32) (a3 : Int32) (μ : Mem) => none) (fun _ ih => fun (a2 : Int32) (a3 : Int32) (μ : Mem) => (if a3 < (0 : Int32) then p_X12_layMade_b36  FUEL a2 μ else gd (inb a3 5) (gd (inb a2 200) (bv (sF μ 55 a2.toNatClampNeg (μ.1 45 a3.toNatClampNeg)) (fun μ16 => bv (a2 + 1) (fun v17 => bv (a3 + (-1)) (fun v18 => ih v17 v18 μ16))))))) n, fun  _ _ _ => rfl, fun  _ _ _ _ => rfl⟩
noncomputable def p_X12_layMade_b11 : Nat → Int32 → Int32 → Mem → Option Mem := Classical.choose p_X12_layMade_b11_ex
theorem p_X12_layMade_b11_z (a2 : Int32) (a3 : Int32) (μ : Mem) : p_X12_layMade_b11  0 a2 a3 μ = none := (Classical.choose_spec p_X12_layMade_b11_ex).1  a2 a3 μ
theorem p_X12_layMade_b11_s (n : Nat) (a2 : Int32) (a3 : Int32) (μ : Mem) : p_X12_layMade_b11  (n + 1) a2 a3 μ = (if a3 < (0 : Int32) then p_X12_layMade_b36  FUEL a2 μ else gd (inb a3 5) (gd (inb a2 200) (bv (sF μ 55 a2.toNatClampNeg (μ.1 45 a3.toNatClampNeg)) (fun μ16 => bv (a2 + 1) (fun v17 => bv (a3 + (-1)) (fun v18 => p_X12_layMade_b11  n v17 v18 μ16)))))) := (Classical.choose_spec p_X12_layMade_b11_ex).2  n a2 a3 μ
set_option maxHeartbeats 4000000 in
set_option maxRecDepth 100000 in
theorem t_X12_layMade_b11 (l : Launch) (G : Gt) (ad : Nat → Nat) (av : List Value) {μz : Mem} : ∀ (n : Nat) (a2 : Int32) (a3 : Int32) (μ : Mem), p_X12_layMade_b11  n a2 a3 μ = some μz → Bk l cX12_layMade 4 RX12 none ({ frames := 1, cells := 0, slots := 0, locals := 20 } : Room) G av (eV 1 G ad μz) (wd 1 G ad μ) 11 [(0, .ref (ad 0)), (2, .int a2), (3, .int a3)] [] := by
  intro n
  induction n with
  | zero => intro a2 a3 μ h; rw [p_X12_layMade_b11_z] at h; cases h
  | succ n ih =>
    intro a2 a3 μ h p e s m below meth c A ls H locs cx hr hlk hA hl hw
    have hx := cx.1
    have hb := cx.2.1
    rw [p_X12_layMade_b11_s] at h
    refine lv_iload_n hx hb dX12_layMade_11 rfl (lv_at hl 2 rfl) ?_
    refine lv_if_lt (tgt := 36) hx hb dX12_layMade_12 (by decide) (fun c3 => ?_) (fun c3 => ?_)
    · rw [if_pos c3] at h
      exact t_X12_layMade_b36 l G ad av  FUEL a2 μ h p e s m below meth c A ls H locs cx hr hlk hA (lv_sub hl [0, 1] rfl) hw
    · rw [if_neg c3] at h
      refine lv_aload_n hx hb dX12_layMade_15 rfl (lv_at hl 0 rfl) ?_
      refine g_get cx hw inX12 (ci := 11) rfl 98 (by decide) rfl (v := .ref (ad 55)) shm_0 rfl fl_X12_181 dX12_layMade_16 ?_
      refine lv_iload_n hx hb dX12_layMade_19 rfl (lv_at hl 1 rfl) ?_
      refine lv_aload_n hx hb dX12_layMade_20 rfl (lv_at hl 0 rfl) ?_
      refine g_get cx hw inX12 (ci := 11) rfl 74 (by decide) rfl (v := .ref (ad 45)) shm_0 rfl fl_X12_151 dX12_layMade_21 ?_
      refine lv_iload_n hx hb dX12_layMade_24 rfl (lv_at hl 2 rfl) ?_
      refine g_iald cx hw shm_45 h dX12_layMade_25 (fun h => ?_)
      refine g_iast cx hw shm_55 h dX12_layMade_26 (fun μ16 H locs h hw => ?_)
      obtain ⟨v17, ev17, h⟩ := bv_ex h
      refine lv_iinc (v := v17) (lv' := [(2, .int v17), (0, .ref (ad 0)), (3, .int a3)]) hx hb dX12_layMade_27 hl (k := 1) rfl (by rw [ev17]; rfl) (by decide) rfl (fun ls hl => ?_)
      obtain ⟨v18, ev18, h⟩ := bv_ex h
      refine lv_iinc (v := v18) (lv' := [(3, .int v18), (2, .int v17), (0, .ref (ad 0))]) hx hb dX12_layMade_30 hl (k := 2) rfl (by rw [ev18]; rfl) (by decide) rfl (fun ls hl => ?_)
      refine lv_goto (tgt := 11) hx hb dX12_layMade_33 (by decide) ?_
      exact ih v17 v18 μ16 h p e s m below meth c A ls H locs cx hr hlk hA (lv_sub hl [2, 1, 0] rfl) hw
theorem p_X12_layMade_ex : ∃ f : Int32 → Mem → Option Mem, ∀ (a1 : Int32) (μ : Mem), f a1 μ = bv (sF μ 0 118 (0 : Int32)) (fun μ1 => bv (a1 - (1 : Int32)) (fun v2 => p_X12_layMade_b11  FUEL (0 : Int32) v2 μ1)) := ⟨fun (a1 : Int32) (μ : Mem) => bv (sF μ 0 118 (0 : Int32)) (fun μ1 => bv (a1 - (1 : Int32)) (fun v2 => p_X12_layMade_b11  FUEL (0 : Int32) v2 μ1)), fun _ _ => rfl⟩
noncomputable def p_X12_layMade : Int32 → Mem → Option Mem := Classical.choose p_X12_layMade_ex
theorem p_X12_layMade_eq (a1 : Int32) (μ : Mem) : p_X12_layMade a1 μ = bv (sF μ 0 118 (0 : Int32)) (fun μ1 => bv (a1 - (1 : Int32)) (fun v2 => p_X12_layMade_b11  FUEL (0 : Int32) v2 μ1)) := Classical.choose_spec p_X12_layMade_ex a1 μ
set_option maxHeartbeats 4000000 in
set_option maxRecDepth 100000 in
theorem t_X12_layMade (l : Launch) (G : Gt) (ad : Nat → Nat) (a1 : Int32) (μ : Mem) {μz : Mem} (h : p_X12_layMade a1 μ = some μz) : Mt l yX12_layMade cX12_layMade 4 none ({ frames := 1, cells := 0, slots := 0, locals := 20 } : Room) G [.ref (ad 0), .int a1] (wd 1 G ad μ) (eV 1 G ad μz) := by
  refine Bk.mt (by decide) rfl (Nat.le_of_ble_eq_true rfl) ?_
  intro p e s m below meth c A ls H locs cx hr hlk hA hl hw
  have hx := cx.1
  have hb := cx.2.1
  have hl : lv_has ls 4 [(0, .ref (ad 0)), (1, .int a1)] := hl
  rw [p_X12_layMade_eq] at h
  refine lv_aload_n hx hb dX12_layMade_0 rfl (lv_at hl 0 rfl) ?_
  refine lv_iconst (v := 0) hx hb dX12_layMade_1 (by decide) ?_
  refine g_put cx hw inX12 (ci := 11) rfl tyX12_ok nmX12 118 (by decide) rfl rfl rfl rfl shm_0 h fl_X12_707 dX12_layMade_2 (fun μ1 H locs h hw => ?_)
  refine lv_iconst (v := 0) hx hb dX12_layMade_5 (by decide) ?_
  refine lv_istore_n (lv' := [(2, .int 0), (0, .ref (ad 0)), (1, .int a1)]) hx hb dX12_layMade_6 rfl hl (by decide) rfl (fun ls hl => ?_)
  refine lv_iload_n hx hb dX12_layMade_7 rfl (lv_at hl 2 rfl) ?_
  refine lv_iconst (v := 1) hx hb dX12_layMade_8 (by decide) ?_
  refine lv_isub hx hb dX12_layMade_9 ?_
  obtain ⟨v2, ev2, h⟩ := bv_ex h
  refine lv_topi (fun y9 z9 => ?_)
  obtain rfl : v2 = y9 := ev2.trans z9.symm
  refine lv_istore_n (lv' := [(3, .int v2), (2, .int 0), (0, .ref (ad 0)), (1, .int a1)]) hx hb dX12_layMade_10 rfl hl (by decide) rfl (fun ls hl => ?_)
  exact t_X12_layMade_b11 l G ad _  FUEL (0 : Int32) v2 μ1 h p e s m below meth c A ls H locs cx hr hlk hA (lv_sub hl [2, 1, 0] rfl) hw

theorem p_X12_isGrown_b12_ex : ∃ f : Int32 → Int32 → Int32 → Int32 → Option Int32, ∀ (a0 : Int32) (a1 : Int32) (a2 : Int32) (a3 : Int32), f a0 a1 a2 a3 = bv ((s_X12_floatOf a0 a1) &&& (2147483647 : Int32)) (fun v2 => bv ((s_X12_floatOf a2 a3) &&& (2147483647 : Int32)) (fun v3 => bs (p_X12_isLess v2 v3) (fun r4 => (if r4 = (0 : Int32) then some (1 : Int32) else some (0 : Int32))))) := ⟨fun (a0 : Int32) (a1 : Int32) (a2 : Int32) (a3 : Int32) => bv ((s_X12_floatOf a0 a1) &&& (2147483647 : Int32)) (fun v2 => bv ((s_X12_floatOf a2 a3) &&& (2147483647 : Int32)) (fun v3 => bs (p_X12_isLess v2 v3) (fun r4 => (if r4 = (0 : Int32) then some (1 : Int32) else some (0 : Int32))))), fun _ _ _ _ => rfl⟩
noncomputable def p_X12_isGrown_b12 : Int32 → Int32 → Int32 → Int32 → Option Int32 := Classical.choose p_X12_isGrown_b12_ex
theorem p_X12_isGrown_b12_eq (a0 : Int32) (a1 : Int32) (a2 : Int32) (a3 : Int32) : p_X12_isGrown_b12 a0 a1 a2 a3 = bv ((s_X12_floatOf a0 a1) &&& (2147483647 : Int32)) (fun v2 => bv ((s_X12_floatOf a2 a3) &&& (2147483647 : Int32)) (fun v3 => bs (p_X12_isLess v2 v3) (fun r4 => (if r4 = (0 : Int32) then some (1 : Int32) else some (0 : Int32))))) := Classical.choose_spec p_X12_isGrown_b12_ex a0 a1 a2 a3
set_option maxHeartbeats 4000000 in
set_option maxRecDepth 100000 in
theorem t_X12_isGrown_b12 (l : Launch) (G : Gt) (av : List Value) {r : Int32} (a0 : Int32) (a1 : Int32) (a2 : Int32) (a3 : Int32) (h : p_X12_isGrown_b12  a0 a1 a2 a3 = some r) : Bk l cX12_isGrown 6 RX12 (some .boolean) ({ frames := 4, cells := 0, slots := 0, locals := 85 } : Room) G av (sI G r) [] 12 [(0, .int a0), (1, .int a1), (2, .int a2), (3, .int a3)] [] := by
  intro p e s m below meth c A ls H locs cx hr hlk hA hl hw
  have hx := cx.1
  have hb := cx.2.1
  rw [p_X12_isGrown_b12_eq] at h
  refine lv_iload_n hx hb dX12_isGrown_12 rfl (lv_at hl 0 rfl) ?_
  refine lv_iload_n hx hb dX12_isGrown_13 rfl (lv_at hl 1 rfl) ?_
  refine s_callI (As := [.int a0, .int a1]) (rest := []) cx hw hA (t_X12_floatOf l G a0 a1) ml_X12_328 st_X12_floatOf in_X12 co_X12_floatOf hd_X12_floatOf rfl ⟨(Nat.le_of_ble_eq_true rfl), (Nat.le_of_ble_eq_true rfl)⟩ hl.1 rfl (Nat.le_of_ble_eq_true rfl) dX12_isGrown_14 rfl (fun H locs hw => ?_)
  refine lv_ldcw hx hb cx.2.2.2.1 (cx.2.2.2.2.1 _ cs_X12_311) dX12_isGrown_17 ?_
  refine lv_iand hx hb dX12_isGrown_20 ?_
  obtain ⟨v2, ev2, h⟩ := bv_ex h
  refine lv_topi (fun y9 z9 => ?_)
  obtain rfl : v2 = y9 := ev2.trans z9.symm
  refine lv_istore (lv' := [(4, .int v2), (0, .int a0), (1, .int a1), (2, .int a2), (3, .int a3)]) hx hb dX12_isGrown_21 hl (by decide) rfl (fun ls hl => ?_)
  refine lv_iload_n hx hb dX12_isGrown_23 rfl (lv_at hl 3 rfl) ?_
  refine lv_iload_n hx hb dX12_isGrown_24 rfl (lv_at hl 4 rfl) ?_
  refine s_callI (As := [.int a2, .int a3]) (rest := []) cx hw hA (t_X12_floatOf l G a2 a3) ml_X12_328 st_X12_floatOf in_X12 co_X12_floatOf hd_X12_floatOf rfl ⟨(Nat.le_of_ble_eq_true rfl), (Nat.le_of_ble_eq_true rfl)⟩ hl.1 rfl (Nat.le_of_ble_eq_true rfl) dX12_isGrown_25 rfl (fun H locs hw => ?_)
  refine lv_ldcw hx hb cx.2.2.2.1 (cx.2.2.2.2.1 _ cs_X12_311) dX12_isGrown_28 ?_
  refine lv_iand hx hb dX12_isGrown_31 ?_
  obtain ⟨v3, ev3, h⟩ := bv_ex h
  refine lv_topi (fun y9 z9 => ?_)
  obtain rfl : v3 = y9 := ev3.trans z9.symm
  refine lv_istore (lv' := [(5, .int v3), (4, .int v2), (0, .int a0), (1, .int a1), (2, .int a2), (3, .int a3)]) hx hb dX12_isGrown_32 hl (by decide) rfl (fun ls hl => ?_)
  refine lv_iload hx hb dX12_isGrown_34 (lv_at hl 1 rfl) ?_
  refine lv_iload hx hb dX12_isGrown_36 (lv_at hl 0 rfl) ?_
  obtain ⟨r4, gr4, h⟩ := bs_some h
  refine s_callI (As := [.int v2, .int v3]) (rest := []) cx hw hA (t_X12_isLess l G v2 v3 gr4) ml_X12_331 st_X12_isLess in_X12 co_X12_isLess hd_X12_isLess rfl ⟨(Nat.le_of_ble_eq_true rfl), (Nat.le_of_ble_eq_true rfl)⟩ hl.1 rfl (Nat.le_of_ble_eq_true rfl) dX12_isGrown_38 rfl (fun H locs hw => ?_)
  refine lv_if_ne (tgt := 48) hx hb dX12_isGrown_41 (by decide) (fun c5 => ?_) (fun c5 => ?_)
  · rw [if_neg c5] at h
    refine lv_iconst (v := 0) hx hb dX12_isGrown_48 (by decide) ?_
    exact s_zret cx hr hlk rfl hw (Option.some.inj h) dX12_isGrown_49
  · rw [if_pos c5] at h
    refine lv_iconst (v := 1) hx hb dX12_isGrown_44 (by decide) ?_
    refine lv_goto (tgt := 49) hx hb dX12_isGrown_45 (by decide) ?_
    exact s_zret cx hr hlk rfl hw (Option.some.inj h) dX12_isGrown_49
theorem p_X12_isGrown_ex : ∃ f : Int32 → Int32 → Int32 → Int32 → Option Int32, ∀ (a0 : Int32) (a1 : Int32) (a2 : Int32) (a3 : Int32), f a0 a1 a2 a3 = (if a0 = a2 then (if a1 = a3 then some (0 : Int32) else p_X12_isGrown_b12  a0 a1 a2 a3) else p_X12_isGrown_b12  a0 a1 a2 a3) := ⟨fun (a0 : Int32) (a1 : Int32) (a2 : Int32) (a3 : Int32) => (if a0 = a2 then (if a1 = a3 then some (0 : Int32) else p_X12_isGrown_b12  a0 a1 a2 a3) else p_X12_isGrown_b12  a0 a1 a2 a3), fun _ _ _ _ => rfl⟩
noncomputable def p_X12_isGrown : Int32 → Int32 → Int32 → Int32 → Option Int32 := Classical.choose p_X12_isGrown_ex
theorem p_X12_isGrown_eq (a0 : Int32) (a1 : Int32) (a2 : Int32) (a3 : Int32) : p_X12_isGrown a0 a1 a2 a3 = (if a0 = a2 then (if a1 = a3 then some (0 : Int32) else p_X12_isGrown_b12  a0 a1 a2 a3) else p_X12_isGrown_b12  a0 a1 a2 a3) := Classical.choose_spec p_X12_isGrown_ex a0 a1 a2 a3
set_option maxHeartbeats 4000000 in
set_option maxRecDepth 100000 in
theorem t_X12_isGrown (l : Launch) (G : Gt) (a0 : Int32) (a1 : Int32) (a2 : Int32) (a3 : Int32) {r : Int32} (h : p_X12_isGrown a0 a1 a2 a3 = some r) : Mt l yX12_isGrown cX12_isGrown 6 (some .boolean) ({ frames := 4, cells := 0, slots := 0, locals := 85 } : Room) G [.int a0, .int a1, .int a2, .int a3] [] (sI G r) := by
  refine Bk.mt (by decide) rfl (Nat.le_of_ble_eq_true rfl) ?_
  intro p e s m below meth c A ls H locs cx hr hlk hA hl hw
  have hx := cx.1
  have hb := cx.2.1
  have hl : lv_has ls 6 [(0, .int a0), (1, .int a1), (2, .int a2), (3, .int a3)] := hl
  rw [p_X12_isGrown_eq] at h
  refine lv_iload_n hx hb dX12_isGrown_0 rfl (lv_at hl 0 rfl) ?_
  refine lv_iload_n hx hb dX12_isGrown_1 rfl (lv_at hl 2 rfl) ?_
  refine lv_icmp_ne (tgt := 12) hx hb dX12_isGrown_2 (by decide) (fun c1 => ?_) (fun c1 => ?_)
  · rw [if_neg c1] at h
    exact t_X12_isGrown_b12 l G _  a0 a1 a2 a3 h p e s m below meth c A ls H locs cx hr hlk hA (lv_sub hl [0, 1, 2, 3] rfl) hw
  · rw [if_pos c1] at h
    refine lv_iload_n hx hb dX12_isGrown_5 rfl (lv_at hl 1 rfl) ?_
    refine lv_iload_n hx hb dX12_isGrown_6 rfl (lv_at hl 3 rfl) ?_
    refine lv_icmp_ne (tgt := 12) hx hb dX12_isGrown_7 (by decide) (fun c6 => ?_) (fun c6 => ?_)
    · rw [if_neg c6] at h
      exact t_X12_isGrown_b12 l G _  a0 a1 a2 a3 h p e s m below meth c A ls H locs cx hr hlk hA (lv_sub hl [0, 1, 2, 3] rfl) hw
    · rw [if_pos c6] at h
      refine lv_iconst (v := 0) hx hb dX12_isGrown_10 (by decide) ?_
      exact s_zret cx hr hlk rfl hw (Option.some.inj h) dX12_isGrown_11
