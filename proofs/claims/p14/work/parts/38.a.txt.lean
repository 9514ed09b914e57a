/-! THE TEXT OF A VARIANT, AS FUNCTIONS (the second form of contract) -/
theorem p_X9_addChoice_ex : ∃ f : (Int32 → Int32 → Mem → Option Mem) → Int32 → Int32 → Mem → Option Mem, ∀ (RE : Int32 → Int32 → Mem → Option Mem) (a2 : Int32) (a3 : Int32) (μ : Mem), f  RE a2 a3 μ = bw (p_X9_add (63 : Int32) μ) (fun μ1 => bd (p_X5_operand a2 (0 : Int32) μ1) (fun r4 μ3 => bw (p_X9_addSymbol r4 μ3) (fun μ5 => bw (p_X9_add (123 : Int32) μ5) (fun μ7 => bd (p_X5_cell a2 (3 : Int32) μ7) (fun r10 μ9 => bw (RE r10 (a3 + (1 : Int32)) μ9) (fun μ11 => bw (p_X9_add (125 : Int32) μ11) (fun μ13 => bw (p_X9_add (123 : Int32) μ13) (fun μ15 => bd (p_X5_cell a2 (4 : Int32) μ15) (fun r18 μ17 => bw (RE r18 (a3 + (1 : Int32)) μ17) (fun μ19 => bw (p_X9_add (125 : Int32) μ19) (fun μ21 => some μ21))))))))))) := ⟨fun (RE : Int32 → Int32 → Mem → Option Mem) (a2 : Int32) (a3 : Int32) (μ : Mem) => bw (p_X9_add (63 : Int32) μ) (fun μ1 => bd (p_X5_operand a2 (0 : Int32) μ1) (fun r4 μ3 => bw (p_X9_addSymbol r4 μ3) (fun μ5 => bw (p_X9_add (123 : Int32) μ5) (fun μ7 => bd (p_X5_cell a2 (3 : Int32) μ7) (fun r10 μ9 => bw (RE r10 (a3 + (1 : Int32)) μ9) (fun μ11 => bw (p_X9_add (125 : Int32) μ11) (fun μ13 => bw (p_X9_add (123 : Int32) μ13) (fun μ15 => bd (p_X5_cell a2 (4 : Int32) μ15) (fun r18 μ17 => bw (RE r18 (a3 + (1 : Int32)) μ17) (fun μ19 => bw (p_X9_add (125 : Int32) μ19) (fun μ21 => some μ21))))))))))), fun _ _ _ _ => rfl⟩
noncomputable def p_X9_addChoice : (Int32 → Int32 → Mem → Option Mem) → Int32 → Int32 → Mem → Option Mem := Classical.choose p_X9_addChoice_ex
theorem p_X9_addChoice_eq (RE : Int32 → Int32 → Mem → Option Mem) (a2 : Int32) (a3 : Int32) (μ : Mem) : p_X9_addChoice  RE a2 a3 μ = bw (p_X9_add (63 : Int32) μ) (fun μ1 => bd (p_X5_operand a2 (0 : Int32) μ1) (fun r4 μ3 => bw (p_X9_addSymbol r4 μ3) (fun μ5 => bw (p_X9_add (123 : Int32) μ5) (fun μ7 => bd (p_X5_cell a2 (3 : Int32) μ7) (fun r10 μ9 => bw (RE r10 (a3 + (1 : Int32)) μ9) (fun μ11 => bw (p_X9_add (125 : Int32) μ11) (fun μ13 => bw (p_X9_add (123 : Int32) μ13) (fun μ15 => bd (p_X5_cell a2 (4 : Int32) μ15) (fun r18 μ17 => bw (RE r18 (a3 + (1 : Int32)) μ17) (fun μ19 => bw (p_X9_add (125 : Int32) μ19) (fun μ21 => some μ21))))))))))) := Classical.choose_spec p_X9_addChoice_ex  RE a2 a3 μ
set_option maxHeartbeats 4000000 in
set_option maxRecDepth 100000 in
theorem t_X9_addChoice (sq sv : Nat) (l : Launch) (G : Gt) (ad : Nat → Nat) {fE lE : Nat} (RE : Int32 → Int32 → Mem → Option Mem) (hRE : ∀ (z2 : Int32) (z3 : Int32) (μ1 : Mem) (μ2 : Mem), RE z2 z3 μ1 = some μ2 → M2 sq sv l yX9_addBlock cX9_addBlock 6 none ({ frames := fE, cells := 0, slots := 0, locals := lE } : Room) G [.ref (ad 159), .ref (ad 39), .int z2, .int z3] (wd 0 G ad μ1) (eV 0 G ad μ2)) (a2 : Int32) (a3 : Int32) (μ : Mem) {μz : Mem} (h : p_X9_addChoice RE a2 a3 μ = some μz) : M2 sq sv l yX9_addChoice cX9_addChoice 4 none ({ frames := fE + 3, cells := 0, slots := 0, locals := lE + 70 } : Room) G [.ref (ad 159), .ref (ad 39), .int a2, .int a3] (wd 0 G ad μ) (eV 0 G ad μz) := by
  refine B2.mt (by decide) rfl (Nat.le_of_ble_eq_true rfl) ?_
  intro p e s m below meth c A ls H locs cx hr hlk hA hl hw hs
  have hx := cx.1
  have hb := cx.2.1
  have hl : lv_has ls 4 [(0, .ref (ad 159)), (1, .ref (ad 39)), (2, .int a2), (3, .int a3)] := hl
  rw [p_X9_addChoice_eq] at h
  refine lv_aload_n hx hb dX9_addChoice_0 rfl (lv_at hl 0 rfl) ?_
  refine lv_bipush (v := 63) hx hb dX9_addChoice_1 (by decide) ?_
  obtain ⟨μ1, gμ1, h⟩ := bw_some h
  refine g_callVV (As := [.int 63]) (rest := []) cx hw hA (t_X9_add l G ad (63 : Int32) μ gμ1) shx_159 rfl ml_X9_34 im_X9_add se_X9_add in_X9 co_X9_add rfl hd_X9_add rfl ⟨(by dsimp only; omega), (by dsimp only; omega)⟩ hl.1 rfl (Nat.le_of_ble_eq_true rfl) dX9_addChoice_3 ⟨rfl, rfl⟩ (fun H locs hw => ?_)
  refine lv_aload_n hx hb dX9_addChoice_6 rfl (lv_at hl 0 rfl) ?_
  refine lv_aload_n hx hb dX9_addChoice_7 rfl (lv_at hl 1 rfl) ?_
  refine lv_iload_n hx hb dX9_addChoice_8 rfl (lv_at hl 2 rfl) ?_
  refine lv_iconst (v := 0) hx hb dX9_addChoice_9 (by decide) ?_
  obtain ⟨r4, μ3, gr4, h⟩ := bd_some h
  refine g_callVL (As := [.int a2, .int 0]) (rest := [.ref (ad 159)]) cx hw hA (t_X5_operand l G ad a2 (0 : Int32) μ1 gr4) shx_39 rfl ml_X9_106 im_X5_operand se_X5_operand in_X5 co_X5_operand rfl hd_X5_operand rfl ⟨(by dsimp only; omega), (by dsimp only; omega)⟩ hl.1 rfl (Nat.le_of_ble_eq_true rfl) dX9_addChoice_10 ⟨rfl, rfl⟩ (fun H locs hw => ?_)
  obtain ⟨μ5, gμ5, h⟩ := bw_some h
  refine g_callVV (As := [.long r4]) (rest := []) cx hw hA (t_X9_addSymbol l G ad r4 μ3 gμ5) shx_159 rfl ml_X9_77 im_X9_addSymbol se_X9_addSymbol in_X9 co_X9_addSymbol rfl hd_X9_addSymbol rfl ⟨(by dsimp only; omega), (by dsimp only; omega)⟩ hl.1 rfl (Nat.le_of_ble_eq_true rfl) dX9_addChoice_13 ⟨rfl, rfl⟩ (fun H locs hw => ?_)
  refine lv_aload_n hx hb dX9_addChoice_16 rfl (lv_at hl 0 rfl) ?_
  refine lv_bipush (v := 123) hx hb dX9_addChoice_17 (by decide) ?_
  obtain ⟨μ7, gμ7, h⟩ := bw_some h
  refine g_callVV (As := [.int 123]) (rest := []) cx hw hA (t_X9_add l G ad (123 : Int32) μ5 gμ7) shx_159 rfl ml_X9_34 im_X9_add se_X9_add in_X9 co_X9_add rfl hd_X9_add rfl ⟨(by dsimp only; omega), (by dsimp only; omega)⟩ hl.1 rfl (Nat.le_of_ble_eq_true rfl) dX9_addChoice_19 ⟨rfl, rfl⟩ (fun H locs hw => ?_)
  refine lv_aload_n hx hb dX9_addChoice_22 rfl (lv_at hl 0 rfl) ?_
  refine lv_aload_n hx hb dX9_addChoice_23 rfl (lv_at hl 1 rfl) ?_
  refine lv_aload_n hx hb dX9_addChoice_24 rfl (lv_at hl 1 rfl) ?_
  refine lv_iload_n hx hb dX9_addChoice_25 rfl (lv_at hl 2 rfl) ?_
  refine lv_iconst (v := 3) hx hb dX9_addChoice_26 (by decide) ?_
  obtain ⟨r10, μ9, gr10, h⟩ := bd_some h
  refine g_callVI (As := [.int a2, .int 3]) (rest := [.ref (ad 39), .ref (ad 159)]) cx hw hA (t_X5_cell l G ad a2 (3 : Int32) μ7 gr10) shx_39 rfl ml_X9_88 im_X5_cell se_X5_cell in_X5 co_X5_cell rfl hd_X5_cell rfl ⟨(by dsimp only; omega), (by dsimp only; omega)⟩ hl.1 rfl (Nat.le_of_ble_eq_true rfl) dX9_addChoice_27 ⟨rfl, rfl⟩ (fun H locs hw => ?_)
  refine lv_iload_n hx hb dX9_addChoice_30 rfl (lv_at hl 3 rfl) ?_
  refine lv_iconst (v := 1) hx hb dX9_addChoice_31 (by decide) ?_
  refine lv_iadd hx hb dX9_addChoice_32 ?_
  obtain ⟨μ11, gμ11, h⟩ := bw_some h
  refine h_callVV (As := [.ref (ad 39), .int r10, .int (a3 + (1 : Int32))]) (rest := []) cx hw hA hs (hRE r10 (a3 + (1 : Int32)) μ9 _ gμ11) shx_159 rfl ml_X9_42 im_X9_addBlock se_X9_addBlock in_X9 co_X9_addBlock rfl hd_X9_addBlock rfl ⟨(by dsimp only; omega), (by dsimp only; omega)⟩ hl.1 rfl (Nat.le_of_ble_eq_true rfl) dX9_addChoice_33 ⟨rfl, rfl⟩ (fun H locs hw => ?_)
  refine lv_aload_n hx hb dX9_addChoice_36 rfl (lv_at hl 0 rfl) ?_
  refine lv_bipush (v := 125) hx hb dX9_addChoice_37 (by decide) ?_
  obtain ⟨μ13, gμ13, h⟩ := bw_some h
  refine g_callVV (As := [.int 125]) (rest := []) cx hw hA (t_X9_add l G ad (125 : Int32) μ11 gμ13) shx_159 rfl ml_X9_34 im_X9_add se_X9_add in_X9 co_X9_add rfl hd_X9_add rfl ⟨(by dsimp only; omega), (by dsimp only; omega)⟩ hl.1 rfl (Nat.le_of_ble_eq_true rfl) dX9_addChoice_39 ⟨rfl, rfl⟩ (fun H locs hw => ?_)
  refine lv_aload_n hx hb dX9_addChoice_42 rfl (lv_at hl 0 rfl) ?_
  refine lv_bipush (v := 123) hx hb dX9_addChoice_43 (by decide) ?_
  obtain ⟨μ15, gμ15, h⟩ := bw_some h
  refine g_callVV (As := [.int 123]) (rest := []) cx hw hA (t_X9_add l G ad (123 : Int32) μ13 gμ15) shx_159 rfl ml_X9_34 im_X9_add se_X9_add in_X9 co_X9_add rfl hd_X9_add rfl ⟨(by dsimp only; omega), (by dsimp only; omega)⟩ hl.1 rfl (Nat.le_of_ble_eq_true rfl) dX9_addChoice_45 ⟨rfl, rfl⟩ (fun H locs hw => ?_)
  refine lv_aload_n hx hb dX9_addChoice_48 rfl (lv_at hl 0 rfl) ?_
  refine lv_aload_n hx hb dX9_addChoice_49 rfl (lv_at hl 1 rfl) ?_
  refine lv_aload_n hx hb dX9_addChoice_50 rfl (lv_at hl 1 rfl) ?_
  refine lv_iload_n hx hb dX9_addChoice_51 rfl (lv_at hl 2 rfl) ?_
  refine lv_iconst (v := 4) hx hb dX9_addChoice_52 (by decide) ?_
  obtain ⟨r18, μ17, gr18, h⟩ := bd_some h
  refine g_callVI (As := [.int a2, .int 4]) (rest := [.ref (ad 39), .ref (ad 159)]) cx hw hA (t_X5_cell l G ad a2 (4 : Int32) μ15 gr18) shx_39 rfl ml_X9_88 im_X5_cell se_X5_cell in_X5 co_X5_cell rfl hd_X5_cell rfl ⟨(by dsimp only; omega), (by dsimp only; omega)⟩ hl.1 rfl (Nat.le_of_ble_eq_true rfl) dX9_addChoice_53 ⟨rfl, rfl⟩ (fun H locs hw => ?_)
  refine lv_iload_n hx hb dX9_addChoice_56 rfl (lv_at hl 3 rfl) ?_
  refine lv_iconst (v := 1) hx hb dX9_addChoice_57 (by decide) ?_
  refine lv_iadd hx hb dX9_addChoice_58 ?_
  obtain ⟨μ19, gμ19, h⟩ := bw_some h
  refine h_callVV (As := [.ref (ad 39), .int r18, .int (a3 + (1 : Int32))]) (rest := []) cx hw hA hs (hRE r18 (a3 + (1 : Int32)) μ17 _ gμ19) shx_159 rfl ml_X9_42 im_X9_addBlock se_X9_addBlock in_X9 co_X9_addBlock rfl hd_X9_addBlock rfl ⟨(by dsimp only; omega), (by dsimp only; omega)⟩ hl.1 rfl (Nat.le_of_ble_eq_true rfl) dX9_addChoice_59 ⟨rfl, rfl⟩ (fun H locs hw => ?_)
  refine lv_aload_n hx hb dX9_addChoice_62 rfl (lv_at hl 0 rfl) ?_
  refine lv_bipush (v := 125) hx hb dX9_addChoice_63 (by decide) ?_
  obtain ⟨μ21, gμ21, h⟩ := bw_some h
  refine g_callVV (As := [.int 125]) (rest := []) cx hw hA (t_X9_add l G ad (125 : Int32) μ19 gμ21) shx_159 rfl ml_X9_34 im_X9_add se_X9_add in_X9 co_X9_add rfl hd_X9_add rfl ⟨(by dsimp only; omega), (by dsimp only; omega)⟩ hl.1 rfl (Nat.le_of_ble_eq_true rfl) dX9_addChoice_65 ⟨rfl, rfl⟩ (fun H locs hw => ?_)
  exact g_vret cx hr hlk hw h dX9_addChoice_68

theorem p_X9_addInstruction_b242_ex : ∃ f : (Int32 → Int32 → Mem → Option Mem) → Int32 → Int32 → Mem → Option Mem, ∀ (RE : Int32 → Int32 → Mem → Option Mem) (a2 : Int32) (k0 : Int32) (μ : Mem), f RE a2 k0 μ = bw (p_X9_add k0 μ) (fun μ12 => bd (p_X5_operand a2 (0 : Int32) μ12) (fun r15 μ14 => bw (p_X9_addSymbol r15 μ14) (fun μ16 => some μ16))) := ⟨fun (RE : Int32 → Int32 → Mem → Option Mem) (a2 : Int32) (k0 : Int32) (μ : Mem) => bw (p_X9_add k0 μ) (fun μ12 => bd (p_X5_operand a2 (0 : Int32) μ12) (fun r15 μ14 => bw (p_X9_addSymbol r15 μ14) (fun μ16 => some μ16))), fun _ _ _ _ => rfl⟩
noncomputable def p_X9_addInstruction_b242 : (Int32 → Int32 → Mem → Option Mem) → Int32 → Int32 → Mem → Option Mem := Classical.choose p_X9_addInstruction_b242_ex
theorem p_X9_addInstruction_b242_eq (RE : Int32 → Int32 → Mem → Option Mem) (a2 : Int32) (k0 : Int32) (μ : Mem) : p_X9_addInstruction_b242 RE a2 k0 μ = bw (p_X9_add k0 μ) (fun μ12 => bd (p_X5_operand a2 (0 : Int32) μ12) (fun r15 μ14 => bw (p_X9_addSymbol r15 μ14) (fun μ16 => some μ16))) := Classical.choose_spec p_X9_addInstruction_b242_ex RE a2 k0 μ
set_option maxHeartbeats 4000000 in
set_option maxRecDepth 100000 in
theorem t_X9_addInstruction_b242 (sq sv : Nat) (l : Launch) (G : Gt) (ad : Nat → Nat) (av : List Value) {μz : Mem} {fE lE : Nat} (RE : Int32 → Int32 → Mem → Option Mem) (hRE : ∀ (z2 : Int32) (z3 : Int32) (μ1 : Mem) (μ2 : Mem), RE z2 z3 μ1 = some μ2 → M2 sq sv l yX9_addBlock cX9_addBlock 6 none ({ frames := fE, cells := 0, slots := 0, locals := lE } : Room) G [.ref (ad 159), .ref (ad 39), .int z2, .int z3] (wd 0 G ad μ1) (eV 0 G ad μ2)) (a2 : Int32) (k0 : Int32) (μ : Mem) (h : p_X9_addInstruction_b242 RE a2 k0 μ = some μz) : B2 sq sv l cX9_addInstruction 5 RX9 none ({ frames := fE + 4, cells := 0, slots := 0, locals := lE + 95 } : Room) G av (eV 0 G ad μz) (wd 0 G ad μ) 242 [(0, .ref (ad 159)), (1, .ref (ad 39)), (2, .int a2)] [.int k0, .ref (ad 159)] := by
  intro p e s m below meth c A ls H locs cx hr hlk hA hl hw hs
  have hx := cx.1
  have hb := cx.2.1
  rw [p_X9_addInstruction_b242_eq] at h
  obtain ⟨μ12, gμ12, h⟩ := bw_some h
  refine g_callVV (As := [.int k0]) (rest := []) cx hw hA (t_X9_add l G ad k0 μ gμ12) shx_159 rfl ml_X9_34 im_X9_add se_X9_add in_X9 co_X9_add rfl hd_X9_add rfl ⟨(by dsimp only; omega), (by dsimp only; omega)⟩ hl.1 rfl (Nat.le_of_ble_eq_true rfl) dX9_addInstruction_242 ⟨rfl, rfl⟩ (fun H locs hw => ?_)
  refine lv_aload_n hx hb dX9_addInstruction_245 rfl (lv_at hl 0 rfl) ?_
  refine lv_aload_n hx hb dX9_addInstruction_246 rfl (lv_at hl 1 rfl) ?_
  refine lv_iload_n hx hb dX9_addInstruction_247 rfl (lv_at hl 2 rfl) ?_
  refine lv_iconst (v := 0) hx hb dX9_addInstruction_248 (by decide) ?_
  obtain ⟨r15, μ14, gr15, h⟩ := bd_some h
  refine g_callVL (As := [.int a2, .int 0]) (rest := [.ref (ad 159)]) cx hw hA (t_X5_operand l G ad a2 (0 : Int32) μ12 gr15) shx_39 rfl ml_X9_106 im_X5_operand se_X5_operand in_X5 co_X5_operand rfl hd_X5_operand rfl ⟨(by dsimp only; omega), (by dsimp only; omega)⟩ hl.1 rfl (Nat.le_of_ble_eq_true rfl) dX9_addInstruction_249 ⟨rfl, rfl⟩ (fun H locs hw => ?_)
  obtain ⟨μ16, gμ16, h⟩ := bw_some h
  refine g_callVV (As := [.long r15]) (rest := []) cx hw hA (t_X9_addSymbol l G ad r15 μ14 gμ16) shx_159 rfl ml_X9_77 im_X9_addSymbol se_X9_addSymbol in_X9 co_X9_addSymbol rfl hd_X9_addSymbol rfl ⟨(by dsimp only; omega), (by dsimp only; omega)⟩ hl.1 rfl (Nat.le_of_ble_eq_true rfl) dX9_addInstruction_252 ⟨rfl, rfl⟩ (fun H locs hw => ?_)
  exact g_vret cx hr hlk hw h dX9_addInstruction_255
theorem p_X9_addInstruction_b240_ex : ∃ f : (Int32 → Int32 → Mem → Option Mem) → Int32 → Mem → Option Mem, ∀ (RE : Int32 → Int32 → Mem → Option Mem) (a2 : Int32) (μ : Mem), f RE a2 μ = p_X9_addInstruction_b242 RE a2 (32 : Int32) μ := ⟨fun (RE : Int32 → Int32 → Mem → Option Mem) (a2 : Int32) (μ : Mem) => p_X9_addInstruction_b242 RE a2 (32 : Int32) μ, fun _ _ _ => rfl⟩
noncomputable def p_X9_addInstruction_b240 : (Int32 → Int32 → Mem → Option Mem) → Int32 → Mem → Option Mem := Classical.choose p_X9_addInstruction_b240_ex
theorem p_X9_addInstruction_b240_eq (RE : Int32 → Int32 → Mem → Option Mem) (a2 : Int32) (μ : Mem) : p_X9_addInstruction_b240 RE a2 μ = p_X9_addInstruction_b242 RE a2 (32 : Int32) μ := Classical.choose_spec p_X9_addInstruction_b240_ex RE a2 μ
set_option maxHeartbeats 4000000 in
set_option maxRecDepth 100000 in
theorem t_X9_addInstruction_b240 (sq sv : Nat) (l : Launch) (G : Gt) (ad : Nat → Nat) (av : List Value) {μz : Mem} {fE lE : Nat} (RE : Int32 → Int32 → Mem → Option Mem) (hRE : ∀ (z2 : Int32) (z3 : Int32) (μ1 : Mem) (μ2 : Mem), RE z2 z3 μ1 = some μ2 → M2 sq sv l yX9_addBlock cX9_addBlock 6 none ({ frames := fE, cells := 0, slots := 0, locals := lE } : Room) G [.ref (ad 159), .ref (ad 39), .int z2, .int z3] (wd 0 G ad μ1) (eV 0 G ad μ2)) (a2 : Int32) (μ : Mem) (h : p_X9_addInstruction_b240 RE a2 μ = some μz) : B2 sq sv l cX9_addInstruction 5 RX9 none ({ frames := fE + 4, cells := 0, slots := 0, locals := lE + 95 } : Room) G av (eV 0 G ad μz) (wd 0 G ad μ) 240 [(0, .ref (ad 159)), (1, .ref (ad 39)), (2, .int a2)] [.ref (ad 159)] := by
  intro p e s m below meth c A ls H locs cx hr hlk hA hl hw hs
  have hx := cx.1
  have hb := cx.2.1
  rw [p_X9_addInstruction_b240_eq] at h
  refine lv_bipush (v := 32) hx hb dX9_addInstruction_240 (by decide) ?_
  exact t_X9_addInstruction_b242 sq sv l G ad av RE hRE a2 (32 : Int32) μ h p e s m below meth c A ls H locs cx hr hlk hA (lv_sub hl [0, 1, 2] rfl) hw hs
theorem p_X9_addInstruction_b35_ex : ∃ f : (Int32 → Int32 → Mem → Option Mem) → Int32 → Int32 → Int32 → Mem → Option Mem, ∀ (RE : Int32 → Int32 → Mem → Option Mem) (a2 : Int32) (a3 : Int32) (a4 : Int32) (μ : Mem), f RE a2 a3 a4 μ = (if a4 = (0 : Int32) then bd (p_X5_cell a2 (2 : Int32) μ) (fun r7 μ6 => bw (p_X9_addTwo a2 (40 : Int32) r7 (41 : Int32) μ6) (fun μ8 => some μ8)) else (if a4 = (1 : Int32) then (if a4 < (0 : Int32) then p_X9_addInstruction_b240 RE a2 μ else (if (8 : Int32) ≤ a4 then p_X9_addInstruction_b240 RE a2 μ else gd (inb a4 8) (p_X9_addInstruction_b242 RE a2 (sgc a4) μ))) else (if a4 = (2 : Int32) then (if a4 < (0 : Int32) then p_X9_addInstruction_b240 RE a2 μ else (if (8 : Int32) ≤ a4 then p_X9_addInstruction_b240 RE a2 μ else gd (inb a4 8) (p_X9_addInstruction_b242 RE a2 (sgc a4) μ))) else (if a4 = (3 : Int32) then (if a4 < (0 : Int32) then p_X9_addInstruction_b240 RE a2 μ else (if (8 : Int32) ≤ a4 then p_X9_addInstruction_b240 RE a2 μ else gd (inb a4 8) (p_X9_addInstruction_b242 RE a2 (sgc a4) μ))) else (if a4 = (4 : Int32) then (if a4 < (0 : Int32) then p_X9_addInstruction_b240 RE a2 μ else (if (8 : Int32) ≤ a4 then p_X9_addInstruction_b240 RE a2 μ else gd (inb a4 8) (p_X9_addInstruction_b242 RE a2 (sgc a4) μ))) else (if a4 = (5 : Int32) then (if a4 < (0 : Int32) then p_X9_addInstruction_b240 RE a2 μ else (if (8 : Int32) ≤ a4 then p_X9_addInstruction_b240 RE a2 μ else gd (inb a4 8) (p_X9_addInstruction_b242 RE a2 (sgc a4) μ))) else (if a4 = (6 : Int32) then bw (p_X9_addChoice RE a2 a3 μ) (fun μ37 => some μ37) else (if a4 = (7 : Int32) then (if a4 < (0 : Int32) then p_X9_addInstruction_b240 RE a2 μ else (if (8 : Int32) ≤ a4 then p_X9_addInstruction_b240 RE a2 μ else gd (inb a4 8) (p_X9_addInstruction_b242 RE a2 (sgc a4) μ))) else (if a4 = (8 : Int32) then bw (p_X9_add (38 : Int32) μ) (fun μ44 => bd (p_X5_cell a2 (2 : Int32) μ44) (fun r47 μ46 => bw (p_X9_addInt r47 μ46) (fun μ48 => bd (p_X5_operand a2 (0 : Int32) μ48) (fun r51 μ50 => bw (p_X9_addSymbol r51 μ50) (fun μ52 => some μ52))))) else (if a4 = (9 : Int32) then bw (p_X9_add (95 : Int32) μ) (fun μ55 => bd (p_X5_cell a2 (2 : Int32) μ55) (fun r58 μ57 => bw (p_X9_addInt r58 μ57) (fun μ59 => some μ59))) else (if a4 = (10 : Int32) then bw (p_X9_addTwo a2 (91 : Int32) (44 : Int32) (93 : Int32) μ) (fun μ62 => some μ62) else (if a4 = (11 : Int32) then bw (p_X9_addCall a2 μ) (fun μ65 => some μ65) else (if a4 = (12 : Int32) then bw (p_X9_add (45 : Int32) μ) (fun μ68 => some μ68) else (if a4 < (0 : Int32) then p_X9_addInstruction_b240 RE a2 μ else (if (8 : Int32) ≤ a4 then p_X9_addInstruction_b240 RE a2 μ else gd (inb a4 8) (p_X9_addInstruction_b242 RE a2 (sgc a4) μ)))))))))))))))) := ⟨fun (RE : Int32 → Int32 → Mem → Option Mem) (a2 : Int32) (a3 : Int32) (a4 : Int32) (μ : Mem) => (if a4 = (0 : Int32) then bd (p_X5_cell a2 (2 : Int32) μ) (fun r7 μ6 => bw (p_X9_addTwo a2 (40 : Int32) r7 (41 : Int32) μ6) (fun μ8 => some μ8)) else (if a4 = (1 : Int32) then (if a4 < (0 : Int32) then p_X9_addInstruction_b240 RE a2 μ else (if (8 : Int32) ≤ a4 then p_X9_addInstruction_b240 RE a2 μ else gd (inb a4 8) (p_X9_addInstruction_b242 RE a2 (sgc a4) μ))) else (if a4 = (2 : Int32) then (if a4 < (0 : Int32) then p_X9_addInstruction_b240 RE a2 μ else (if (8 : Int32) ≤ a4 then p_X9_addInstruction_b240 RE a2 μ else gd (inb a4 8) (p_X9_addInstruction_b242 RE a2 (sgc a4) μ))) else (if a4 = (3 : Int32) then (if a4 < (0 : Int32) then p_X9_addInstruction_b240 RE a2 μ else (if (8 : Int32) ≤ a4 then p_X9_addInstruction_b240 RE a2 μ else gd (inb a4 8) (p_X9_addInstruction_b242 RE a2 (sgc a4) μ))) else (if a4 = (4 : Int32) then (if a4 < (0 : Int32) then p_X9_addInstruction_b240 RE a2 μ else (if (8 : Int32) ≤ a4 then p_X9_addInstruction_b240 RE a2 μ else gd (inb a4 8) (p_X9_addInstruction_b242 RE a2 (sgc a4) μ))) else (if a4 = (5 : Int32) then (if a4 < (0 : Int32) then p_X9_addInstruction_b240 RE a2 μ else (if (8 : Int32) ≤ a4 then p_X9_addInstruction_b240 RE a2 μ else gd (inb a4 8) (p_X9_addInstruction_b242 RE a2 (sgc a4) μ))) else (if a4 = (6 : Int32) then bw (p_X9_addChoice RE a2 a3 μ) (fun μ37 => some μ37) else (if a4 = (7 : Int32) then (if a4 < (0 : Int32) then p_X9_addInstruction_b240 RE a2 μ else (if (8 : Int32) ≤ a4 then p_X9_addInstruction_b240 RE a2 μ else gd (inb a4 8) (p_X9_addInstruction_b242 RE a2 (sgc a4) μ))) else (if a4 = (8 : Int32) then bw (p_X9_add (38 : Int32) μ) (fun μ44 => bd (p_X5_cell a2 (2 : Int32) μ44) (fun r47 μ46 => bw (p_X9_addInt r47 μ46) (fun μ48 => bd (p_X5_operand a2 (0 : Int32) μ48) (fun r51 μ50 => bw (p_X9_addSymbol r51 μ50) (fun μ52 => some μ52))))) else (if a4 = (9 : Int32) then bw (p_X9_add (95 : Int32) μ) (fun μ55 => bd (p_X5_cell a2 (2 : Int32) μ55) (fun r58 μ57 => bw (p_X9_addInt r58 μ57) (fun μ59 => some μ59))) else (if a4 = (10 : Int32) then bw (p_X9_addTwo a2 (91 : Int32) (44 : Int32) (93 : Int32) μ) (fun μ62 => some μ62) else (if a4 = (11 : Int32) then bw (p_X9_addCall a2 μ) (fun μ65 => some μ65) else (if a4 = (12 : Int32) then bw (p_X9_add (45 : Int32) μ) (fun μ68 => some μ68) else (if a4 < (0 : Int32) then p_X9_addInstruction_b240 RE a2 μ else (if (8 : Int32) ≤ a4 then p_X9_addInstruction_b240 RE a2 μ else gd (inb a4 8) (p_X9_addInstruction_b242 RE a2 (sgc a4) μ)))))))))))))))), fun _ _ _ _ _ => rfl⟩
noncomputable def p_X9_addInstruction_b35 : (Int32 → Int32 → Mem → Option Mem) → Int32 → Int32 → Int32 → Mem → Option Mem := Classical.choose p_X9_addInstruction_b35_ex
theorem p_X9_addInstruction_b35_eq (RE : Int32 → Int32 → Mem → Option Mem) (a2 : Int32) (a3 : Int32) (a4 : Int32) (μ : Mem) : p_X9_addInstruction_b35 RE a2 a3 a4 μ = (if a4 = (0 : Int32) then bd (p_X5_cell a2 (2 : Int32) μ) (fun r7 μ6 => bw (p_X9_addTwo a2 (40 : Int32) r7 (41 : Int32) μ6) (fun μ8 => some μ8)) else (if a4 = (1 : Int32) then (if a4 < (0 : Int32) then p_X9_addInstruction_b240 RE a2 μ else (if (8 : Int32) ≤ a4 then p_X9_addInstruction_b240 RE a2 μ else gd (inb a4 8) (p_X9_addInstruction_b242 RE a2 (sgc a4) μ))) else (if a4 = (2 : Int32) then (if a4 < (0 : Int32) then p_X9_addInstruction_b240 RE a2 μ else (if (8 : Int32) ≤ a4 then p_X9_addInstruction_b240 RE a2 μ else gd (inb a4 8) (p_X9_addInstruction_b242 RE a2 (sgc a4) μ))) else (if a4 = (3 : Int32) then (if a4 < (0 : Int32) then p_X9_addInstruction_b240 RE a2 μ else (if (8 : Int32) ≤ a4 then p_X9_addInstruction_b240 RE a2 μ else gd (inb a4 8) (p_X9_addInstruction_b242 RE a2 (sgc a4) μ))) else (if a4 = (4 : Int32) then (if a4 < (0 : Int32) then p_X9_addInstruction_b240 RE a2 μ else (if (8 : Int32) ≤ a4 then p_X9_addInstruction_b240 RE a2 μ else gd (inb a4 8) (p_X9_addInstruction_b242 RE a2 (sgc a4) μ))) else (if a4 = (5 : Int32) then (if a4 < (0 : Int32) then p_X9_addInstruction_b240 RE a2 μ else (if (8 : Int32) ≤ a4 then p_X9_addInstruction_b240 RE a2 μ else gd (inb a4 8) (p_X9_addInstruction_b242 RE a2 (sgc a4) μ))) else (if a4 = (6 : Int32) then bw (p_X9_addChoice RE a2 a3 μ) (fun μ37 => some μ37) else (if a4 = (7 : Int32) then (if a4 < (0 : Int32) then p_X9_addInstruction_b240 RE a2 μ else (if (8 : Int32) ≤ a4 then p_X9_addInstruction_b240 RE a2 μ else gd (inb a4 8) (p_X9_addInstruction_b242 RE a2 (sgc a4) μ))) else (if a4 = (8 : Int32) then bw (p_X9_add (38 : Int32) μ) (fun μ44 => bd (p_X5_cell a2 (2 : Int32) μ44) (fun r47 μ46 => bw (p_X9_addInt r47 μ46) (fun μ48 => bd (p_X5_operand a2 (0 : Int32) μ48) (fun r51 μ50 => bw (p_X9_addSymbol r51 μ50) (fun μ52 => some μ52))))) else (if a4 = (9 : Int32) then bw (p_X9_add (95 : Int32) μ) (fun μ55 => bd (p_X5_cell a2 (2 : Int32) μ55) (fun r58 μ57 => bw (p_X9_addInt r58 μ57) (fun μ59 => some μ59))) else (if a4 = (10 : Int32) then bw (p_X9_addTwo a2 (91 : Int32) (44 : Int32) (93 : Int32) μ) (fun μ62 => some μ62) else (if a4 = (11 : Int32) then bw (p_X9_addCall a2 μ) (fun μ65 => some μ65) else (if a4 = (12 : Int32) then bw (p_X9_add (45 : Int32) μ) (fun μ68 => some μ68) else (if a4 < (0 : Int32) then p_X9_addInstruction_b240 RE a2 μ else (if (8 : Int32) ≤ a4 then p_X9_addInstruction_b240 RE a2 μ else gd (inb a4 8) (p_X9_addInstruction_b242 RE a2 (sgc a4) μ)))))))))))))))) := Classical.choose_spec p_X9_addInstruction_b35_ex RE a2 a3 a4 μ
set_option maxHeartbeats 4000000 in
set_option maxRecDepth 100000 in
theorem t_X9_addInstruction_b35 (sq sv : Nat) (l : Launch) (G : Gt) (ad : Nat → Nat) (av : List Value) {μz : Mem} {fE lE : Nat} (RE : Int32 → Int32 → Mem → Option Mem) (hRE : ∀ (z2 : Int32) (z3 : Int32) (μ1 : Mem) (μ2 : Mem), RE z2 z3 μ1 = some μ2 → M2 sq sv l yX9_addBlock cX9_addBlock 6 none ({ frames := fE, cells := 0, slots := 0, locals := lE } : Room) G [.ref (ad 159), .ref (ad 39), .int z2, .int z3] (wd 0 G ad μ1) (eV 0 G ad μ2)) (a2 : Int32) (a3 : Int32) (a4 : Int32) (μ : Mem) (h : p_X9_addInstruction_b35 RE a2 a3 a4 μ = some μz) : B2 sq sv l cX9_addInstruction 5 RX9 none ({ frames := fE + 4, cells := 0, slots := 0, locals := lE + 95 } : Room) G av (eV 0 G ad μz) (wd 0 G ad μ) 35 [(0, .ref (ad 159)), (1, .ref (ad 39)), (2, .int a2), (3, .int a3), (4, .int a4)] [] := by
  intro p e s m below meth c A ls H locs cx hr hlk hA hl hw hs
  have hx := cx.1
  have hb := cx.2.1
  rw [p_X9_addInstruction_b35_eq] at h
  refine lv_iload hx hb dX9_addInstruction_35 (lv_at hl 4 rfl) ?_
  refine lv_topi (fun v4 ev4 => ?_)
  by_cases c5 : a4 = (0 : Int32)
  · rw [if_pos c5] at h
    have z9 := ev4.trans c5
    subst z9
    refine lv_tableIn (tgt := 104) hx hb dX9_addInstruction_37 (by decide +kernel) (by decide +kernel) rfl (by decide) ?_
    refine lv_aload_n hx hb dX9_addInstruction_104 rfl (lv_at hl 0 rfl) ?_
    refine lv_aload_n hx hb dX9_addInstruction_105 rfl (lv_at hl 1 rfl) ?_
    refine lv_iload_n hx hb dX9_addInstruction_106 rfl (lv_at hl 2 rfl) ?_
    refine lv_bipush (v := 40) hx hb dX9_addInstruction_107 (by decide) ?_
    refine lv_aload_n hx hb dX9_addInstruction_109 rfl (lv_at hl 1 rfl) ?_
    refine lv_iload_n hx hb dX9_addInstruction_110 rfl (lv_at hl 2 rfl) ?_
    refine lv_iconst (v := 2) hx hb dX9_addInstruction_111 (by decide) ?_
    obtain ⟨r7, μ6, gr7, h⟩ := bd_some h
    refine g_callVI (As := [.int a2, .int 2]) (rest := [.int 40, .int a2, .ref (ad 39), .ref (ad 159)]) cx hw hA (t_X5_cell l G ad a2 (2 : Int32) μ gr7) shx_39 rfl ml_X9_88 im_X5_cell se_X5_cell in_X5 co_X5_cell rfl hd_X5_cell rfl ⟨(by dsimp only; omega), (by dsimp only; omega)⟩ hl.1 rfl (Nat.le_of_ble_eq_true rfl) dX9_addInstruction_112 ⟨rfl, rfl⟩ (fun H locs hw => ?_)
    refine lv_bipush (v := 41) hx hb dX9_addInstruction_115 (by decide) ?_
    obtain ⟨μ8, gμ8, h⟩ := bw_some h
    refine g_callVV (As := [.ref (ad 39), .int a2, .int 40, .int r7, .int 41]) (rest := []) cx hw hA (t_X9_addTwo l G ad a2 (40 : Int32) r7 (41 : Int32) μ6 gμ8) shx_159 rfl ml_X9_99 im_X9_addTwo se_X9_addTwo in_X9 co_X9_addTwo rfl hd_X9_addTwo rfl ⟨(by dsimp only; omega), (by dsimp only; omega)⟩ hl.1 rfl (Nat.le_of_ble_eq_true rfl) dX9_addInstruction_117 ⟨rfl, rfl⟩ (fun H locs hw => ?_)
    refine lv_goto (tgt := 255) hx hb dX9_addInstruction_120 (by decide) ?_
    exact g_vret cx hr hlk hw h dX9_addInstruction_255
  rw [if_neg c5] at h
  by_cases c10 : a4 = (1 : Int32)
  · rw [if_pos c10] at h
    have z9 := ev4.trans c10
    subst z9
    refine lv_tableIn (tgt := 214) hx hb dX9_addInstruction_37 (by decide +kernel) (by decide +kernel) rfl (by decide) ?_
    refine lv_aload_n hx hb dX9_addInstruction_214 rfl (lv_at hl 0 rfl) ?_
    refine lv_iload hx hb dX9_addInstruction_215 (lv_at hl 4 rfl) ?_
    refine lv_if_lt (tgt := 240) hx hb dX9_addInstruction_217 (by decide) (fun c11 => ?_) (fun c11 => ?_)
    · rw [if_pos c11] at h
      exact t_X9_addInstruction_b240 sq sv l G ad av RE hRE a2 μ h p e s m below meth c A ls H locs cx hr hlk hA (lv_sub hl [0, 1, 2] rfl) hw hs
    · rw [if_neg c11] at h
      refine lv_iload hx hb dX9_addInstruction_220 (lv_at hl 4 rfl) ?_
      refine r_ldcS cx hs dX9_addInstruction_222 ?_
      refine r2_V0I (As := []) (rest := [.int a4, .ref (ad 159)]) cx hw hA hs (t_J0_length sq sv l G) ml_X9_115 im_J0_length_8abf5 se_J0_length_8abf5 in_J0 co_J0_length_8abf5 rfl hd_J0_length_8abf5 rfl ⟨(by dsimp only; omega), (by dsimp only; omega)⟩ hl.1 rfl (Nat.le_of_ble_eq_true rfl) dX9_addInstruction_224 rfl (fun H locs hw => ?_)
      refine lv_icmp_ge (tgt := 240) hx hb dX9_addInstruction_227 (by decide) (fun c18 => ?_) (fun c18 => ?_)
      · rw [if_pos c18] at h
        exact t_X9_addInstruction_b240 sq sv l G ad av RE hRE a2 μ h p e s m below meth c A ls H locs cx hr hlk hA (lv_sub hl [0, 1, 2] rfl) hw hs
      · rw [if_neg c18] at h
        refine r_ldcS cx hs dX9_addInstruction_230 ?_
        refine lv_iload hx hb dX9_addInstruction_232 (lv_at hl 4 rfl) ?_
        obtain ⟨c19, h⟩ := gd_some h
        refine r2_V0I (As := [.int a4]) (rest := [.ref (ad 159)]) cx hw hA hs (t_J0_charAt sq sv l G a4 c19) ml_X9_121 im_J0_charAt_5068e se_J0_charAt_5068e in_J0 co_J0_charAt_5068e rfl hd_J0_charAt_5068e rfl ⟨(by dsimp only; omega), (by dsimp only; omega)⟩ hl.1 rfl (Nat.le_of_ble_eq_true rfl) dX9_addInstruction_234 rfl (fun H locs hw => ?_)
        refine lv_goto (tgt := 242) hx hb dX9_addInstruction_237 (by decide) ?_
        exact t_X9_addInstruction_b242 sq sv l G ad av RE hRE a2 (sgc a4) μ h p e s m below meth c A ls H locs cx hr hlk hA (lv_sub hl [0, 1, 2] rfl) hw hs
  rw [if_neg c10] at h
  by_cases c20 : a4 = (2 : Int32)
  · rw [if_pos c20] at h
    have z9 := ev4.trans c20
    subst z9
    refine lv_tableIn (tgt := 214) hx hb dX9_addInstruction_37 (by decide +kernel) (by decide +kernel) rfl (by decide) ?_
    refine lv_aload_n hx hb dX9_addInstruction_214 rfl (lv_at hl 0 rfl) ?_
    refine lv_iload hx hb dX9_addInstruction_215 (lv_at hl 4 rfl) ?_
    refine lv_if_lt (tgt := 240) hx hb dX9_addInstruction_217 (by decide) (fun c21 => ?_) (fun c21 => ?_)
    · rw [if_pos c21] at h
      exact t_X9_addInstruction_b240 sq sv l G ad av RE hRE a2 μ h p e s m below meth c A ls H locs cx hr hlk hA (lv_sub hl [0, 1, 2] rfl) hw hs
    · rw [if_neg c21] at h
      refine lv_iload hx hb dX9_addInstruction_220 (lv_at hl 4 rfl) ?_
      refine r_ldcS cx hs dX9_addInstruction_222 ?_
      refine r2_V0I (As := []) (rest := [.int a4, .ref (ad 159)]) cx hw hA hs (t_J0_length sq sv l G) ml_X9_115 im_J0_length_8abf5 se_J0_length_8abf5 in_J0 co_J0_length_8abf5 rfl hd_J0_length_8abf5 rfl ⟨(by dsimp only; omega), (by dsimp only; omega)⟩ hl.1 rfl (Nat.le_of_ble_eq_true rfl) dX9_addInstruction_224 rfl (fun H locs hw => ?_)
      refine lv_icmp_ge (tgt := 240) hx hb dX9_addInstruction_227 (by decide) (fun c22 => ?_) (fun c22 => ?_)
      · rw [if_pos c22] at h
        exact t_X9_addInstruction_b240 sq sv l G ad av RE hRE a2 μ h p e s m below meth c A ls H locs cx hr hlk hA (lv_sub hl [0, 1, 2] rfl) hw hs
      · rw [if_neg c22] at h
        refine r_ldcS cx hs dX9_addInstruction_230 ?_
        refine lv_iload hx hb dX9_addInstruction_232 (lv_at hl 4 rfl) ?_
        obtain ⟨c23, h⟩ := gd_some h
        refine r2_V0I (As := [.int a4]) (rest := [.ref (ad 159)]) cx hw hA hs (t_J0_charAt sq sv l G a4 c23) ml_X9_121 im_J0_charAt_5068e se_J0_charAt_5068e in_J0 co_J0_charAt_5068e rfl hd_J0_charAt_5068e rfl ⟨(by dsimp only; omega), (by dsimp only; omega)⟩ hl.1 rfl (Nat.le_of_ble_eq_true rfl) dX9_addInstruction_234 rfl (fun H locs hw => ?_)
        refine lv_goto (tgt := 242) hx hb dX9_addInstruction_237 (by decide) ?_
        exact t_X9_addInstruction_b242 sq sv l G ad av RE hRE a2 (sgc a4) μ h p e s m below meth c A ls H locs cx hr hlk hA (lv_sub hl [0, 1, 2] rfl) hw hs
  rw [if_neg c20] at h
  by_cases c24 : a4 = (3 : Int32)
  · rw [if_pos c24] at h
    have z9 := ev4.trans c24
    subst z9
    refine lv_tableIn (tgt := 214) hx hb dX9_addInstruction_37 (by decide +kernel) (by decide +kernel) rfl (by decide) ?_
    refine lv_aload_n hx hb dX9_addInstruction_214 rfl (lv_at hl 0 rfl) ?_
    refine lv_iload hx hb dX9_addInstruction_215 (lv_at hl 4 rfl) ?_
    refine lv_if_lt (tgt := 240) hx hb dX9_addInstruction_217 (by decide) (fun c25 => ?_) (fun c25 => ?_)
    · rw [if_pos c25] at h
      exact t_X9_addInstruction_b240 sq sv l G ad av RE hRE a2 μ h p e s m below meth c A ls H locs cx hr hlk hA (lv_sub hl [0, 1, 2] rfl) hw hs
    · rw [if_neg c25] at h
      refine lv_iload hx hb dX9_addInstruction_220 (lv_at hl 4 rfl) ?_
      refine r_ldcS cx hs dX9_addInstruction_222 ?_
      refine r2_V0I (As := []) (rest := [.int a4, .ref (ad 159)]) cx hw hA hs (t_J0_length sq sv l G) ml_X9_115 im_J0_length_8abf5 se_J0_length_8abf5 in_J0 co_J0_length_8abf5 rfl hd_J0_length_8abf5 rfl ⟨(by dsimp only; omega), (by dsimp only; omega)⟩ hl.1 rfl (Nat.le_of_ble_eq_true rfl) dX9_addInstruction_224 rfl (fun H locs hw => ?_)
      refine lv_icmp_ge (tgt := 240) hx hb dX9_addInstruction_227 (by decide) (fun c26 => ?_) (fun c26 => ?_)
      · rw [if_pos c26] at h
        exact t_X9_addInstruction_b240 sq sv l G ad av RE hRE a2 μ h p e s m below meth c A ls H locs cx hr hlk hA (lv_sub hl [0, 1, 2] rfl) hw hs
      · rw [if_neg c26] at h
        refine r_ldcS cx hs dX9_addInstruction_230 ?_
        refine lv_iload hx hb dX9_addInstruction_232 (lv_at hl 4 rfl) ?_
        obtain ⟨c27, h⟩ := gd_some h
        refine r2_V0I (As := [.int a4]) (rest := [.ref (ad 159)]) cx hw hA hs (t_J0_charAt sq sv l G a4 c27) ml_X9_121 im_J0_charAt_5068e se_J0_charAt_5068e in_J0 co_J0_charAt_5068e rfl hd_J0_charAt_5068e rfl ⟨(by dsimp only; omega), (by dsimp only; omega)⟩ hl.1 rfl (Nat.le_of_ble_eq_true rfl) dX9_addInstruction_234 rfl (fun H locs hw => ?_)
        refine lv_goto (tgt := 242) hx hb dX9_addInstruction_237 (by decide) ?_
        exact t_X9_addInstruction_b242 sq sv l G ad av RE hRE a2 (sgc a4) μ h p e s m below meth c A ls H locs cx hr hlk hA (lv_sub hl [0, 1, 2] rfl) hw hs
  rw [if_neg c24] at h
  by_cases c28 : a4 = (4 : Int32)
  · rw [if_pos c28] at h
    have z9 := ev4.trans c28
    subst z9
    refine lv_tableIn (tgt := 214) hx hb dX9_addInstruction_37 (by decide +kernel) (by decide +kernel) rfl (by decide) ?_
    refine lv_aload_n hx hb dX9_addInstruction_214 rfl (lv_at hl 0 rfl) ?_
    refine lv_iload hx hb dX9_addInstruction_215 (lv_at hl 4 rfl) ?_
    refine lv_if_lt (tgt := 240) hx hb dX9_addInstruction_217 (by decide) (fun c29 => ?_) (fun c29 => ?_)
    · rw [if_pos c29] at h
      exact t_X9_addInstruction_b240 sq sv l G ad av RE hRE a2 μ h p e s m below meth c A ls H locs cx hr hlk hA (lv_sub hl [0, 1, 2] rfl) hw hs
    · rw [if_neg c29] at h
      refine lv_iload hx hb dX9_addInstruction_220 (lv_at hl 4 rfl) ?_
      refine r_ldcS cx hs dX9_addInstruction_222 ?_
      refine r2_V0I (As := []) (rest := [.int a4, .ref (ad 159)]) cx hw hA hs (t_J0_length sq sv l G) ml_X9_115 im_J0_length_8abf5 se_J0_length_8abf5 in_J0 co_J0_length_8abf5 rfl hd_J0_length_8abf5 rfl ⟨(by dsimp only; omega), (by dsimp only; omega)⟩ hl.1 rfl (Nat.le_of_ble_eq_true rfl) dX9_addInstruction_224 rfl (fun H locs hw => ?_)
      refine lv_icmp_ge (tgt := 240) hx hb dX9_addInstruction_227 (by decide) (fun c30 => ?_) (fun c30 => ?_)
      · rw [if_pos c30] at h
        exact t_X9_addInstruction_b240 sq sv l G ad av RE hRE a2 μ h p e s m below meth c A ls H locs cx hr hlk hA (lv_sub hl [0, 1, 2] rfl) hw hs
      · rw [if_neg c30] at h
        refine r_ldcS cx hs dX9_addInstruction_230 ?_
        refine lv_iload hx hb dX9_addInstruction_232 (lv_at hl 4 rfl) ?_
        obtain ⟨c31, h⟩ := gd_some h
        refine r2_V0I (As := [.int a4]) (rest := [.ref (ad 159)]) cx hw hA hs (t_J0_charAt sq sv l G a4 c31) ml_X9_121 im_J0_charAt_5068e se_J0_charAt_5068e in_J0 co_J0_charAt_5068e rfl hd_J0_charAt_5068e rfl ⟨(by dsimp only; omega), (by dsimp only; omega)⟩ hl.1 rfl (Nat.le_of_ble_eq_true rfl) dX9_addInstruction_234 rfl (fun H locs hw => ?_)
        refine lv_goto (tgt := 242) hx hb dX9_addInstruction_237 (by decide) ?_
        exact t_X9_addInstruction_b242 sq sv l G ad av RE hRE a2 (sgc a4) μ h p e s m below meth c A ls H locs cx hr hlk hA (lv_sub hl [0, 1, 2] rfl) hw hs
  rw [if_neg c28] at h
  by_cases c32 : a4 = (5 : Int32)
  · rw [if_pos c32] at h
    have z9 := ev4.trans c32
    subst z9
    refine lv_tableIn (tgt := 214) hx hb dX9_addInstruction_37 (by decide +kernel) (by decide +kernel) rfl (by decide) ?_
    refine lv_aload_n hx hb dX9_addInstruction_214 rfl (lv_at hl 0 rfl) ?_
    refine lv_iload hx hb dX9_addInstruction_215 (lv_at hl 4 rfl) ?_
    refine lv_if_lt (tgt := 240) hx hb dX9_addInstruction_217 (by decide) (fun c33 => ?_) (fun c33 => ?_)
    · rw [if_pos c33] at h
      exact t_X9_addInstruction_b240 sq sv l G ad av RE hRE a2 μ h p e s m below meth c A ls H locs cx hr hlk hA (lv_sub hl [0, 1, 2] rfl) hw hs
    · rw [if_neg c33] at h
      refine lv_iload hx hb dX9_addInstruction_220 (lv_at hl 4 rfl) ?_
      refine r_ldcS cx hs dX9_addInstruction_222 ?_
      refine r2_V0I (As := []) (rest := [.int a4, .ref (ad 159)]) cx hw hA hs (t_J0_length sq sv l G) ml_X9_115 im_J0_length_8abf5 se_J0_length_8abf5 in_J0 co_J0_length_8abf5 rfl hd_J0_length_8abf5 rfl ⟨(by dsimp only; omega), (by dsimp only; omega)⟩ hl.1 rfl (Nat.le_of_ble_eq_true rfl) dX9_addInstruction_224 rfl (fun H locs hw => ?_)
      refine lv_icmp_ge (tgt := 240) hx hb dX9_addInstruction_227 (by decide) (fun c34 => ?_) (fun c34 => ?_)
      · rw [if_pos c34] at h
        exact t_X9_addInstruction_b240 sq sv l G ad av RE hRE a2 μ h p e s m below meth c A ls H locs cx hr hlk hA (lv_sub hl [0, 1, 2] rfl) hw hs
      · rw [if_neg c34] at h
        refine r_ldcS cx hs dX9_addInstruction_230 ?_
        refine lv_iload hx hb dX9_addInstruction_232 (lv_at hl 4 rfl) ?_
        obtain ⟨c35, h⟩ := gd_some h
        refine r2_V0I (As := [.int a4]) (rest := [.ref (ad 159)]) cx hw hA hs (t_J0_charAt sq sv l G a4 c35) ml_X9_121 im_J0_charAt_5068e se_J0_charAt_5068e in_J0 co_J0_charAt_5068e rfl hd_J0_charAt_5068e rfl ⟨(by dsimp only; omega), (by dsimp only; omega)⟩ hl.1 rfl (Nat.le_of_ble_eq_true rfl) dX9_addInstruction_234 rfl (fun H locs hw => ?_)
        refine lv_goto (tgt := 242) hx hb dX9_addInstruction_237 (by decide) ?_
        exact t_X9_addInstruction_b242 sq sv l G ad av RE hRE a2 (sgc a4) μ h p e s m below meth c A ls H locs cx hr hlk hA (lv_sub hl [0, 1, 2] rfl) hw hs
  rw [if_neg c32] at h
  by_cases c36 : a4 = (6 : Int32)
  · rw [if_pos c36] at h
    have z9 := ev4.trans c36
    subst z9
    refine lv_tableIn (tgt := 123) hx hb dX9_addInstruction_37 (by decide +kernel) (by decide +kernel) rfl (by decide) ?_
    refine lv_aload_n hx hb dX9_addInstruction_123 rfl (lv_at hl 0 rfl) ?_
    refine lv_aload_n hx hb dX9_addInstruction_124 rfl (lv_at hl 1 rfl) ?_
    refine lv_iload_n hx hb dX9_addInstruction_125 rfl (lv_at hl 2 rfl) ?_
    refine lv_iload_n hx hb dX9_addInstruction_126 rfl (lv_at hl 3 rfl) ?_
    obtain ⟨μ37, gμ37, h⟩ := bw_some h
    refine h_callVV (As := [.ref (ad 39), .int a2, .int a3]) (rest := []) cx hw hA hs (t_X9_addChoice sq sv l G ad RE hRE a2 a3 μ gμ37) shx_159 rfl ml_X9_103 im_X9_addChoice se_X9_addChoice in_X9 co_X9_addChoice rfl hd_X9_addChoice rfl ⟨(by dsimp only; omega), (by dsimp only; omega)⟩ hl.1 rfl (Nat.le_of_ble_eq_true rfl) dX9_addInstruction_127 ⟨rfl, rfl⟩ (fun H locs hw => ?_)
    refine lv_goto (tgt := 255) hx hb dX9_addInstruction_130 (by decide) ?_
    exact g_vret cx hr hlk hw h dX9_addInstruction_255
  rw [if_neg c36] at h
  by_cases c39 : a4 = (7 : Int32)
  · rw [if_pos c39] at h
    have z9 := ev4.trans c39
    subst z9
    refine lv_tableIn (tgt := 214) hx hb dX9_addInstruction_37 (by decide +kernel) (by decide +kernel) rfl (by decide) ?_
    refine lv_aload_n hx hb dX9_addInstruction_214 rfl (lv_at hl 0 rfl) ?_
    refine lv_iload hx hb dX9_addInstruction_215 (lv_at hl 4 rfl) ?_
    refine lv_if_lt (tgt := 240) hx hb dX9_addInstruction_217 (by decide) (fun c40 => ?_) (fun c40 => ?_)
    · rw [if_pos c40] at h
      exact t_X9_addInstruction_b240 sq sv l G ad av RE hRE a2 μ h p e s m below meth c A ls H locs cx hr hlk hA (lv_sub hl [0, 1, 2] rfl) hw hs
    · rw [if_neg c40] at h
      refine lv_iload hx hb dX9_addInstruction_220 (lv_at hl 4 rfl) ?_
      refine r_ldcS cx hs dX9_addInstruction_222 ?_
      refine r2_V0I (As := []) (rest := [.int a4, .ref (ad 159)]) cx hw hA hs (t_J0_length sq sv l G) ml_X9_115 im_J0_length_8abf5 se_J0_length_8abf5 in_J0 co_J0_length_8abf5 rfl hd_J0_length_8abf5 rfl ⟨(by dsimp only; omega), (by dsimp only; omega)⟩ hl.1 rfl (Nat.le_of_ble_eq_true rfl) dX9_addInstruction_224 rfl (fun H locs hw => ?_)
      refine lv_icmp_ge (tgt := 240) hx hb dX9_addInstruction_227 (by decide) (fun c41 => ?_) (fun c41 => ?_)
      · rw [if_pos c41] at h
        exact t_X9_addInstruction_b240 sq sv l G ad av RE hRE a2 μ h p e s m below meth c A ls H locs cx hr hlk hA (lv_sub hl [0, 1, 2] rfl) hw hs
      · rw [if_neg c41] at h
        refine r_ldcS cx hs dX9_addInstruction_230 ?_
        refine lv_iload hx hb dX9_addInstruction_232 (lv_at hl 4 rfl) ?_
        obtain ⟨c42, h⟩ := gd_some h
        refine r2_V0I (As := [.int a4]) (rest := [.ref (ad 159)]) cx hw hA hs (t_J0_charAt sq sv l G a4 c42) ml_X9_121 im_J0_charAt_5068e se_J0_charAt_5068e in_J0 co_J0_charAt_5068e rfl hd_J0_charAt_5068e rfl ⟨(by dsimp only; omega), (by dsimp only; omega)⟩ hl.1 rfl (Nat.le_of_ble_eq_true rfl) dX9_addInstruction_234 rfl (fun H locs hw => ?_)
        refine lv_goto (tgt := 242) hx hb dX9_addInstruction_237 (by decide) ?_
        exact t_X9_addInstruction_b242 sq sv l G ad av RE hRE a2 (sgc a4) μ h p e s m below meth c A ls H locs cx hr hlk hA (lv_sub hl [0, 1, 2] rfl) hw hs
  rw [if_neg c39] at h
  by_cases c43 : a4 = (8 : Int32)
  · rw [if_pos c43] at h
    have z9 := ev4.trans c43
    subst z9
    refine lv_tableIn (tgt := 133) hx hb dX9_addInstruction_37 (by decide +kernel) (by decide +kernel) rfl (by decide) ?_
    refine lv_aload_n hx hb dX9_addInstruction_133 rfl (lv_at hl 0 rfl) ?_
    refine lv_bipush (v := 38) hx hb dX9_addInstruction_134 (by decide) ?_
    obtain ⟨μ44, gμ44, h⟩ := bw_some h
    refine g_callVV (As := [.int 38]) (rest := []) cx hw hA (t_X9_add l G ad (38 : Int32) μ gμ44) shx_159 rfl ml_X9_34 im_X9_add se_X9_add in_X9 co_X9_add rfl hd_X9_add rfl ⟨(by dsimp only; omega), (by dsimp only; omega)⟩ hl.1 rfl (Nat.le_of_ble_eq_true rfl) dX9_addInstruction_136 ⟨rfl, rfl⟩ (fun H locs hw => ?_)
    refine lv_aload_n hx hb dX9_addInstruction_139 rfl (lv_at hl 0 rfl) ?_
    refine lv_aload_n hx hb dX9_addInstruction_140 rfl (lv_at hl 1 rfl) ?_
    refine lv_iload_n hx hb dX9_addInstruction_141 rfl (lv_at hl 2 rfl) ?_
    refine lv_iconst (v := 2) hx hb dX9_addInstruction_142 (by decide) ?_
    obtain ⟨r47, μ46, gr47, h⟩ := bd_some h
    refine g_callVI (As := [.int a2, .int 2]) (rest := [.ref (ad 159)]) cx hw hA (t_X5_cell l G ad a2 (2 : Int32) μ44 gr47) shx_39 rfl ml_X9_88 im_X5_cell se_X5_cell in_X5 co_X5_cell rfl hd_X5_cell rfl ⟨(by dsimp only; omega), (by dsimp only; omega)⟩ hl.1 rfl (Nat.le_of_ble_eq_true rfl) dX9_addInstruction_143 ⟨rfl, rfl⟩ (fun H locs hw => ?_)
    obtain ⟨μ48, gμ48, h⟩ := bw_some h
    refine g_callVV (As := [.int r47]) (rest := []) cx hw hA (t_X9_addInt l G ad r47 μ46 gμ48) shx_159 rfl ml_X9_57 im_X9_addInt se_X9_addInt in_X9 co_X9_addInt rfl hd_X9_addInt rfl ⟨(by dsimp only; omega), (by dsimp only; omega)⟩ hl.1 rfl (Nat.le_of_ble_eq_true rfl) dX9_addInstruction_146 ⟨rfl, rfl⟩ (fun H locs hw => ?_)
    refine lv_aload_n hx hb dX9_addInstruction_149 rfl (lv_at hl 0 rfl) ?_
    refine lv_aload_n hx hb dX9_addInstruction_150 rfl (lv_at hl 1 rfl) ?_
    refine lv_iload_n hx hb dX9_addInstruction_151 rfl (lv_at hl 2 rfl) ?_
    refine lv_iconst (v := 0) hx hb dX9_addInstruction_152 (by decide) ?_
    obtain ⟨r51, μ50, gr51, h⟩ := bd_some h
    refine g_callVL (As := [.int a2, .int 0]) (rest := [.ref (ad 159)]) cx hw hA (t_X5_operand l G ad a2 (0 : Int32) μ48 gr51) shx_39 rfl ml_X9_106 im_X5_operand se_X5_operand in_X5 co_X5_operand rfl hd_X5_operand rfl ⟨(by dsimp only; omega), (by dsimp only; omega)⟩ hl.1 rfl (Nat.le_of_ble_eq_true rfl) dX9_addInstruction_153 ⟨rfl, rfl⟩ (fun H locs hw => ?_)
    obtain ⟨μ52, gμ52, h⟩ := bw_some h
    refine g_callVV (As := [.long r51]) (rest := []) cx hw hA (t_X9_addSymbol l G ad r51 μ50 gμ52) shx_159 rfl ml_X9_77 im_X9_addSymbol se_X9_addSymbol in_X9 co_X9_addSymbol rfl hd_X9_addSymbol rfl ⟨(by dsimp only; omega), (by dsimp only; omega)⟩ hl.1 rfl (Nat.le_of_ble_eq_true rfl) dX9_addInstruction_156 ⟨rfl, rfl⟩ (fun H locs hw => ?_)
    refine lv_goto (tgt := 255) hx hb dX9_addInstruction_159 (by decide) ?_
    exact g_vret cx hr hlk hw h dX9_addInstruction_255
  rw [if_neg c43] at h
  by_cases c54 : a4 = (9 : Int32)
  · rw [if_pos c54] at h
    have z9 := ev4.trans c54
    subst z9
    refine lv_tableIn (tgt := 162) hx hb dX9_addInstruction_37 (by decide +kernel) (by decide +kernel) rfl (by decide) ?_
    refine lv_aload_n hx hb dX9_addInstruction_162 rfl (lv_at hl 0 rfl) ?_
    refine lv_bipush (v := 95) hx hb dX9_addInstruction_163 (by decide) ?_
    obtain ⟨μ55, gμ55, h⟩ := bw_some h
    refine g_callVV (As := [.int 95]) (rest := []) cx hw hA (t_X9_add l G ad (95 : Int32) μ gμ55) shx_159 rfl ml_X9_34 im_X9_add se_X9_add in_X9 co_X9_add rfl hd_X9_add rfl ⟨(by dsimp only; omega), (by dsimp only; omega)⟩ hl.1 rfl (Nat.le_of_ble_eq_true rfl) dX9_addInstruction_165 ⟨rfl, rfl⟩ (fun H locs hw => ?_)
    refine lv_aload_n hx hb dX9_addInstruction_168 rfl (lv_at hl 0 rfl) ?_
    refine lv_aload_n hx hb dX9_addInstruction_169 rfl (lv_at hl 1 rfl) ?_
    refine lv_iload_n hx hb dX9_addInstruction_170 rfl (lv_at hl 2 rfl) ?_
    refine lv_iconst (v := 2) hx hb dX9_addInstruction_171 (by decide) ?_
    obtain ⟨r58, μ57, gr58, h⟩ := bd_some h
    refine g_callVI (As := [.int a2, .int 2]) (rest := [.ref (ad 159)]) cx hw hA (t_X5_cell l G ad a2 (2 : Int32) μ55 gr58) shx_39 rfl ml_X9_88 im_X5_cell se_X5_cell in_X5 co_X5_cell rfl hd_X5_cell rfl ⟨(by dsimp only; omega), (by dsimp only; omega)⟩ hl.1 rfl (Nat.le_of_ble_eq_true rfl) dX9_addInstruction_172 ⟨rfl, rfl⟩ (fun H locs hw => ?_)
    obtain ⟨μ59, gμ59, h⟩ := bw_some h
    refine g_callVV (As := [.int r58]) (rest := []) cx hw hA (t_X9_addInt l G ad r58 μ57 gμ59) shx_159 rfl ml_X9_57 im_X9_addInt se_X9_addInt in_X9 co_X9_addInt rfl hd_X9_addInt rfl ⟨(by dsimp only; omega), (by dsimp only; omega)⟩ hl.1 rfl (Nat.le_of_ble_eq_true rfl) dX9_addInstruction_175 ⟨rfl, rfl⟩ (fun H locs hw => ?_)
    refine lv_goto (tgt := 255) hx hb dX9_addInstruction_178 (by decide) ?_
    exact g_vret cx hr hlk hw h dX9_addInstruction_255
  rw [if_neg c54] at h
  by_cases c61 : a4 = (10 : Int32)
  · rw [if_pos c61] at h
    have z9 := ev4.trans c61
    subst z9
    refine lv_tableIn (tgt := 181) hx hb dX9_addInstruction_37 (by decide +kernel) (by decide +kernel) rfl (by decide) ?_
    refine lv_aload_n hx hb dX9_addInstruction_181 rfl (lv_at hl 0 rfl) ?_
    refine lv_aload_n hx hb dX9_addInstruction_182 rfl (lv_at hl 1 rfl) ?_
    refine lv_iload_n hx hb dX9_addInstruction_183 rfl (lv_at hl 2 rfl) ?_
    refine lv_bipush (v := 91) hx hb dX9_addInstruction_184 (by decide) ?_
    refine lv_bipush (v := 44) hx hb dX9_addInstruction_186 (by decide) ?_
    refine lv_bipush (v := 93) hx hb dX9_addInstruction_188 (by decide) ?_
    obtain ⟨μ62, gμ62, h⟩ := bw_some h
    refine g_callVV (As := [.ref (ad 39), .int a2, .int 91, .int 44, .int 93]) (rest := []) cx hw hA (t_X9_addTwo l G ad a2 (91 : Int32) (44 : Int32) (93 : Int32) μ gμ62) shx_159 rfl ml_X9_99 im_X9_addTwo se_X9_addTwo in_X9 co_X9_addTwo rfl hd_X9_addTwo rfl ⟨(by dsimp only; omega), (by dsimp only; omega)⟩ hl.1 rfl (Nat.le_of_ble_eq_true rfl) dX9_addInstruction_190 ⟨rfl, rfl⟩ (fun H locs hw => ?_)
    refine lv_goto (tgt := 255) hx hb dX9_addInstruction_193 (by decide) ?_
    exact g_vret cx hr hlk hw h dX9_addInstruction_255
  rw [if_neg c61] at h
  by_cases c64 : a4 = (11 : Int32)
  · rw [if_pos c64] at h
    have z9 := ev4.trans c64
    subst z9
    refine lv_tableIn (tgt := 196) hx hb dX9_addInstruction_37 (by decide +kernel) (by decide +kernel) rfl (by decide) ?_
    refine lv_aload_n hx hb dX9_addInstruction_196 rfl (lv_at hl 0 rfl) ?_
    refine lv_aload_n hx hb dX9_addInstruction_197 rfl (lv_at hl 1 rfl) ?_
    refine lv_iload_n hx hb dX9_addInstruction_198 rfl (lv_at hl 2 rfl) ?_
    obtain ⟨μ65, gμ65, h⟩ := bw_some h
    refine g_callVV (As := [.ref (ad 39), .int a2]) (rest := []) cx hw hA (t_X9_addCall l G ad a2 μ gμ65) shx_159 rfl ml_X9_109 im_X9_addCall se_X9_addCall in_X9 co_X9_addCall rfl hd_X9_addCall rfl ⟨(by dsimp only; omega), (by dsimp only; omega)⟩ hl.1 rfl (Nat.le_of_ble_eq_true rfl) dX9_addInstruction_199 ⟨rfl, rfl⟩ (fun H locs hw => ?_)
    refine lv_goto (tgt := 255) hx hb dX9_addInstruction_202 (by decide) ?_
    exact g_vret cx hr hlk hw h dX9_addInstruction_255
  rw [if_neg c64] at h
  by_cases c67 : a4 = (12 : Int32)
  · rw [if_pos c67] at h
    have z9 := ev4.trans c67
    subst z9
    refine lv_tableIn (tgt := 205) hx hb dX9_addInstruction_37 (by decide +kernel) (by decide +kernel) rfl (by decide) ?_
    refine lv_aload_n hx hb dX9_addInstruction_205 rfl (lv_at hl 0 rfl) ?_
    refine lv_bipush (v := 45) hx hb dX9_addInstruction_206 (by decide) ?_
    obtain ⟨μ68, gμ68, h⟩ := bw_some h
    refine g_callVV (As := [.int 45]) (rest := []) cx hw hA (t_X9_add l G ad (45 : Int32) μ gμ68) shx_159 rfl ml_X9_34 im_X9_add se_X9_add in_X9 co_X9_add rfl hd_X9_add rfl ⟨(by dsimp only; omega), (by dsimp only; omega)⟩ hl.1 rfl (Nat.le_of_ble_eq_true rfl) dX9_addInstruction_208 ⟨rfl, rfl⟩ (fun H locs hw => ?_)
    refine lv_goto (tgt := 255) hx hb dX9_addInstruction_211 (by decide) ?_
    exact g_vret cx hr hlk hw h dX9_addInstruction_255
  rw [if_neg c67] at h
  rw [ev4]
  refine lv_tableOut (tgt := 214) hx hb dX9_addInstruction_37 (sw_out (L := [(0 : Int32), (1 : Int32), (2 : Int32), (3 : Int32), (4 : Int32), (5 : Int32), (6 : Int32), (7 : Int32), (8 : Int32), (9 : Int32), (10 : Int32), (11 : Int32), (12 : Int32)]) (by decide +kernel) (by simp only [List.forall_mem_cons]; exact ⟨c5, c10, c20, c24, c28, c32, c36, c39, c43, c54, c61, c64, c67, fun _ q => absurd q List.not_mem_nil⟩)) (by decide) ?_
  refine lv_aload_n hx hb dX9_addInstruction_214 rfl (lv_at hl 0 rfl) ?_
  refine lv_iload hx hb dX9_addInstruction_215 (lv_at hl 4 rfl) ?_
  refine lv_if_lt (tgt := 240) hx hb dX9_addInstruction_217 (by decide) (fun c70 => ?_) (fun c70 => ?_)
  · rw [if_pos c70] at h
    exact t_X9_addInstruction_b240 sq sv l G ad av RE hRE a2 μ h p e s m below meth c A ls H locs cx hr hlk hA (lv_sub hl [0, 1, 2] rfl) hw hs
  · rw [if_neg c70] at h
    refine lv_iload hx hb dX9_addInstruction_220 (lv_at hl 4 rfl) ?_
    refine r_ldcS cx hs dX9_addInstruction_222 ?_
    refine r2_V0I (As := []) (rest := [.int a4, .ref (ad 159)]) cx hw hA hs (t_J0_length sq sv l G) ml_X9_115 im_J0_length_8abf5 se_J0_length_8abf5 in_J0 co_J0_length_8abf5 rfl hd_J0_length_8abf5 rfl ⟨(by dsimp only; omega), (by dsimp only; omega)⟩ hl.1 rfl (Nat.le_of_ble_eq_true rfl) dX9_addInstruction_224 rfl (fun H locs hw => ?_)
    refine lv_icmp_ge (tgt := 240) hx hb dX9_addInstruction_227 (by decide) (fun c71 => ?_) (fun c71 => ?_)
    · rw [if_pos c71] at h
      exact t_X9_addInstruction_b240 sq sv l G ad av RE hRE a2 μ h p e s m below meth c A ls H locs cx hr hlk hA (lv_sub hl [0, 1, 2] rfl) hw hs
    · rw [if_neg c71] at h
      refine r_ldcS cx hs dX9_addInstruction_230 ?_
      refine lv_iload hx hb dX9_addInstruction_232 (lv_at hl 4 rfl) ?_
      obtain ⟨c72, h⟩ := gd_some h
      refine r2_V0I (As := [.int a4]) (rest := [.ref (ad 159)]) cx hw hA hs (t_J0_charAt sq sv l G a4 c72) ml_X9_121 im_J0_charAt_5068e se_J0_charAt_5068e in_J0 co_J0_charAt_5068e rfl hd_J0_charAt_5068e rfl ⟨(by dsimp only; omega), (by dsimp only; omega)⟩ hl.1 rfl (Nat.le_of_ble_eq_true rfl) dX9_addInstruction_234 rfl (fun H locs hw => ?_)
      refine lv_goto (tgt := 242) hx hb dX9_addInstruction_237 (by decide) ?_
      exact t_X9_addInstruction_b242 sq sv l G ad av RE hRE a2 (sgc a4) μ h p e s m below meth c A ls H locs cx hr hlk hA (lv_sub hl [0, 1, 2] rfl) hw hs
theorem p_X9_addInstruction_ex : ∃ f : (Int32 → Int32 → Mem → Option Mem) → Int32 → Int32 → Mem → Option Mem, ∀ (RE : Int32 → Int32 → Mem → Option Mem) (a2 : Int32) (a3 : Int32) (μ : Mem), f  RE a2 a3 μ = bd (p_X5_cell a2 (0 : Int32) μ) (fun r2 μ1 => (if r2 = (7 : Int32) then p_X9_addInstruction_b35 RE a2 a3 r2 μ1 else bd (p_X5_cell a2 (1 : Int32) μ1) (fun r74 μ73 => bw (p_X9_addSymbol (s_X0_make (3 : Int32) r74) μ73) (fun μ75 => bw (p_X9_add (61 : Int32) μ75) (fun μ77 => p_X9_addInstruction_b35 RE a2 a3 r2 μ77))))) := ⟨fun (RE : Int32 → Int32 → Mem → Option Mem) (a2 : Int32) (a3 : Int32) (μ : Mem) => bd (p_X5_cell a2 (0 : Int32) μ) (fun r2 μ1 => (if r2 = (7 : Int32) then p_X9_addInstruction_b35 RE a2 a3 r2 μ1 else bd (p_X5_cell a2 (1 : Int32) μ1) (fun r74 μ73 => bw (p_X9_addSymbol (s_X0_make (3 : Int32) r74) μ73) (fun μ75 => bw (p_X9_add (61 : Int32) μ75) (fun μ77 => p_X9_addInstruction_b35 RE a2 a3 r2 μ77))))), fun _ _ _ _ => rfl⟩
noncomputable def p_X9_addInstruction : (Int32 → Int32 → Mem → Option Mem) → Int32 → Int32 → Mem → Option Mem := Classical.choose p_X9_addInstruction_ex
theorem p_X9_addInstruction_eq (RE : Int32 → Int32 → Mem → Option Mem) (a2 : Int32) (a3 : Int32) (μ : Mem) : p_X9_addInstruction  RE a2 a3 μ = bd (p_X5_cell a2 (0 : Int32) μ) (fun r2 μ1 => (if r2 = (7 : Int32) then p_X9_addInstruction_b35 RE a2 a3 r2 μ1 else bd (p_X5_cell a2 (1 : Int32) μ1) (fun r74 μ73 => bw (p_X9_addSymbol (s_X0_make (3 : Int32) r74) μ73) (fun μ75 => bw (p_X9_add (61 : Int32) μ75) (fun μ77 => p_X9_addInstruction_b35 RE a2 a3 r2 μ77))))) := Classical.choose_spec p_X9_addInstruction_ex  RE a2 a3 μ
set_option maxHeartbeats 4000000 in
set_option maxRecDepth 100000 in
theorem t_X9_addInstruction (sq sv : Nat) (l : Launch) (G : Gt) (ad : Nat → Nat) {fE lE : Nat} (RE : Int32 → Int32 → Mem → Option Mem) (hRE : ∀ (z2 : Int32) (z3 : Int32) (μ1 : Mem) (μ2 : Mem), RE z2 z3 μ1 = some μ2 → M2 sq sv l yX9_addBlock cX9_addBlock 6 none ({ frames := fE, cells := 0, slots := 0, locals := lE } : Room) G [.ref (ad 159), .ref (ad 39), .int z2, .int z3] (wd 0 G ad μ1) (eV 0 G ad μ2)) (a2 : Int32) (a3 : Int32) (μ : Mem) {μz : Mem} (h : p_X9_addInstruction RE a2 a3 μ = some μz) : M2 sq sv l yX9_addInstruction cX9_addInstruction 5 none ({ frames := fE + 4, cells := 0, slots := 0, locals := lE + 95 } : Room) G [.ref (ad 159), .ref (ad 39), .int a2, .int a3] (wd 0 G ad μ) (eV 0 G ad μz) := by
  refine B2.mt (by decide) rfl (Nat.le_of_ble_eq_true rfl) ?_
  intro p e s m below meth c A ls H locs cx hr hlk hA hl hw hs
  have hx := cx.1
  have hb := cx.2.1
  have hl : lv_has ls 5 [(0, .ref (ad 159)), (1, .ref (ad 39)), (2, .int a2), (3, .int a3)] := hl
  rw [p_X9_addInstruction_eq] at h
  refine lv_aload_n hx hb dX9_addInstruction_0 rfl (lv_at hl 1 rfl) ?_
  refine lv_iload_n hx hb dX9_addInstruction_1 rfl (lv_at hl 2 rfl) ?_
  refine lv_iconst (v := 0) hx hb dX9_addInstruction_2 (by decide) ?_
  obtain ⟨r2, μ1, gr2, h⟩ := bd_some h
  refine g_callVI (As := [.int a2, .int 0]) (rest := []) cx hw hA (t_X5_cell l G ad a2 (0 : Int32) μ gr2) shx_39 rfl ml_X9_88 im_X5_cell se_X5_cell in_X5 co_X5_cell rfl hd_X5_cell rfl ⟨(by dsimp only; omega), (by dsimp only; omega)⟩ hl.1 rfl (Nat.le_of_ble_eq_true rfl) dX9_addInstruction_3 ⟨rfl, rfl⟩ (fun H locs hw => ?_)
  refine lv_istore (lv' := [(4, .int r2), (0, .ref (ad 159)), (1, .ref (ad 39)), (2, .int a2), (3, .int a3)]) hx hb dX9_addInstruction_6 hl (by decide) rfl (fun ls hl => ?_)
  refine lv_iload hx hb dX9_addInstruction_8 (lv_at hl 0 rfl) ?_
  refine lv_bipush (v := 7) hx hb dX9_addInstruction_10 (by decide) ?_
  refine lv_icmp_eq (tgt := 35) hx hb dX9_addInstruction_12 (by decide) (fun c3 => ?_) (fun c3 => ?_)
  · rw [if_pos c3] at h
    exact t_X9_addInstruction_b35 sq sv l G ad _ RE hRE a2 a3 r2 μ1 h p e s m below meth c A ls H locs cx hr hlk hA (lv_sub hl [1, 2, 3, 4, 0] rfl) hw hs
  · rw [if_neg c3] at h
    refine lv_aload_n hx hb dX9_addInstruction_15 rfl (lv_at hl 1 rfl) ?_
    refine lv_iconst (v := 3) hx hb dX9_addInstruction_16 (by decide) ?_
    refine lv_aload_n hx hb dX9_addInstruction_17 rfl (lv_at hl 2 rfl) ?_
    refine lv_iload_n hx hb dX9_addInstruction_18 rfl (lv_at hl 3 rfl) ?_
    refine lv_iconst (v := 1) hx hb dX9_addInstruction_19 (by decide) ?_
    obtain ⟨r74, μ73, gr74, h⟩ := bd_some h
    refine g_callVI (As := [.int a2, .int 1]) (rest := [.int 3, .ref (ad 159)]) cx hw hA (t_X5_cell l G ad a2 (1 : Int32) μ1 gr74) shx_39 rfl ml_X9_88 im_X5_cell se_X5_cell in_X5 co_X5_cell rfl hd_X5_cell rfl ⟨(by dsimp only; omega), (by dsimp only; omega)⟩ hl.1 rfl (Nat.le_of_ble_eq_true rfl) dX9_addInstruction_20 ⟨rfl, rfl⟩ (fun H locs hw => ?_)
    refine s_callL (As := [.int 3, .int r74]) (rest := [.ref (ad 159)]) cx hw hA (t_X0_make l G (3 : Int32) r74) ml_X9_95 st_X0_make in_X0 co_X0_make hd_X0_make rfl ⟨(by dsimp only; omega), (by dsimp only; omega)⟩ hl.1 rfl (Nat.le_of_ble_eq_true rfl) dX9_addInstruction_23 rfl (fun H locs hw => ?_)
    obtain ⟨μ75, gμ75, h⟩ := bw_some h
    refine g_callVV (As := [.long (s_X0_make (3 : Int32) r74)]) (rest := []) cx hw hA (t_X9_addSymbol l G ad (s_X0_make (3 : Int32) r74) μ73 gμ75) shx_159 rfl ml_X9_77 im_X9_addSymbol se_X9_addSymbol in_X9 co_X9_addSymbol rfl hd_X9_addSymbol rfl ⟨(by dsimp only; omega), (by dsimp only; omega)⟩ hl.1 rfl (Nat.le_of_ble_eq_true rfl) dX9_addInstruction_26 ⟨rfl, rfl⟩ (fun H locs hw => ?_)
    refine lv_aload_n hx hb dX9_addInstruction_29 rfl (lv_at hl 1 rfl) ?_
    refine lv_bipush (v := 61) hx hb dX9_addInstruction_30 (by decide) ?_
    obtain ⟨μ77, gμ77, h⟩ := bw_some h
    refine g_callVV (As := [.int 61]) (rest := []) cx hw hA (t_X9_add l G ad (61 : Int32) μ75 gμ77) shx_159 rfl ml_X9_34 im_X9_add se_X9_add in_X9 co_X9_add rfl hd_X9_add rfl ⟨(by dsimp only; omega), (by dsimp only; omega)⟩ hl.1 rfl (Nat.le_of_ble_eq_true rfl) dX9_addInstruction_32 ⟨rfl, rfl⟩ (fun H locs hw => ?_)
    exact t_X9_addInstruction_b35 sq sv l G ad _ RE hRE a2 a3 r2 μ77 h p e s m below meth c A ls H locs cx hr hlk hA (lv_sub hl [1, 2, 3, 4, 0] rfl) hw hs

theorem p_X9_addBlock_b10_ex : ∃ f : (Int32 → Int32 → Mem → Option Mem) → Nat → Int32 → Int32 → Int32 → Int32 → Mem → Option Mem, (∀ (RE : Int32 → Int32 → Mem → Option Mem) (a2 : Int32) (a3 : Int32) (a4 : Int32) (a5 : Int32) (μ : Mem), f RE 0 a2 a3 a4 a5 μ = none) ∧ (∀ (RE : Int32 → Int32 → Mem → Option Mem) (n : Nat) (a2 : Int32) (a3 : Int32) (a4 : Int32) (a5 : Int32) (μ : Mem), f RE (n + 1) a2 a3 a4 a5 μ = (if (300 : Int32) ≤ a5 then bd (p_X5_endOf a2 μ) (fun r5 μ4 => bw (p_X9_addSymbol r5 μ4) (fun μ6 => some μ6)) else (if a4 = (-1 : Int32) then bd (p_X5_endOf a2 μ) (fun r10 μ9 => bw (p_X9_addSymbol r10 μ9) (fun μ11 => some μ11)) else (if (45 : Int32) ≤ a3 then bd (p_X5_endOf a2 μ) (fun r15 μ14 => bw (p_X9_addSymbol r15 μ14) (fun μ16 => some μ16)) else bw (p_X9_addInstruction RE a4 a3 μ) (fun μ18 => bw (p_X9_add (59 : Int32) μ18) (fun μ20 => bd (p_X5_cell a4 (5 : Int32) μ20) (fun r23 μ22 => bv (a5 + 1) (fun v24 => f RE n a2 a3 r23 v24 μ22)))))))) := ⟨fun (RE : Int32 → Int32 → Mem → Option Mem) n => Nat.rec (fun (a2 : Int32) (a3 : Int32) (a4 : Int32) (a5 : Int32) (μ : Mem) => none) (fun _ ih => fun (a2 : Int32) (a3 : Int32) (a4 : Int32) (a5 : Int32) (μ : Mem) => (if (300 : Int32) ≤ a5 then bd (p_X5_endOf a2 μ) (fun r5 μ4 => bw (p_X9_addSymbol r5 μ4) (fun μ6 => some μ6)) else (if a4 = (-1 : Int32) then bd (p_X5_endOf a2 μ) (fun r10 μ9 => bw (p_X9_addSymbol r10 μ9) (fun μ11 => some μ11)) else (if (45 : Int32) ≤ a3 then bd (p_X5_endOf a2 μ) (fun r15 μ14 => bw (p_X9_addSymbol r15 μ14) (fun μ16 => some μ16)) else bw (p_X9_addInstruction RE a4 a3 μ) (fun μ18 => bw (p_X9_add (59 : Int32) μ18) (fun μ20 => bd (p_X5_cell a4 (5 : Int32) μ20) (fun r23 μ22 => bv (a5 + 1) (fun v24 => ih a2 a3 r23 v24 μ22)))))))) n, fun _ _ _ _ _ _ => rfl, fun _ _ _ _ _ _ _ => rfl⟩
noncomputable def p_X9_addBlock_b10 : (Int32 → Int32 → Mem → Option Mem) → Nat → Int32 → Int32 → Int32 → Int32 → Mem → Option Mem := Classical.choose p_X9_addBlock_b10_ex
theorem p_X9_addBlock_b10_z (RE : Int32 → Int32 → Mem → Option Mem) (a2 : Int32) (a3 : Int32) (a4 : Int32) (a5 : Int32) (μ : Mem) : p_X9_addBlock_b10 RE 0 a2 a3 a4 a5 μ = none := (Classical.choose_spec p_X9_addBlock_b10_ex).1 RE a2 a3 a4 a5 μ
theorem p_X9_addBlock_b10_s (RE : Int32 → Int32 → Mem → Option Mem) (n : Nat) (a2 : Int32) (a3 : Int32) (a4 : Int32) (a5 : Int32) (μ : Mem) : p_X9_addBlock_b10 RE (n + 1) a2 a3 a4 a5 μ = (if (300 : Int32) ≤ a5 then bd (p_X5_endOf a2 μ) (fun r5 μ4 => bw (p_X9_addSymbol r5 μ4) (fun μ6 => some μ6)) else (if a4 = (-1 : Int32) then bd (p_X5_endOf a2 μ) (fun r10 μ9 => bw (p_X9_addSymbol r10 μ9) (fun μ11 => some μ11)) else (if (45 : Int32) ≤ a3 then bd (p_X5_endOf a2 μ) (fun r15 μ14 => bw (p_X9_addSymbol r15 μ14) (fun μ16 => some μ16)) else bw (p_X9_addInstruction RE a4 a3 μ) (fun μ18 => bw (p_X9_add (59 : Int32) μ18) (fun μ20 => bd (p_X5_cell a4 (5 : Int32) μ20) (fun r23 μ22 => bv (a5 + 1) (fun v24 => p_X9_addBlock_b10 RE n a2 a3 r23 v24 μ22))))))) := (Classical.choose_spec p_X9_addBlock_b10_ex).2 RE n a2 a3 a4 a5 μ
set_option maxHeartbeats 4000000 in
set_option maxRecDepth 100000 in
theorem t_X9_addBlock_b10 (sq sv : Nat) (l : Launch) (G : Gt) (ad : Nat → Nat) (av : List Value) {μz : Mem} {fE lE : Nat} (RE : Int32 → Int32 → Mem → Option Mem) (hRE : ∀ (z2 : Int32) (z3 : Int32) (μ1 : Mem) (μ2 : Mem), RE z2 z3 μ1 = some μ2 → M2 sq sv l yX9_addBlock cX9_addBlock 6 none ({ frames := fE, cells := 0, slots := 0, locals := lE } : Room) G [.ref (ad 159), .ref (ad 39), .int z2, .int z3] (wd 0 G ad μ1) (eV 0 G ad μ2)) : ∀ (n : Nat) (a2 : Int32) (a3 : Int32) (a4 : Int32) (a5 : Int32) (μ : Mem), p_X9_addBlock_b10 RE n a2 a3 a4 a5 μ = some μz → B2 sq sv l cX9_addBlock 6 RX9 none ({ frames := fE + 5, cells := 0, slots := 0, locals := lE + 119 } : Room) G av (eV 0 G ad μz) (wd 0 G ad μ) 10 [(0, .ref (ad 159)), (1, .ref (ad 39)), (2, .int a2), (3, .int a3), (4, .int a4), (5, .int a5)] [] := by
  intro n
  induction n with
  | zero => intro a2 a3 a4 a5 μ h; rw [p_X9_addBlock_b10_z] at h; cases h
  | succ n ih =>
    intro a2 a3 a4 a5 μ h p e s m below meth c A ls H locs cx hr hlk hA hl hw hs
    have hx := cx.1
    have hb := cx.2.1
    rw [p_X9_addBlock_b10_s] at h
    refine lv_iload hx hb dX9_addBlock_10 (lv_at hl 5 rfl) ?_
    refine lv_sipush (v := 300) hx hb dX9_addBlock_12 (by decide) ?_
    refine lv_icmp_ge (tgt := 59) hx hb dX9_addBlock_15 (by decide) (fun c3 => ?_) (fun c3 => ?_)
    · rw [if_pos c3] at h
      refine lv_aload_n hx hb dX9_addBlock_59 rfl (lv_at hl 0 rfl) ?_
      refine lv_aload_n hx hb dX9_addBlock_60 rfl (lv_at hl 1 rfl) ?_
      refine lv_iload_n hx hb dX9_addBlock_61 rfl (lv_at hl 2 rfl) ?_
      obtain ⟨r5, μ4, gr5, h⟩ := bd_some h
      refine g_callVL (As := [.int a2]) (rest := [.ref (ad 159)]) cx hw hA (t_X5_endOf l G ad a2 μ gr5) shx_39 rfl ml_X9_91 im_X5_endOf se_X5_endOf in_X5 co_X5_endOf rfl hd_X5_endOf rfl ⟨(by dsimp only; omega), (by dsimp only; omega)⟩ hl.1 rfl (Nat.le_of_ble_eq_true rfl) dX9_addBlock_62 ⟨rfl, rfl⟩ (fun H locs hw => ?_)
      obtain ⟨μ6, gμ6, h⟩ := bw_some h
      refine g_callVV (As := [.long r5]) (rest := []) cx hw hA (t_X9_addSymbol l G ad r5 μ4 gμ6) shx_159 rfl ml_X9_77 im_X9_addSymbol se_X9_addSymbol in_X9 co_X9_addSymbol rfl hd_X9_addSymbol rfl ⟨(by dsimp only; omega), (by dsimp only; omega)⟩ hl.1 rfl (Nat.le_of_ble_eq_true rfl) dX9_addBlock_65 ⟨rfl, rfl⟩ (fun H locs hw => ?_)
      exact g_vret cx hr hlk hw h dX9_addBlock_68
    · rw [if_neg c3] at h
      refine lv_iload hx hb dX9_addBlock_18 (lv_at hl 4 rfl) ?_
      refine lv_iconst (v := (-1)) hx hb dX9_addBlock_20 (by decide) ?_
      refine lv_icmp_eq (tgt := 59) hx hb dX9_addBlock_21 (by decide) (fun c8 => ?_) (fun c8 => ?_)
      · rw [if_pos c8] at h
        refine lv_aload_n hx hb dX9_addBlock_59 rfl (lv_at hl 0 rfl) ?_
        refine lv_aload_n hx hb dX9_addBlock_60 rfl (lv_at hl 1 rfl) ?_
        refine lv_iload_n hx hb dX9_addBlock_61 rfl (lv_at hl 2 rfl) ?_
        obtain ⟨r10, μ9, gr10, h⟩ := bd_some h
        refine g_callVL (As := [.int a2]) (rest := [.ref (ad 159)]) cx hw hA (t_X5_endOf l G ad a2 μ gr10) shx_39 rfl ml_X9_91 im_X5_endOf se_X5_endOf in_X5 co_X5_endOf rfl hd_X5_endOf rfl ⟨(by dsimp only; omega), (by dsimp only; omega)⟩ hl.1 rfl (Nat.le_of_ble_eq_true rfl) dX9_addBlock_62 ⟨rfl, rfl⟩ (fun H locs hw => ?_)
        obtain ⟨μ11, gμ11, h⟩ := bw_some h
        refine g_callVV (As := [.long r10]) (rest := []) cx hw hA (t_X9_addSymbol l G ad r10 μ9 gμ11) shx_159 rfl ml_X9_77 im_X9_addSymbol se_X9_addSymbol in_X9 co_X9_addSymbol rfl hd_X9_addSymbol rfl ⟨(by dsimp only; omega), (by dsimp only; omega)⟩ hl.1 rfl (Nat.le_of_ble_eq_true rfl) dX9_addBlock_65 ⟨rfl, rfl⟩ (fun H locs hw => ?_)
        exact g_vret cx hr hlk hw h dX9_addBlock_68
      · rw [if_neg c8] at h
        refine lv_iload_n hx hb dX9_addBlock_24 rfl (lv_at hl 3 rfl) ?_
        refine lv_bipush (v := 45) hx hb dX9_addBlock_25 (by decide) ?_
        refine lv_icmp_ge (tgt := 59) hx hb dX9_addBlock_27 (by decide) (fun c13 => ?_) (fun c13 => ?_)
        · rw [if_pos c13] at h
          refine lv_aload_n hx hb dX9_addBlock_59 rfl (lv_at hl 0 rfl) ?_
          refine lv_aload_n hx hb dX9_addBlock_60 rfl (lv_at hl 1 rfl) ?_
          refine lv_iload_n hx hb dX9_addBlock_61 rfl (lv_at hl 2 rfl) ?_
          obtain ⟨r15, μ14, gr15, h⟩ := bd_some h
          refine g_callVL (As := [.int a2]) (rest := [.ref (ad 159)]) cx hw hA (t_X5_endOf l G ad a2 μ gr15) shx_39 rfl ml_X9_91 im_X5_endOf se_X5_endOf in_X5 co_X5_endOf rfl hd_X5_endOf rfl ⟨(by dsimp only; omega), (by dsimp only; omega)⟩ hl.1 rfl (Nat.le_of_ble_eq_true rfl) dX9_addBlock_62 ⟨rfl, rfl⟩ (fun H locs hw => ?_)
          obtain ⟨μ16, gμ16, h⟩ := bw_some h
          refine g_callVV (As := [.long r15]) (rest := []) cx hw hA (t_X9_addSymbol l G ad r15 μ14 gμ16) shx_159 rfl ml_X9_77 im_X9_addSymbol se_X9_addSymbol in_X9 co_X9_addSymbol rfl hd_X9_addSymbol rfl ⟨(by dsimp only; omega), (by dsimp only; omega)⟩ hl.1 rfl (Nat.le_of_ble_eq_true rfl) dX9_addBlock_65 ⟨rfl, rfl⟩ (fun H locs hw => ?_)
          exact g_vret cx hr hlk hw h dX9_addBlock_68
        · rw [if_neg c13] at h
          refine lv_aload_n hx hb dX9_addBlock_30 rfl (lv_at hl 0 rfl) ?_
          refine lv_aload_n hx hb dX9_addBlock_31 rfl (lv_at hl 1 rfl) ?_
          refine lv_iload hx hb dX9_addBlock_32 (lv_at hl 4 rfl) ?_
          refine lv_iload_n hx hb dX9_addBlock_34 rfl (lv_at hl 3 rfl) ?_
          obtain ⟨μ18, gμ18, h⟩ := bw_some h
          refine h_callVV (As := [.ref (ad 39), .int a4, .int a3]) (rest := []) cx hw hA hs (t_X9_addInstruction sq sv l G ad RE hRE a4 a3 μ gμ18) shx_159 rfl ml_X9_85 im_X9_addInstruction se_X9_addInstruction in_X9 co_X9_addInstruction rfl hd_X9_addInstruction rfl ⟨(by dsimp only; omega), (by dsimp only; omega)⟩ hl.1 rfl (Nat.le_of_ble_eq_true rfl) dX9_addBlock_35 ⟨rfl, rfl⟩ (fun H locs hw => ?_)
          refine lv_aload_n hx hb dX9_addBlock_38 rfl (lv_at hl 0 rfl) ?_
          refine lv_bipush (v := 59) hx hb dX9_addBlock_39 (by decide) ?_
          obtain ⟨μ20, gμ20, h⟩ := bw_some h
          refine g_callVV (As := [.int 59]) (rest := []) cx hw hA (t_X9_add l G ad (59 : Int32) μ18 gμ20) shx_159 rfl ml_X9_34 im_X9_add se_X9_add in_X9 co_X9_add rfl hd_X9_add rfl ⟨(by dsimp only; omega), (by dsimp only; omega)⟩ hl.1 rfl (Nat.le_of_ble_eq_true rfl) dX9_addBlock_41 ⟨rfl, rfl⟩ (fun H locs hw => ?_)
          refine lv_aload_n hx hb dX9_addBlock_44 rfl (lv_at hl 1 rfl) ?_
          refine lv_iload hx hb dX9_addBlock_45 (lv_at hl 4 rfl) ?_
          refine lv_iconst (v := 5) hx hb dX9_addBlock_47 (by decide) ?_
          obtain ⟨r23, μ22, gr23, h⟩ := bd_some h
          refine g_callVI (As := [.int a4, .int 5]) (rest := []) cx hw hA (t_X5_cell l G ad a4 (5 : Int32) μ20 gr23) shx_39 rfl ml_X9_88 im_X5_cell se_X5_cell in_X5 co_X5_cell rfl hd_X5_cell rfl ⟨(by dsimp only; omega), (by dsimp only; omega)⟩ hl.1 rfl (Nat.le_of_ble_eq_true rfl) dX9_addBlock_48 ⟨rfl, rfl⟩ (fun H locs hw => ?_)
          refine lv_istore (lv' := [(4, .int r23), (0, .ref (ad 159)), (1, .ref (ad 39)), (2, .int a2), (3, .int a3), (5, .int a5)]) hx hb dX9_addBlock_51 hl (by decide) rfl (fun ls hl => ?_)
          obtain ⟨v24, ev24, h⟩ := bv_ex h
          refine lv_iinc (v := v24) (lv' := [(5, .int v24), (4, .int r23), (0, .ref (ad 159)), (1, .ref (ad 39)), (2, .int a2), (3, .int a3)]) hx hb dX9_addBlock_53 hl (k := 5) rfl (by rw [ev24]; rfl) (by decide) rfl (fun ls hl => ?_)
          refine lv_goto (tgt := 10) hx hb dX9_addBlock_56 (by decide) ?_
          exact ih a2 a3 r23 v24 μ22 h p e s m below meth c A ls H locs cx hr hlk hA (lv_sub hl [2, 3, 4, 5, 1, 0] rfl) hw hs
theorem p_X9_addBlock_ex : ∃ f : (Int32 → Int32 → Mem → Option Mem) → Int32 → Int32 → Mem → Option Mem, ∀ (RE : Int32 → Int32 → Mem → Option Mem) (a2 : Int32) (a3 : Int32) (μ : Mem), f  RE a2 a3 μ = bd (p_X5_firstOf a2 μ) (fun r2 μ1 => p_X9_addBlock_b10 RE FUEL a2 a3 r2 (0 : Int32) μ1) := ⟨fun (RE : Int32 → Int32 → Mem → Option Mem) (a2 : Int32) (a3 : Int32) (μ : Mem) => bd (p_X5_firstOf a2 μ) (fun r2 μ1 => p_X9_addBlock_b10 RE FUEL a2 a3 r2 (0 : Int32) μ1), fun _ _ _ _ => rfl⟩
noncomputable def p_X9_addBlock : (Int32 → Int32 → Mem → Option Mem) → Int32 → Int32 → Mem → Option Mem := Classical.choose p_X9_addBlock_ex
theorem p_X9_addBlock_eq (RE : Int32 → Int32 → Mem → Option Mem) (a2 : Int32) (a3 : Int32) (μ : Mem) : p_X9_addBlock  RE a2 a3 μ = bd (p_X5_firstOf a2 μ) (fun r2 μ1 => p_X9_addBlock_b10 RE FUEL a2 a3 r2 (0 : Int32) μ1) := Classical.choose_spec p_X9_addBlock_ex  RE a2 a3 μ
set_option maxHeartbeats 4000000 in
set_option maxRecDepth 100000 in
theorem t_X9_addBlock (sq sv : Nat) (l : Launch) (G : Gt) (ad : Nat → Nat) {fE lE : Nat} (RE : Int32 → Int32 → Mem → Option Mem) (hRE : ∀ (z2 : Int32) (z3 : Int32) (μ1 : Mem) (μ2 : Mem), RE z2 z3 μ1 = some μ2 → M2 sq sv l yX9_addBlock cX9_addBlock 6 none ({ frames := fE, cells := 0, slots := 0, locals := lE } : Room) G [.ref (ad 159), .ref (ad 39), .int z2, .int z3] (wd 0 G ad μ1) (eV 0 G ad μ2)) (a2 : Int32) (a3 : Int32) (μ : Mem) {μz : Mem} (h : p_X9_addBlock RE a2 a3 μ = some μz) : M2 sq sv l yX9_addBlock cX9_addBlock 6 none ({ frames := fE + 5, cells := 0, slots := 0, locals := lE + 119 } : Room) G [.ref (ad 159), .ref (ad 39), .int a2, .int a3] (wd 0 G ad μ) (eV 0 G ad μz) := by
  refine B2.mt (by decide) rfl (Nat.le_of_ble_eq_true rfl) ?_
  intro p e s m below meth c A ls H locs cx hr hlk hA hl hw hs
  have hx := cx.1
  have hb := cx.2.1
  have hl : lv_has ls 6 [(0, .ref (ad 159)), (1, .ref (ad 39)), (2, .int a2), (3, .int a3)] := hl
  rw [p_X9_addBlock_eq] at h
  refine lv_aload_n hx hb dX9_addBlock_0 rfl (lv_at hl 1 rfl) ?_
  refine lv_iload_n hx hb dX9_addBlock_1 rfl (lv_at hl 2 rfl) ?_
  obtain ⟨r2, μ1, gr2, h⟩ := bd_some h
  refine g_callVI (As := [.int a2]) (rest := []) cx hw hA (t_X5_firstOf l G ad a2 μ gr2) shx_39 rfl ml_X9_81 im_X5_firstOf se_X5_firstOf in_X5 co_X5_firstOf rfl hd_X5_firstOf rfl ⟨(by dsimp only; omega), (by dsimp only; omega)⟩ hl.1 rfl (Nat.le_of_ble_eq_true rfl) dX9_addBlock_2 ⟨rfl, rfl⟩ (fun H locs hw => ?_)
  refine lv_istore (lv' := [(4, .int r2), (0, .ref (ad 159)), (1, .ref (ad 39)), (2, .int a2), (3, .int a3)]) hx hb dX9_addBlock_5 hl (by decide) rfl (fun ls hl => ?_)
  refine lv_iconst (v := 0) hx hb dX9_addBlock_7 (by decide) ?_
  refine lv_istore (lv' := [(5, .int 0), (4, .int r2), (0, .ref (ad 159)), (1, .ref (ad 39)), (2, .int a2), (3, .int a3)]) hx hb dX9_addBlock_8 hl (by decide) rfl (fun ls hl => ?_)
  exact t_X9_addBlock_b10 sq sv l G ad _ RE hRE FUEL a2 a3 r2 (0 : Int32) μ1 h p e s m below meth c A ls H locs cx hr hlk hA (lv_sub hl [2, 3, 4, 5, 1, 0] rfl) hw hs
theorem pr_X9_addBlock_ex : ∃ f : Nat → Int32 → Int32 → Mem → Option Mem, (∀ (a2 : Int32) (a3 : Int32) μ, f 0 a2 a3 μ = none) ∧ (∀ n (a2 : Int32) (a3 : Int32) μ, f (n + 1) a2 a3 μ = p_X9_addBlock (f n) a2 a3 μ) := ⟨fun n => Nat.rec (fun (a2 : Int32) (a3 : Int32) _ => none) (fun _ ih => fun (a2 : Int32) (a3 : Int32) μ => p_X9_addBlock ih a2 a3 μ) n, fun _ _ _ => rfl, fun _ _ _ _ => rfl⟩
noncomputable def pr_X9_addBlock : Nat → Int32 → Int32 → Mem → Option Mem := Classical.choose pr_X9_addBlock_ex
theorem pr_X9_addBlock_z (a2 : Int32) (a3 : Int32) (μ : Mem) : pr_X9_addBlock 0 a2 a3 μ = none := (Classical.choose_spec pr_X9_addBlock_ex).1 a2 a3 μ
theorem pr_X9_addBlock_s (n : Nat) (a2 : Int32) (a3 : Int32) (μ : Mem) : pr_X9_addBlock (n + 1) a2 a3 μ = p_X9_addBlock (pr_X9_addBlock n) a2 a3 μ := (Classical.choose_spec pr_X9_addBlock_ex).2 n a2 a3 μ
theorem tpr_X9_addBlock (sq sv : Nat) (l : Launch) (G : Gt) (ad : Nat → Nat) : ∀ (n : Nat) (a2 : Int32) (a3 : Int32) (μ : Mem) {μz : Mem}, pr_X9_addBlock n a2 a3 μ = some μz → M2 sq sv l yX9_addBlock cX9_addBlock 6 none ({ frames := n * 5, cells := 0, slots := 0, locals := n * 119 } : Room) G [.ref (ad 159), .ref (ad 39), .int a2, .int a3] (wd 0 G ad μ) (eV 0 G ad μz) := by
  intro n
  induction n with
  | zero => intro a2 a3 μ μz h; rw [pr_X9_addBlock_z] at h; cases h
  | succ n ih =>
    intro a2 a3 μ μz h
    rw [pr_X9_addBlock_s] at h
    have e1 : (n + 1) * 5 = n * 5 + 5 := Nat.succ_mul n 5
    have e2 : (n + 1) * 119 = n * 119 + 119 := Nat.succ_mul n 119
    rw [e1, e2]
    exact t_X9_addBlock sq sv l G ad (pr_X9_addBlock n) (fun a2 a3 μ1 μ2 hh => ih a2 a3 μ1 hh) a2 a3 μ h

theorem p_X9_writeVariant_ex : ∃ f : Int32 → Mem → Option (Int32 × Mem), ∀ (a2 : Int32) (μ : Mem), f a2 μ = bv (sF μ 159 1 (0 : Int32)) (fun μ1 => bd (p_X5_patternOf a2 μ1) (fun r3 μ2 => bw (p_X9_addPatterns r3 μ2) (fun μ4 => bw (p_X9_add (61 : Int32) μ4) (fun μ6 => bd (p_X5_ofVariant a2 (3 : Int32) μ6) (fun r9 μ8 => bw (pr_X9_addBlock 50 r9 (0 : Int32) μ8) (fun μ10 => bw (p_X9_add (59 : Int32) μ10) (fun μ12 => some ((μ12.1 159 1), μ12)))))))) := ⟨fun (a2 : Int32) (μ : Mem) => bv (sF μ 159 1 (0 : Int32)) (fun μ1 => bd (p_X5_patternOf a2 μ1) (fun r3 μ2 => bw (p_X9_addPatterns r3 μ2) (fun μ4 => bw (p_X9_add (61 : Int32) μ4) (fun μ6 => bd (p_X5_ofVariant a2 (3 : Int32) μ6) (fun r9 μ8 => bw (pr_X9_addBlock 50 r9 (0 : Int32) μ8) (fun μ10 => bw (p_X9_add (59 : Int32) μ10) (fun μ12 => some ((μ12.1 159 1), μ12)))))))), fun _ _ => rfl⟩
noncomputable def p_X9_writeVariant : Int32 → Mem → Option (Int32 × Mem) := Classical.choose p_X9_writeVariant_ex
theorem p_X9_writeVariant_eq (a2 : Int32) (μ : Mem) : p_X9_writeVariant a2 μ = bv (sF μ 159 1 (0 : Int32)) (fun μ1 => bd (p_X5_patternOf a2 μ1) (fun r3 μ2 => bw (p_X9_addPatterns r3 μ2) (fun μ4 => bw (p_X9_add (61 : Int32) μ4) (fun μ6 => bd (p_X5_ofVariant a2 (3 : Int32) μ6) (fun r9 μ8 => bw (pr_X9_addBlock 50 r9 (0 : Int32) μ8) (fun μ10 => bw (p_X9_add (59 : Int32) μ10) (fun μ12 => some ((μ12.1 159 1), μ12)))))))) := Classical.choose_spec p_X9_writeVariant_ex a2 μ
set_option maxHeartbeats 4000000 in
set_option maxRecDepth 100000 in
theorem t_X9_writeVariant (sq sv : Nat) (l : Launch) (G : Gt) (ad : Nat → Nat) (a2 : Int32) (μ : Mem) {r : Int32} {μz : Mem} (h : p_X9_writeVariant a2 μ = some (r, μz)) : M2 sq sv l yX9_writeVariant cX9_writeVariant 3 (some .int) ({ frames := 251, cells := 0, slots := 0, locals := 5975 } : Room) G [.ref (ad 159), .ref (ad 39), .int a2] (wd 0 G ad μ) (eI 0 G ad r μz) := by
  refine B2.mt (by decide) rfl (Nat.le_of_ble_eq_true rfl) ?_
  intro p e s m below meth c A ls H locs cx hr hlk hA hl hw hs
  have hx := cx.1
  have hb := cx.2.1
  have hl : lv_has ls 3 [(0, .ref (ad 159)), (1, .ref (ad 39)), (2, .int a2)] := hl
  rw [p_X9_writeVariant_eq] at h
  refine lv_aload_n hx hb dX9_writeVariant_0 rfl (lv_at hl 0 rfl) ?_
  refine lv_iconst (v := 0) hx hb dX9_writeVariant_1 (by decide) ?_
  refine g_put cx hw inX9 (ci := 8) rfl tyX9_ok nmX9 1 (by decide) rfl rfl rfl rfl shx_159 h fl_X9_16 dX9_writeVariant_2 (fun μ1 H locs h hw => ?_)
  refine lv_aload_n hx hb dX9_writeVariant_5 rfl (lv_at hl 0 rfl) ?_
  refine lv_aload_n hx hb dX9_writeVariant_6 rfl (lv_at hl 1 rfl) ?_
  refine lv_iload_n hx hb dX9_writeVariant_7 rfl (lv_at hl 2 rfl) ?_
  obtain ⟨r3, μ2, gr3, h⟩ := bd_some h
  refine g_callVR (As := [.int a2]) (rest := [.ref (ad 159)]) cx hw hA (t_X5_patternOf l G ad a2 μ1 gr3) shx_39 rfl ml_X9_24 im_X5_patternOf se_X5_patternOf in_X5 co_X5_patternOf rfl hd_X5_patternOf rfl ⟨(Nat.le_of_ble_eq_true rfl), (Nat.le_of_ble_eq_true rfl)⟩ hl.1 rfl (Nat.le_of_ble_eq_true rfl) dX9_writeVariant_8 ⟨rfl, rfl⟩ (fun H locs hw => ?_)
  have qr3 : sh 0 r3 = (0, 1) := p_X5_patternOf_sh gr3
  obtain ⟨μ4, gμ4, h⟩ := bw_some h
  refine g_callVV (As := [.ref (ad r3)]) (rest := []) cx hw hA (t_X9_addPatterns l G ad r3 qr3 μ2 gμ4) shx_159 rfl ml_X9_30 im_X9_addPatterns se_X9_addPatterns in_X9 co_X9_addPatterns rfl hd_X9_addPatterns rfl ⟨(Nat.le_of_ble_eq_true rfl), (Nat.le_of_ble_eq_true rfl)⟩ hl.1 rfl (Nat.le_of_ble_eq_true rfl) dX9_writeVariant_11 ⟨rfl, rfl⟩ (fun H locs hw => ?_)
  refine lv_aload_n hx hb dX9_writeVariant_14 rfl (lv_at hl 0 rfl) ?_
  refine lv_bipush (v := 61) hx hb dX9_writeVariant_15 (by decide) ?_
  obtain ⟨μ6, gμ6, h⟩ := bw_some h
  refine g_callVV (As := [.int 61]) (rest := []) cx hw hA (t_X9_add l G ad (61 : Int32) μ4 gμ6) shx_159 rfl ml_X9_34 im_X9_add se_X9_add in_X9 co_X9_add rfl hd_X9_add rfl ⟨(Nat.le_of_ble_eq_true rfl), (Nat.le_of_ble_eq_true rfl)⟩ hl.1 rfl (Nat.le_of_ble_eq_true rfl) dX9_writeVariant_17 ⟨rfl, rfl⟩ (fun H locs hw => ?_)
  refine lv_aload_n hx hb dX9_writeVariant_20 rfl (lv_at hl 0 rfl) ?_
  refine lv_aload_n hx hb dX9_writeVariant_21 rfl (lv_at hl 1 rfl) ?_
  refine lv_aload_n hx hb dX9_writeVariant_22 rfl (lv_at hl 1 rfl) ?_
  refine lv_iload_n hx hb dX9_writeVariant_23 rfl (lv_at hl 2 rfl) ?_
  refine lv_iconst (v := 3) hx hb dX9_writeVariant_24 (by decide) ?_
  obtain ⟨r9, μ8, gr9, h⟩ := bd_some h
  refine g_callVI (As := [.int a2, .int 3]) (rest := [.ref (ad 39), .ref (ad 159)]) cx hw hA (t_X5_ofVariant l G ad a2 (3 : Int32) μ6 gr9) shx_39 rfl ml_X9_38 im_X5_ofVariant se_X5_ofVariant in_X5 co_X5_ofVariant rfl hd_X5_ofVariant rfl ⟨(Nat.le_of_ble_eq_true rfl), (Nat.le_of_ble_eq_true rfl)⟩ hl.1 rfl (Nat.le_of_ble_eq_true rfl) dX9_writeVariant_25 ⟨rfl, rfl⟩ (fun H locs hw => ?_)
  refine lv_iconst (v := 0) hx hb dX9_writeVariant_28 (by decide) ?_
  obtain ⟨μ10, gμ10, h⟩ := bw_some h
  refine h_callVV (As := [.ref (ad 39), .int r9, .int 0]) (rest := []) cx hw hA hs (tpr_X9_addBlock sq sv l G ad 50 r9 (0 : Int32) μ8 gμ10) shx_159 rfl ml_X9_42 im_X9_addBlock se_X9_addBlock in_X9 co_X9_addBlock rfl hd_X9_addBlock rfl ⟨(Nat.le_of_ble_eq_true rfl), (Nat.le_of_ble_eq_true rfl)⟩ hl.1 rfl (Nat.le_of_ble_eq_true rfl) dX9_writeVariant_29 ⟨rfl, rfl⟩ (fun H locs hw => ?_)
  refine lv_aload_n hx hb dX9_writeVariant_32 rfl (lv_at hl 0 rfl) ?_
  refine lv_bipush (v := 59) hx hb dX9_writeVariant_33 (by decide) ?_
  obtain ⟨μ12, gμ12, h⟩ := bw_some h
  refine g_callVV (As := [.int 59]) (rest := []) cx hw hA (t_X9_add l G ad (59 : Int32) μ10 gμ12) shx_159 rfl ml_X9_34 im_X9_add se_X9_add in_X9 co_X9_add rfl hd_X9_add rfl ⟨(Nat.le_of_ble_eq_true rfl), (Nat.le_of_ble_eq_true rfl)⟩ hl.1 rfl (Nat.le_of_ble_eq_true rfl) dX9_writeVariant_35 ⟨rfl, rfl⟩ (fun H locs hw => ?_)
  refine lv_aload_n hx hb dX9_writeVariant_38 rfl (lv_at hl 0 rfl) ?_
  refine g_get cx hw inX9 (ci := 8) rfl 1 (by decide) rfl (v := .int (μ12.1 159 1)) shx_159 rfl fl_X9_16 dX9_writeVariant_39 ?_
  exact g_iret cx hr hlk hw h dX9_writeVariant_42

theorem p_X11_write_ex : ∃ f : Int32 → Mem → Option (Int32 × Mem), ∀ (a1 : Int32) (μ : Mem), f a1 μ = bd (p_X5_hasVariant a1 μ) (fun r2 μ1 => (if r2 = (0 : Int32) then some ((-1 : Int32), μ1) else bd (p_X9_writeVariant a1 μ1) (fun r5 μ4 => some (r5, μ4)))) := ⟨fun (a1 : Int32) (μ : Mem) => bd (p_X5_hasVariant a1 μ) (fun r2 μ1 => (if r2 = (0 : Int32) then some ((-1 : Int32), μ1) else bd (p_X9_writeVariant a1 μ1) (fun r5 μ4 => some (r5, μ4)))), fun _ _ => rfl⟩
noncomputable def p_X11_write : Int32 → Mem → Option (Int32 × Mem) := Classical.choose p_X11_write_ex
theorem p_X11_write_eq (a1 : Int32) (μ : Mem) : p_X11_write a1 μ = bd (p_X5_hasVariant a1 μ) (fun r2 μ1 => (if r2 = (0 : Int32) then some ((-1 : Int32), μ1) else bd (p_X9_writeVariant a1 μ1) (fun r5 μ4 => some (r5, μ4)))) := Classical.choose_spec p_X11_write_ex a1 μ
set_option maxHeartbeats 4000000 in
set_option maxRecDepth 100000 in
theorem t_X11_write (sq sv : Nat) (l : Launch) (G : Gt) (ad : Nat → Nat) (a1 : Int32) (μ : Mem) {r : Int32} {μz : Mem} (h : p_X11_write a1 μ = some (r, μz)) : M2 sq sv l yX11_write cX11_write 2 (some .int) ({ frames := 252, cells := 0, slots := 0, locals := 5997 } : Room) G [.ref (ad 0), .int a1] (wd 0 G ad μ) (eI 0 G ad r μz) := by
  refine B2.mt (by decide) rfl (Nat.le_of_ble_eq_true rfl) ?_
  intro p e s m below meth c A ls H locs cx hr hlk hA hl hw hs
  have hx := cx.1
  have hb := cx.2.1
  have hl : lv_has ls 2 [(0, .ref (ad 0)), (1, .int a1)] := hl
  rw [p_X11_write_eq] at h
  refine lv_aload_n hx hb dX11_write_0 rfl (lv_at hl 0 rfl) ?_
  refine g_get cx hw inX11 (ci := 10) rfl 12 (by decide) rfl (v := .ref (ad 39)) shx_0 rfl fl_X11_67 dX11_write_1 ?_
  refine lv_iload_n hx hb dX11_write_4 rfl (lv_at hl 1 rfl) ?_
  obtain ⟨r2, μ1, gr2, h⟩ := bd_some h
  refine g_callVI (As := [.int a1]) (rest := []) cx hw hA (t_X5_hasVariant l G ad a1 μ gr2) shx_39 rfl ml_X11_196 im_X5_hasVariant se_X5_hasVariant in_X5 co_X5_hasVariant rfl hd_X5_hasVariant rfl ⟨(Nat.le_of_ble_eq_true rfl), (Nat.le_of_ble_eq_true rfl)⟩ hl.1 rfl (Nat.le_of_ble_eq_true rfl) dX11_write_5 ⟨rfl, rfl⟩ (fun H locs hw => ?_)
  refine lv_if_ne (tgt := 13) hx hb dX11_write_8 (by decide) (fun c3 => ?_) (fun c3 => ?_)
  · rw [if_neg c3] at h
    refine lv_aload_n hx hb dX11_write_13 rfl (lv_at hl 0 rfl) ?_
    refine g_get cx hw inX11 (ci := 10) rfl 19 (by decide) rfl (v := .ref (ad 159)) shx_0 rfl fl_X11_117 dX11_write_14 ?_
    refine lv_aload_n hx hb dX11_write_17 rfl (lv_at hl 0 rfl) ?_
    refine g_get cx hw inX11 (ci := 10) rfl 12 (by decide) rfl (v := .ref (ad 39)) shx_0 rfl fl_X11_67 dX11_write_18 ?_
    refine lv_iload_n hx hb dX11_write_21 rfl (lv_at hl 1 rfl) ?_
    obtain ⟨r5, μ4, gr5, h⟩ := bd_some h
    refine h_callVI (As := [.ref (ad 39), .int a1]) (rest := []) cx hw hA hs (t_X9_writeVariant sq sv l G ad a1 μ1 gr5) shx_159 rfl ml_X11_238 im_X9_writeVariant se_X9_writeVariant in_X9 co_X9_writeVariant rfl hd_X9_writeVariant rfl ⟨(Nat.le_of_ble_eq_true rfl), (Nat.le_of_ble_eq_true rfl)⟩ hl.1 rfl (Nat.le_of_ble_eq_true rfl) dX11_write_22 ⟨rfl, rfl⟩ (fun H locs hw => ?_)
    exact g_iret cx hr hlk hw h dX11_write_25
  · rw [if_pos c3] at h
    refine lv_iconst (v := (-1)) hx hb dX11_write_11 (by decide) ?_
    exact g_iret cx hr hlk hw h dX11_write_12
