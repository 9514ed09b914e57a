theorem p_X10_leaveCallTo_b113_ex : ∃ f : Nat → Int32 → Int32 → Int64 → Int32 → Int32 → Mem → Option Mem, (∀ (a1 : Int32) (a2 : Int32) (a3 : Int64) (a5 : Int32) (a6 : Int32) (μ : Mem), f  0 a1 a2 a3 a5 a6 μ = none) ∧ (∀ (n : Nat) (a1 : Int32) (a2 : Int32) (a3 : Int64) (a5 : Int32) (a6 : Int32) (μ : Mem), f  (n + 1) a1 a2 a3 a5 a6 μ = (if a2 ≤ a6 then bd (p_X5_ofVariant a1 (1 : Int32) μ) (fun r10 μ9 => bw (p_X5_setVariant a1 (1 : Int32) (r10 + (1 : Int32)) μ9) (fun μ11 => bw (p_X8_push a3 μ11) (fun μ13 => some μ13))) else gd (inb a6 8) (bw (p_X5_setOperand a5 ((2 : Int32) + a6) (μ.2.1 141 a6.toNatClampNeg) μ) (fun μ15 => bv (a6 + 1) (fun v17 => f n a1 a2 a3 a5 v17 μ15))))) := ⟨fun n => Nat.rec (fun (a1 : Int32) (a2 : Int32) (a3 : Int64) (a5 : Int32) (a6 : Int32) (μ : Mem) => none) (fun _ ih => fun (a1 : Int32) (a2 : Int32) (a3 : Int64) (a5 : Int32) (a6 : Int32) (μ : Mem) => (if a2 ≤ a6 then bd (p_X5_ofVariant a1 (1 : Int32) μ) (fun r10 μ9 => bw (p_X5_setVariant a1 (1 : Int32) (r10 + (1 : Int32)) μ9) (fun μ11 => bw (p_X8_push a3 μ11) (fun μ13 => some μ13))) else gd (inb a6 8) (bw (p_X5_setOperand a5 ((2 : Int32) + a6) (μ.2.1 141 a6.toNatClampNeg) μ) (fun μ15 => bv (a6 + 1) (fun v17 => ih a1 a2 a3 a5 v17 μ15))))) n, fun  _ _ _ _ _ _ => rfl, fun  _ _ _ _ _ _ _ => rfl⟩
noncomputable def p_X10_leaveCallTo_b113 : Nat → Int32 → Int32 → Int64 → Int32 → Int32 → Mem → Option Mem := Classical.choose p_X10_leaveCallTo_b113_ex
theorem p_X10_leaveCallTo_b113_z (a1 : Int32) (a2 : Int32) (a3 : Int64) (a5 : Int32) (a6 : Int32) (μ : Mem) : p_X10_leaveCallTo_b113  0 a1 a2 a3 a5 a6 μ = none := (Classical.choose_spec p_X10_leaveCallTo_b113_ex).1  a1 a2 a3 a5 a6 μ
theorem p_X10_leaveCallTo_b113_s (n : Nat) (a1 : Int32) (a2 : Int32) (a3 : Int64) (a5 : Int32) (a6 : Int32) (μ : Mem) : p_X10_leaveCallTo_b113  (n + 1) a1 a2 a3 a5 a6 μ = (if a2 ≤ a6 then bd (p_X5_ofVariant a1 (1 : Int32) μ) (fun r10 μ9 => bw (p_X5_setVariant a1 (1 : Int32) (r10 + (1 : Int32)) μ9) (fun μ11 => bw (p_X8_push a3 μ11) (fun μ13 => some μ13))) else gd (inb a6 8) (bw (p_X5_setOperand a5 ((2 : Int32) + a6) (μ.2.1 141 a6.toNatClampNeg) μ) (fun μ15 => bv (a6 + 1) (fun v17 => p_X10_leaveCallTo_b113  n a1 a2 a3 a5 v17 μ15)))) := (Classical.choose_spec p_X10_leaveCallTo_b113_ex).2  n a1 a2 a3 a5 a6 μ
set_option maxHeartbeats 4000000 in
set_option maxRecDepth 100000 in
theorem t_X10_leaveCallTo_b113 (l : Launch) (G : Gt) (ad : Nat → Nat) (av : List Value) {μz : Mem} : ∀ (n : Nat) (a1 : Int32) (a2 : Int32) (a3 : Int64) (a5 : Int32) (a6 : Int32) (μ : Mem), p_X10_leaveCallTo_b113  n a1 a2 a3 a5 a6 μ = some μz → Bk l cX10_leaveCallTo 7 RX10 none ({ frames := 101, cells := 0, slots := 0, locals := 2777 } : Room) G av (eV 0 G ad μz) (wd 0 G ad μ) 113 [(0, .ref (ad 137)), (1, .int a1), (2, .int a2), (3, .long a3), (5, .int a5), (6, .int a6)] [] := by
  intro n
  induction n with
  | zero => intro a1 a2 a3 a5 a6 μ h; rw [p_X10_leaveCallTo_b113_z] at h; cases h
  | succ n ih =>
    intro a1 a2 a3 a5 a6 μ h p e s m below meth c A ls H locs cx hr hlk hA hl hw
    have hx := cx.1
    have hb := cx.2.1
    rw [p_X10_leaveCallTo_b113_s] at h
    refine lv_iload hx hb dX10_leaveCallTo_113 (lv_at hl 5 rfl) ?_
    refine lv_iload_n hx hb dX10_leaveCallTo_115 rfl (lv_at hl 2 rfl) ?_
    refine lv_icmp_ge (tgt := 145) hx hb dX10_leaveCallTo_116 (by decide) (fun c8 => ?_) (fun c8 => ?_)
    · rw [if_pos c8] at h
      refine lv_aload_n hx hb dX10_leaveCallTo_145 rfl (lv_at hl 0 rfl) ?_
      refine g_get cx hw inX10 (ci := 9) rfl 4 (by decide) rfl (v := .ref (ad 39)) shx_137 rfl fl_X10_25 dX10_leaveCallTo_146 ?_
      refine lv_iload_n hx hb dX10_leaveCallTo_149 rfl (lv_at hl 1 rfl) ?_
      refine lv_iconst (v := 1) hx hb dX10_leaveCallTo_150 (by decide) ?_
      refine lv_aload_n hx hb dX10_leaveCallTo_151 rfl (lv_at hl 0 rfl) ?_
      refine g_get cx hw inX10 (ci := 9) rfl 4 (by decide) rfl (v := .ref (ad 39)) shx_137 rfl fl_X10_25 dX10_leaveCallTo_152 ?_
      refine lv_iload_n hx hb dX10_leaveCallTo_155 rfl (lv_at hl 1 rfl) ?_
      refine lv_iconst (v := 1) hx hb dX10_leaveCallTo_156 (by decide) ?_
      obtain ⟨r10, μ9, gr10, h⟩ := bd_some h
      refine g_callVI (As := [.int a1, .int 1]) (rest := [.int 1, .int a1, .ref (ad 39)]) cx hw hA (t_X5_ofVariant l G ad a1 (1 : Int32) μ gr10) shx_39 rfl ml_X10_324 im_X5_ofVariant se_X5_ofVariant in_X5 co_X5_ofVariant rfl hd_X5_ofVariant rfl ⟨(Nat.le_of_ble_eq_true rfl), (Nat.le_of_ble_eq_true rfl)⟩ hl.1 rfl (Nat.le_of_ble_eq_true rfl) dX10_leaveCallTo_157 ⟨rfl, rfl⟩ (fun H locs hw => ?_)
      refine lv_iconst (v := 1) hx hb dX10_leaveCallTo_160 (by decide) ?_
      refine lv_iadd hx hb dX10_leaveCallTo_161 ?_
      obtain ⟨μ11, gμ11, h⟩ := bw_some h
      refine g_callVV (As := [.int a1, .int 1, .int (r10 + (1 : Int32))]) (rest := []) cx hw hA (t_X5_setVariant l G ad a1 (1 : Int32) (r10 + (1 : Int32)) μ9 gμ11) shx_39 rfl ml_X10_111 im_X5_setVariant se_X5_setVariant in_X5 co_X5_setVariant rfl hd_X5_setVariant rfl ⟨(Nat.le_of_ble_eq_true rfl), (Nat.le_of_ble_eq_true rfl)⟩ hl.1 rfl (Nat.le_of_ble_eq_true rfl) dX10_leaveCallTo_162 ⟨rfl, rfl⟩ (fun H locs hw => ?_)
      refine lv_aload_n hx hb dX10_leaveCallTo_165 rfl (lv_at hl 0 rfl) ?_
      refine g_get cx hw inX10 (ci := 9) rfl 3 (by decide) rfl (v := .ref (ad 30)) shx_137 rfl fl_X10_21 dX10_leaveCallTo_166 ?_
      refine lv_lload_n hx hb dX10_leaveCallTo_169 rfl (lv_at hl 3 rfl) ?_
      obtain ⟨μ13, gμ13, h⟩ := bw_some h
      refine g_callVV (As := [.long a3]) (rest := []) cx hw hA (t_X8_push l G ad a3 μ11 gμ13) shx_30 rfl ml_X10_155 im_X8_push se_X8_push in_X8 co_X8_push rfl hd_X8_push rfl ⟨(Nat.le_of_ble_eq_true rfl), (Nat.le_of_ble_eq_true rfl)⟩ hl.1 rfl (Nat.le_of_ble_eq_true rfl) dX10_leaveCallTo_170 ⟨rfl, rfl⟩ (fun H locs hw => ?_)
      exact g_vret cx hr hlk hw h dX10_leaveCallTo_173
    · rw [if_neg c8] at h
      refine lv_aload_n hx hb dX10_leaveCallTo_119 rfl (lv_at hl 0 rfl) ?_
      refine g_get cx hw inX10 (ci := 9) rfl 4 (by decide) rfl (v := .ref (ad 39)) shx_137 rfl fl_X10_25 dX10_leaveCallTo_120 ?_
      refine lv_iload hx hb dX10_leaveCallTo_123 (lv_at hl 4 rfl) ?_
      refine lv_iconst (v := 2) hx hb dX10_leaveCallTo_125 (by decide) ?_
      refine lv_iload hx hb dX10_leaveCallTo_126 (lv_at hl 5 rfl) ?_
      refine lv_iadd hx hb dX10_leaveCallTo_128 ?_
      refine lv_aload_n hx hb dX10_leaveCallTo_129 rfl (lv_at hl 0 rfl) ?_
      refine g_get cx hw inX10 (ci := 9) rfl 17 (by decide) rfl (v := .ref (ad 141)) shx_137 rfl fl_X10_58 dX10_leaveCallTo_130 ?_
      refine lv_iload hx hb dX10_leaveCallTo_133 (lv_at hl 5 rfl) ?_
      refine g_lald cx hw shx_141 h dX10_leaveCallTo_135 (fun h => ?_)
      obtain ⟨μ15, gμ15, h⟩ := bw_some h
      refine g_callVV (As := [.int a5, .int ((2 : Int32) + a6), .long (μ.2.1 141 a6.toNatClampNeg)]) (rest := []) cx hw hA (t_X5_setOperand l G ad a5 ((2 : Int32) + a6) (μ.2.1 141 a6.toNatClampNeg) μ gμ15) shx_39 rfl ml_X10_230 im_X5_setOperand se_X5_setOperand in_X5 co_X5_setOperand rfl hd_X5_setOperand rfl ⟨(Nat.le_of_ble_eq_true rfl), (Nat.le_of_ble_eq_true rfl)⟩ hl.1 rfl (Nat.le_of_ble_eq_true rfl) dX10_leaveCallTo_136 ⟨rfl, rfl⟩ (fun H locs hw => ?_)
      obtain ⟨v17, ev17, h⟩ := bv_ex h
      refine lv_iinc (v := v17) (lv' := [(6, .int v17), (0, .ref (ad 137)), (1, .int a1), (2, .int a2), (3, .long a3), (5, .int a5)]) hx hb dX10_leaveCallTo_139 hl (k := 5) rfl (by rw [ev17]; rfl) (by decide) rfl (fun ls hl => ?_)
      refine lv_goto (tgt := 113) hx hb dX10_leaveCallTo_142 (by decide) ?_
      exact ih a1 a2 a3 a5 v17 μ15 h p e s m below meth c A ls H locs cx hr hlk hA (lv_sub hl [1, 2, 3, 4, 5, 0] rfl) hw
theorem p_X10_leaveCallTo_b69_ex : ∃ f : Int32 → Int32 → Mem → Option Mem, ∀ (a1 : Int32) (a2 : Int32) (μ : Mem), f a1 a2 μ = bd (p_X10_leave (11 : Int32) a1 (0 : Int64) (0 : Int64) μ) (fun r3 μ2 => (if (μ2.1 137 6) = (0 : Int32) then bv ((μ2.1 39 1) - (1 : Int32)) (fun v5 => bw (p_X5_setCell v5 (7 : Int32) a2 μ2) (fun μ6 => p_X10_leaveCallTo_b113  FUEL a1 a2 r3 v5 (0 : Int32) μ6)) else some μ2)) := ⟨fun (a1 : Int32) (a2 : Int32) (μ : Mem) => bd (p_X10_leave (11 : Int32) a1 (0 : Int64) (0 : Int64) μ) (fun r3 μ2 => (if (μ2.1 137 6) = (0 : Int32) then bv ((μ2.1 39 1) - (1 : Int32)) (fun v5 => bw (p_X5_setCell v5 (7 : Int32) a2 μ2) (fun μ6 => p_X10_leaveCallTo_b113  FUEL a1 a2 r3 v5 (0 : Int32) μ6)) else some μ2)), fun _ _ _ => rfl⟩
noncomputable def p_X10_leaveCallTo_b69 : Int32 → Int32 → Mem → Option Mem := Classical.choose p_X10_leaveCallTo_b69_ex
theorem p_X10_leaveCallTo_b69_eq (a1 : Int32) (a2 : Int32) (μ : Mem) : p_X10_leaveCallTo_b69 a1 a2 μ = bd (p_X10_leave (11 : Int32) a1 (0 : Int64) (0 : Int64) μ) (fun r3 μ2 => (if (μ2.1 137 6) = (0 : Int32) then bv ((μ2.1 39 1) - (1 : Int32)) (fun v5 => bw (p_X5_setCell v5 (7 : Int32) a2 μ2) (fun μ6 => p_X10_leaveCallTo_b113  FUEL a1 a2 r3 v5 (0 : Int32) μ6)) else some μ2)) := Classical.choose_spec p_X10_leaveCallTo_b69_ex a1 a2 μ
set_option maxHeartbeats 4000000 in
set_option maxRecDepth 100000 in
theorem t_X10_leaveCallTo_b69 (l : Launch) (G : Gt) (ad : Nat → Nat) (av : List Value) {μz : Mem} (a1 : Int32) (a2 : Int32) (μ : Mem) (h : p_X10_leaveCallTo_b69  a1 a2 μ = some μz) : Bk l cX10_leaveCallTo 7 RX10 none ({ frames := 101, cells := 0, slots := 0, locals := 2777 } : Room) G av (eV 0 G ad μz) (wd 0 G ad μ) 69 [(0, .ref (ad 137)), (1, .int a1), (2, .int a2)] [] := by
  intro p e s m below meth c A ls H locs cx hr hlk hA hl hw
  have hx := cx.1
  have hb := cx.2.1
  rw [p_X10_leaveCallTo_b69_eq] at h
  refine lv_aload_n hx hb dX10_leaveCallTo_69 rfl (lv_at hl 0 rfl) ?_
  refine lv_bipush (v := 11) hx hb dX10_leaveCallTo_70 (by decide) ?_
  refine lv_iload_n hx hb dX10_leaveCallTo_72 rfl (lv_at hl 1 rfl) ?_
  refine lv_lconst (v := 0) hx hb dX10_leaveCallTo_73 (by decide) ?_
  refine lv_lconst (v := 0) hx hb dX10_leaveCallTo_74 (by decide) ?_
  obtain ⟨r3, μ2, gr3, h⟩ := bd_some h
  refine g_callVL (As := [.int 11, .int a1, .long 0, .long 0]) (rest := []) cx hw hA (t_X10_leave l G ad (11 : Int32) a1 (0 : Int64) (0 : Int64) μ gr3) shx_137 rfl ml_X10_191 im_X10_leave se_X10_leave in_X10 co_X10_leave rfl hd_X10_leave rfl ⟨(Nat.le_of_ble_eq_true rfl), (Nat.le_of_ble_eq_true rfl)⟩ hl.1 rfl (Nat.le_of_ble_eq_true rfl) dX10_leaveCallTo_75 ⟨rfl, rfl⟩ (fun H locs hw => ?_)
  refine lv_lstore_n (lv' := [(3, .long r3), (0, .ref (ad 137)), (1, .int a1), (2, .int a2)]) hx hb dX10_leaveCallTo_78 rfl hl (by decide) rfl (fun ls hl => ?_)
  refine lv_aload_n hx hb dX10_leaveCallTo_79 rfl (lv_at hl 1 rfl) ?_
  refine g_get cx hw inX10 (ci := 9) rfl 6 (by decide) rfl (v := .int (μ2.1 137 6)) shx_137 rfl fl_X10_70 dX10_leaveCallTo_80 ?_
  refine lv_if_eq (tgt := 87) hx hb dX10_leaveCallTo_83 (by decide) (fun c4 => ?_) (fun c4 => ?_)
  · rw [if_pos c4] at h
    refine lv_aload_n hx hb dX10_leaveCallTo_87 rfl (lv_at hl 1 rfl) ?_
    refine g_get cx hw inX10 (ci := 9) rfl 4 (by decide) rfl (v := .ref (ad 39)) shx_137 rfl fl_X10_25 dX10_leaveCallTo_88 ?_
    refine g_get cx hw inX5 (ci := 4) rfl 1 (by decide) rfl (v := .int (μ2.1 39 1)) shx_39 rfl fl_X10_286 dX10_leaveCallTo_91 ?_
    refine lv_iconst (v := 1) hx hb dX10_leaveCallTo_94 (by decide) ?_
    refine lv_isub hx hb dX10_leaveCallTo_95 ?_
    obtain ⟨v5, ev5, h⟩ := bv_ex h
    refine lv_topi (fun y9 z9 => ?_)
    obtain rfl : v5 = y9 := ev5.trans z9.symm
    refine lv_istore (lv' := [(5, .int v5), (3, .long r3), (0, .ref (ad 137)), (1, .int a1), (2, .int a2)]) hx hb dX10_leaveCallTo_96 hl (by decide) rfl (fun ls hl => ?_)
    refine lv_aload_n hx hb dX10_leaveCallTo_98 rfl (lv_at hl 2 rfl) ?_
    refine g_get cx hw inX10 (ci := 9) rfl 4 (by decide) rfl (v := .ref (ad 39)) shx_137 rfl fl_X10_25 dX10_leaveCallTo_99 ?_
    refine lv_iload hx hb dX10_leaveCallTo_102 (lv_at hl 0 rfl) ?_
    refine lv_bipush (v := 7) hx hb dX10_leaveCallTo_104 (by decide) ?_
    refine lv_iload_n hx hb dX10_leaveCallTo_106 rfl (lv_at hl 4 rfl) ?_
    obtain ⟨μ6, gμ6, h⟩ := bw_some h
    refine g_callVV (As := [.int v5, .int 7, .int a2]) (rest := []) cx hw hA (t_X5_setCell l G ad v5 (7 : Int32) a2 μ2 gμ6) shx_39 rfl ml_X10_289 im_X5_setCell se_X5_setCell in_X5 co_X5_setCell rfl hd_X5_setCell rfl ⟨(Nat.le_of_ble_eq_true rfl), (Nat.le_of_ble_eq_true rfl)⟩ hl.1 rfl (Nat.le_of_ble_eq_true rfl) dX10_leaveCallTo_107 ⟨rfl, rfl⟩ (fun H locs hw => ?_)
    refine lv_iconst (v := 0) hx hb dX10_leaveCallTo_110 (by decide) ?_
    refine lv_istore (lv' := [(6, .int 0), (5, .int v5), (3, .long r3), (0, .ref (ad 137)), (1, .int a1), (2, .int a2)]) hx hb dX10_leaveCallTo_111 hl (by decide) rfl (fun ls hl => ?_)
    exact t_X10_leaveCallTo_b113 l G ad av  FUEL a1 a2 r3 v5 (0 : Int32) μ6 h p e s m below meth c A ls H locs cx hr hlk hA (lv_sub hl [3, 4, 5, 2, 1, 0] rfl) hw
  · rw [if_neg c4] at h
    exact g_vret cx hr hlk hw h dX10_leaveCallTo_86
theorem p_X10_leaveCallTo_b63_ex : ∃ f : (Int32 → Int32 → Int32 → Mem → Option Mem) → Int32 → Int32 → Int32 → Mem → Option Mem, ∀ (K4 : Int32 → Int32 → Int32 → Mem → Option Mem) (a1 : Int32) (a2 : Int32) (a3 : Int32) (μ : Mem), f K4 a1 a2 a3 μ = bv (a3 + 1) (fun v20 => K4 a1 a2 v20 μ) := ⟨fun (K4 : Int32 → Int32 → Int32 → Mem → Option Mem) (a1 : Int32) (a2 : Int32) (a3 : Int32) (μ : Mem) => bv (a3 + 1) (fun v20 => K4 a1 a2 v20 μ), fun _ _ _ _ _ => rfl⟩
noncomputable def p_X10_leaveCallTo_b63 : (Int32 → Int32 → Int32 → Mem → Option Mem) → Int32 → Int32 → Int32 → Mem → Option Mem := Classical.choose p_X10_leaveCallTo_b63_ex
theorem p_X10_leaveCallTo_b63_eq (K4 : Int32 → Int32 → Int32 → Mem → Option Mem) (a1 : Int32) (a2 : Int32) (a3 : Int32) (μ : Mem) : p_X10_leaveCallTo_b63 K4 a1 a2 a3 μ = bv (a3 + 1) (fun v20 => K4 a1 a2 v20 μ) := Classical.choose_spec p_X10_leaveCallTo_b63_ex K4 a1 a2 a3 μ
set_option maxHeartbeats 4000000 in
set_option maxRecDepth 100000 in
theorem t_X10_leaveCallTo_b63 (l : Launch) (G : Gt) (ad : Nat → Nat) (av : List Value) {μz : Mem} (K4 : Int32 → Int32 → Int32 → Mem → Option Mem) (hK4 : ∀ (z1 : Int32) (z2 : Int32) (z3 : Int32) (μ1 : Mem), K4 z1 z2 z3 μ1 = some μz → Bk l cX10_leaveCallTo 7 RX10 none ({ frames := 101, cells := 0, slots := 0, locals := 2777 } : Room) G av (eV 0 G ad μz) (wd 0 G ad μ1) 4 [(0, .ref (ad 137)), (1, .int z1), (2, .int z2), (3, .int z3)] []) (a1 : Int32) (a2 : Int32) (a3 : Int32) (μ : Mem) (h : p_X10_leaveCallTo_b63 K4 a1 a2 a3 μ = some μz) : Bk l cX10_leaveCallTo 7 RX10 none ({ frames := 101, cells := 0, slots := 0, locals := 2777 } : Room) G av (eV 0 G ad μz) (wd 0 G ad μ) 63 [(0, .ref (ad 137)), (1, .int a1), (2, .int a2), (3, .int a3)] [] := by
  intro p e s m below meth c A ls H locs cx hr hlk hA hl hw
  have hx := cx.1
  have hb := cx.2.1
  rw [p_X10_leaveCallTo_b63_eq] at h
  obtain ⟨v20, ev20, h⟩ := bv_ex h
  refine lv_iinc (v := v20) (lv' := [(3, .int v20), (0, .ref (ad 137)), (1, .int a1), (2, .int a2)]) hx hb dX10_leaveCallTo_63 hl (k := 3) rfl (by rw [ev20]; rfl) (by decide) rfl (fun ls hl => ?_)
  refine lv_goto (tgt := 4) hx hb dX10_leaveCallTo_66 (by decide) ?_
  exact hK4 a1 a2 v20 μ h p e s m below meth c A ls H locs cx hr hlk hA (lv_sub hl [1, 2, 3, 0] rfl) hw
theorem p_X10_leaveCallTo_b4_ex : ∃ f : Nat → Int32 → Int32 → Int32 → Mem → Option Mem, (∀ (a1 : Int32) (a2 : Int32) (a3 : Int32) (μ : Mem), f  0 a1 a2 a3 μ = none) ∧ (∀ (n : Nat) (a1 : Int32) (a2 : Int32) (a3 : Int32) (μ : Mem), f  (n + 1) a1 a2 a3 μ = (if (μ.1 (sel 1 (μ.2.2 137 14)) 2) ≤ a3 then p_X10_leaveCallTo_b69  a1 a2 μ else (if (8 : Int32) ≤ a2 then p_X10_leaveCallTo_b69  a1 a2 μ else gd (inb a3 ((sh 0 ((sel 1 (μ.2.2 137 14)) + 1)).2)) ((if (lg_cmp (μ.2.1 ((sel 1 (μ.2.2 137 14)) + 1) a3.toNatClampNeg) (17179869184 : Int64)) = (0 : Int32) then gd (inb a3 ((sh 0 ((sel 1 (μ.2.2 137 14)) + 2)).2)) (bd (pr_X10_lift 50 (μ.2.1 ((sel 1 (μ.2.2 137 14)) + 2) a3.toNatClampNeg) (0 : Int32) μ) (fun r22 μ21 => gd (inb a2 8) (bv (sL μ21 141 a2.toNatClampNeg r22) (fun μ23 => bv (a2 + 1) (fun v24 => p_X10_leaveCallTo_b63 (f n) a1 v24 a3 μ23))))) else p_X10_leaveCallTo_b63 (f n) a1 a2 a3 μ))))) := ⟨fun n => Nat.rec (fun (a1 : Int32) (a2 : Int32) (a3 : Int32) (μ : Mem) => none) (fun _ ih => fun (a1 : Int32) (a2 : Int32) (a3 : Int32) (μ : Mem) => (if (μ.1 (sel 1 (μ.2.2 137 14)) 2) ≤ a3 then p_X10_leaveCallTo_b69  a1 a2 μ else (if (8 : Int32) ≤ a2 then p_X10_leaveCallTo_b69  a1 a2 μ else gd (inb a3 ((sh 0 ((sel 1 (μ.2.2 137 14)) + 1)).2)) ((if (lg_cmp (μ.2.1 ((sel 1 (μ.2.2 137 14)) + 1) a3.toNatClampNeg) (17179869184 : Int64)) = (0 : Int32) then gd (inb a3 ((sh 0 ((sel 1 (μ.2.2 137 14)) + 2)).2)) (bd (pr_X10_lift 50 (μ.2.1 ((sel 1 (μ.2.2 137 14)) + 2) a3.toNatClampNeg) (0 : Int32) μ) (fun r22 μ21 => gd (inb a2 8) (bv (sL μ21 141 a2.toNatClampNeg r22) (fun μ23 => bv (a2 + 1) (fun v24 => p_X10_leaveCallTo_b63 (ih) a1 v24 a3 μ23))))) else p_X10_leaveCallTo_b63 (ih) a1 a2 a3 μ))))) n, fun  _ _ _ _ => rfl, fun  _ _ _ _ _ => rfl⟩
noncomputable def p_X10_leaveCallTo_b4 : Nat → Int32 → Int32 → Int32 → Mem → Option Mem := Classical.choose p_X10_leaveCallTo_b4_ex
theorem p_X10_leaveCallTo_b4_z (a1 : Int32) (a2 : Int32) (a3 : Int32) (μ : Mem) : p_X10_leaveCallTo_b4  0 a1 a2 a3 μ = none := (Classical.choose_spec p_X10_leaveCallTo_b4_ex).1  a1 a2 a3 μ
theorem p_X10_leaveCallTo_b4_s (n : Nat) (a1 : Int32) (a2 : Int32) (a3 : Int32) (μ : Mem) : p_X10_leaveCallTo_b4  (n + 1) a1 a2 a3 μ = (if (μ.1 (sel 1 (μ.2.2 137 14)) 2) ≤ a3 then p_X10_leaveCallTo_b69  a1 a2 μ else (if (8 : Int32) ≤ a2 then p_X10_leaveCallTo_b69  a1 a2 μ else gd (inb a3 ((sh 0 ((sel 1 (μ.2.2 137 14)) + 1)).2)) ((if (lg_cmp (μ.2.1 ((sel 1 (μ.2.2 137 14)) + 1) a3.toNatClampNeg) (17179869184 : Int64)) = (0 : Int32) then gd (inb a3 ((sh 0 ((sel 1 (μ.2.2 137 14)) + 2)).2)) (bd (pr_X10_lift 50 (μ.2.1 ((sel 1 (μ.2.2 137 14)) + 2) a3.toNatClampNeg) (0 : Int32) μ) (fun r22 μ21 => gd (inb a2 8) (bv (sL μ21 141 a2.toNatClampNeg r22) (fun μ23 => bv (a2 + 1) (fun v24 => p_X10_leaveCallTo_b63 (p_X10_leaveCallTo_b4  n) a1 v24 a3 μ23))))) else p_X10_leaveCallTo_b63 (p_X10_leaveCallTo_b4  n) a1 a2 a3 μ)))) := (Classical.choose_spec p_X10_leaveCallTo_b4_ex).2  n a1 a2 a3 μ
set_option maxHeartbeats 4000000 in
set_option maxRecDepth 100000 in
theorem t_X10_leaveCallTo_b4 (l : Launch) (G : Gt) (ad : Nat → Nat) (av : List Value) {μz : Mem} : ∀ (n : Nat) (a1 : Int32) (a2 : Int32) (a3 : Int32) (μ : Mem), p_X10_leaveCallTo_b4  n a1 a2 a3 μ = some μz → Bk l cX10_leaveCallTo 7 RX10 none ({ frames := 101, cells := 0, slots := 0, locals := 2777 } : Room) G av (eV 0 G ad μz) (wd 0 G ad μ) 4 [(0, .ref (ad 137)), (1, .int a1), (2, .int a2), (3, .int a3)] [] := by
  intro n
  induction n with
  | zero => intro a1 a2 a3 μ h; rw [p_X10_leaveCallTo_b4_z] at h; cases h
  | succ n ih =>
    intro a1 a2 a3 μ h p e s m below meth c A ls H locs cx hr hlk hA hl hw
    have hx := cx.1
    have hb := cx.2.1
    rw [p_X10_leaveCallTo_b4_s] at h
    refine lv_iload_n hx hb dX10_leaveCallTo_4 rfl (lv_at hl 3 rfl) ?_
    refine lv_aload_n hx hb dX10_leaveCallTo_5 rfl (lv_at hl 0 rfl) ?_
    refine g_get cx hw inX10 (ci := 9) rfl 14 (by decide) rfl (v := .ref (ad (sel 1 (μ.2.2 137 14)))) shx_137 rfl fl_X10_46 dX10_leaveCallTo_6 ?_
    refine g_get cx hw inX2 (ci := 1) rfl 2 (by decide) rfl (v := .int (μ.1 (sel 1 (μ.2.2 137 14)) 2)) (sel_1 _) rfl fl_X10_351 dX10_leaveCallTo_9 ?_
    refine lv_icmp_ge (tgt := 69) hx hb dX10_leaveCallTo_12 (by decide) (fun c1 => ?_) (fun c1 => ?_)
    · rw [if_pos c1] at h
      exact t_X10_leaveCallTo_b69 l G ad av  a1 a2 μ h p e s m below meth c A ls H locs cx hr hlk hA (lv_sub hl [0, 1, 2] rfl) hw
    · rw [if_neg c1] at h
      refine lv_iload_n hx hb dX10_leaveCallTo_15 rfl (lv_at hl 2 rfl) ?_
      refine lv_aload_n hx hb dX10_leaveCallTo_16 rfl (lv_at hl 0 rfl) ?_
      refine g_get cx hw inX10 (ci := 9) rfl 17 (by decide) rfl (v := .ref (ad 141)) shx_137 rfl fl_X10_58 dX10_leaveCallTo_17 ?_
      refine g_alen3 cx hw shx_141 (v := 8) (by decide +kernel) dX10_leaveCallTo_20 ?_
      refine lv_icmp_ge (tgt := 69) hx hb dX10_leaveCallTo_21 (by decide) (fun c18 => ?_) (fun c18 => ?_)
      · rw [if_pos c18] at h
        exact t_X10_leaveCallTo_b69 l G ad av  a1 a2 μ h p e s m below meth c A ls H locs cx hr hlk hA (lv_sub hl [0, 1, 2] rfl) hw
      · rw [if_neg c18] at h
        refine lv_aload_n hx hb dX10_leaveCallTo_24 rfl (lv_at hl 0 rfl) ?_
        refine g_get cx hw inX10 (ci := 9) rfl 14 (by decide) rfl (v := .ref (ad (sel 1 (μ.2.2 137 14)))) shx_137 rfl fl_X10_46 dX10_leaveCallTo_25 ?_
        refine g_get cx hw inX2 (ci := 1) rfl 0 (by decide) rfl (v := .ref (ad ((sel 1 (μ.2.2 137 14)) + 1))) (sel_1 _) rfl fl_X10_354 dX10_leaveCallTo_28 ?_
        refine lv_iload_n hx hb dX10_leaveCallTo_31 rfl (lv_at hl 3 rfl) ?_
        refine g_lald cx hw (rl_X2_0 (sel_1 _)) h dX10_leaveCallTo_32 (fun h => ?_)
        refine lv_ldc2 hx hb cx.2.2.2.1 (cx.2.2.2.2.1 _ cs_X10_357) dX10_leaveCallTo_33 ?_
        refine W.lcmp hx hb dX10_leaveCallTo_36 ?_
        refine lv_if_ne (tgt := 63) hx hb dX10_leaveCallTo_37 (by decide) (fun c19 => ?_) (fun c19 => ?_)
        · rw [if_neg c19] at h
          exact t_X10_leaveCallTo_b63 l G ad av _ ih a1 a2 a3 μ h p e s m below meth c A ls H locs cx hr hlk hA (lv_sub hl [0, 1, 2, 3] rfl) hw
        · rw [if_pos c19] at h
          refine lv_aload_n hx hb dX10_leaveCallTo_40 rfl (lv_at hl 0 rfl) ?_
          refine g_get cx hw inX10 (ci := 9) rfl 17 (by decide) rfl (v := .ref (ad 141)) shx_137 rfl fl_X10_58 dX10_leaveCallTo_41 ?_
          refine lv_iload_n hx hb dX10_leaveCallTo_44 rfl (lv_at hl 2 rfl) ?_
          refine lv_aload_n hx hb dX10_leaveCallTo_45 rfl (lv_at hl 0 rfl) ?_
          refine lv_aload_n hx hb dX10_leaveCallTo_46 rfl (lv_at hl 0 rfl) ?_
          refine g_get cx hw inX10 (ci := 9) rfl 14 (by decide) rfl (v := .ref (ad (sel 1 (μ.2.2 137 14)))) shx_137 rfl fl_X10_46 dX10_leaveCallTo_47 ?_
          refine g_get cx hw inX2 (ci := 1) rfl 1 (by decide) rfl (v := .ref (ad ((sel 1 (μ.2.2 137 14)) + 2))) (sel_1 _) rfl fl_X10_359 dX10_leaveCallTo_50 ?_
          refine lv_iload_n hx hb dX10_leaveCallTo_53 rfl (lv_at hl 3 rfl) ?_
          refine g_lald cx hw (rl_X2_1 (sel_1 _)) h dX10_leaveCallTo_54 (fun h => ?_)
          refine lv_iconst (v := 0) hx hb dX10_leaveCallTo_55 (by decide) ?_
          obtain ⟨r22, μ21, gr22, h⟩ := bd_some h
          refine g_callVL (As := [.long (μ.2.1 ((sel 1 (μ.2.2 137 14)) + 2) a3.toNatClampNeg), .int 0]) (rest := [.int a2, .ref (ad 141)]) cx hw hA (tpr_X10_lift l G ad 50 (μ.2.1 ((sel 1 (μ.2.2 137 14)) + 2) a3.toNatClampNeg) (0 : Int32) μ gr22) shx_137 rfl ml_X10_139 im_X10_lift se_X10_lift in_X10 co_X10_lift rfl hd_X10_lift rfl ⟨(Nat.le_of_ble_eq_true rfl), (Nat.le_of_ble_eq_true rfl)⟩ hl.1 rfl (Nat.le_of_ble_eq_true rfl) dX10_leaveCallTo_56 ⟨rfl, rfl⟩ (fun H locs hw => ?_)
          refine g_last cx hw shx_141 h dX10_leaveCallTo_59 (fun μ23 H locs h hw => ?_)
          obtain ⟨v24, ev24, h⟩ := bv_ex h
          refine lv_iinc (v := v24) (lv' := [(2, .int v24), (0, .ref (ad 137)), (1, .int a1), (3, .int a3)]) hx hb dX10_leaveCallTo_60 hl (k := 2) rfl (by rw [ev24]; rfl) (by decide) rfl (fun ls hl => ?_)
          exact t_X10_leaveCallTo_b63 l G ad av _ ih a1 v24 a3 μ23 h p e s m below meth c A ls H locs cx hr hlk hA (lv_sub hl [1, 2, 0, 3] rfl) hw
theorem p_X10_leaveCallTo_ex : ∃ f : Int32 → Mem → Option Mem, ∀ (a1 : Int32) (μ : Mem), f a1 μ = p_X10_leaveCallTo_b4  FUEL a1 (0 : Int32) (0 : Int32) μ := ⟨fun (a1 : Int32) (μ : Mem) => p_X10_leaveCallTo_b4  FUEL a1 (0 : Int32) (0 : Int32) μ, fun _ _ => rfl⟩
noncomputable def p_X10_leaveCallTo : Int32 → Mem → Option Mem := Classical.choose p_X10_leaveCallTo_ex
theorem p_X10_leaveCallTo_eq (a1 : Int32) (μ : Mem) : p_X10_leaveCallTo a1 μ = p_X10_leaveCallTo_b4  FUEL a1 (0 : Int32) (0 : Int32) μ := Classical.choose_spec p_X10_leaveCallTo_ex a1 μ
set_option maxHeartbeats 4000000 in
set_option maxRecDepth 100000 in
theorem t_X10_leaveCallTo (l : Launch) (G : Gt) (ad : Nat → Nat) (a1 : Int32) (μ : Mem) {μz : Mem} (h : p_X10_leaveCallTo a1 μ = some μz) : Mt l yX10_leaveCallTo cX10_leaveCallTo 7 none ({ frames := 101, cells := 0, slots := 0, locals := 2777 } : Room) G [.ref (ad 137), .int a1] (wd 0 G ad μ) (eV 0 G ad μz) := by
  refine Bk.mt (by decide) rfl (Nat.le_of_ble_eq_true rfl) ?_
  intro p e s m below meth c A ls H locs cx hr hlk hA hl hw
  have hx := cx.1
  have hb := cx.2.1
  have hl : lv_has ls 7 [(0, .ref (ad 137)), (1, .int a1)] := hl
  rw [p_X10_leaveCallTo_eq] at h
  refine lv_iconst (v := 0) hx hb dX10_leaveCallTo_0 (by decide) ?_
  refine lv_istore_n (lv' := [(2, .int 0), (0, .ref (ad 137)), (1, .int a1)]) hx hb dX10_leaveCallTo_1 rfl hl (by decide) rfl (fun ls hl => ?_)
  refine lv_iconst (v := 0) hx hb dX10_leaveCallTo_2 (by decide) ?_
  refine lv_istore_n (lv' := [(3, .int 0), (2, .int 0), (0, .ref (ad 137)), (1, .int a1)]) hx hb dX10_leaveCallTo_3 rfl hl (by decide) rfl (fun ls hl => ?_)
  exact t_X10_leaveCallTo_b4 l G ad _  FUEL a1 (0 : Int32) (0 : Int32) μ h p e s m below meth c A ls H locs cx hr hlk hA (lv_sub hl [2, 3, 1, 0] rfl) hw

theorem p_X10_leaveCall_b86_ex : ∃ f : Int32 → Mem → Option Mem, ∀ (a2 : Int32) (μ : Mem), f a2 μ = (if a2 = (-1 : Int32) then bw (p_X10_breakOff (-4 : Int32) μ) (fun μ8 => some μ8) else bw (p_X10_leaveCallTo a2 μ) (fun μ6 => some μ6)) := ⟨fun (a2 : Int32) (μ : Mem) => (if a2 = (-1 : Int32) then bw (p_X10_breakOff (-4 : Int32) μ) (fun μ8 => some μ8) else bw (p_X10_leaveCallTo a2 μ) (fun μ6 => some μ6)), fun _ _ => rfl⟩
noncomputable def p_X10_leaveCall_b86 : Int32 → Mem → Option Mem := Classical.choose p_X10_leaveCall_b86_ex
theorem p_X10_leaveCall_b86_eq (a2 : Int32) (μ : Mem) : p_X10_leaveCall_b86 a2 μ = (if a2 = (-1 : Int32) then bw (p_X10_breakOff (-4 : Int32) μ) (fun μ8 => some μ8) else bw (p_X10_leaveCallTo a2 μ) (fun μ6 => some μ6)) := Classical.choose_spec p_X10_leaveCall_b86_ex a2 μ
set_option maxHeartbeats 4000000 in
set_option maxRecDepth 100000 in
theorem t_X10_leaveCall_b86 (l : Launch) (G : Gt) (ad : Nat → Nat) (av : List Value) {μz : Mem} (a2 : Int32) (μ : Mem) (h : p_X10_leaveCall_b86  a2 μ = some μz) : Bk l cX10_leaveCall 3 RX10 none ({ frames := 102, cells := 0, slots := 0, locals := 2803 } : Room) G av (eV 0 G ad μz) (wd 0 G ad μ) 86 [(0, .ref (ad 137)), (2, .int a2)] [] := by
  intro p e s m below meth c A ls H locs cx hr hlk hA hl hw
  have hx := cx.1
  have hb := cx.2.1
  rw [p_X10_leaveCall_b86_eq] at h
  refine lv_iload_n hx hb dX10_leaveCall_86 rfl (lv_at hl 1 rfl) ?_
  refine lv_iconst (v := (-1)) hx hb dX10_leaveCall_87 (by decide) ?_
  refine lv_icmp_ne (tgt := 98) hx hb dX10_leaveCall_88 (by decide) (fun c5 => ?_) (fun c5 => ?_)
  · rw [if_neg c5] at h
    refine lv_aload_n hx hb dX10_leaveCall_98 rfl (lv_at hl 0 rfl) ?_
    refine lv_iload_n hx hb dX10_leaveCall_99 rfl (lv_at hl 1 rfl) ?_
    obtain ⟨μ6, gμ6, h⟩ := bw_some h
    refine g_callVV (As := [.int a2]) (rest := []) cx hw hA (t_X10_leaveCallTo l G ad a2 μ gμ6) shx_137 rfl ml_X10_342 im_X10_leaveCallTo se_X10_leaveCallTo in_X10 co_X10_leaveCallTo rfl hd_X10_leaveCallTo rfl ⟨(Nat.le_of_ble_eq_true rfl), (Nat.le_of_ble_eq_true rfl)⟩ hl.1 rfl (Nat.le_of_ble_eq_true rfl) dX10_leaveCall_100 ⟨rfl, rfl⟩ (fun H locs hw => ?_)
    exact g_vret cx hr hlk hw h dX10_leaveCall_103
  · rw [if_pos c5] at h
    refine lv_aload_n hx hb dX10_leaveCall_91 rfl (lv_at hl 0 rfl) ?_
    refine lv_bipush (v := (-4)) hx hb dX10_leaveCall_92 (by decide) ?_
    obtain ⟨μ8, gμ8, h⟩ := bw_some h
    refine g_callVV (As := [.int (-4)]) (rest := []) cx hw hA (t_X10_breakOff l G ad (-4 : Int32) μ gμ8) shx_137 rfl ml_X10_227 im_X10_breakOff se_X10_breakOff in_X10 co_X10_breakOff rfl hd_X10_breakOff rfl ⟨(Nat.le_of_ble_eq_true rfl), (Nat.le_of_ble_eq_true rfl)⟩ hl.1 rfl (Nat.le_of_ble_eq_true rfl) dX10_leaveCall_94 ⟨rfl, rfl⟩ (fun H locs hw => ?_)
    exact g_vret cx hr hlk hw h dX10_leaveCall_97
theorem p_X10_leaveCall_b65_ex : ∃ f : Int32 → Mem → Option Mem, ∀ (a2 : Int32) (μ : Mem), f a2 μ = (if a2 = (-1 : Int32) then bd (p_X5_addVariant (sel 1 (μ.2.2 137 14)) (μ.1 137 7) μ) (fun r11 μ10 => p_X10_leaveCall_b86  r11 μ10) else p_X10_leaveCall_b86  a2 μ) := ⟨fun (a2 : Int32) (μ : Mem) => (if a2 = (-1 : Int32) then bd (p_X5_addVariant (sel 1 (μ.2.2 137 14)) (μ.1 137 7) μ) (fun r11 μ10 => p_X10_leaveCall_b86  r11 μ10) else p_X10_leaveCall_b86  a2 μ), fun _ _ => rfl⟩
noncomputable def p_X10_leaveCall_b65 : Int32 → Mem → Option Mem := Classical.choose p_X10_leaveCall_b65_ex
theorem p_X10_leaveCall_b65_eq (a2 : Int32) (μ : Mem) : p_X10_leaveCall_b65 a2 μ = (if a2 = (-1 : Int32) then bd (p_X5_addVariant (sel 1 (μ.2.2 137 14)) (μ.1 137 7) μ) (fun r11 μ10 => p_X10_leaveCall_b86  r11 μ10) else p_X10_leaveCall_b86  a2 μ) := Classical.choose_spec p_X10_leaveCall_b65_ex a2 μ
set_option maxHeartbeats 4000000 in
set_option maxRecDepth 100000 in
theorem t_X10_leaveCall_b65 (l : Launch) (G : Gt) (ad : Nat → Nat) (av : List Value) {μz : Mem} (a2 : Int32) (μ : Mem) (h : p_X10_leaveCall_b65  a2 μ = some μz) : Bk l cX10_leaveCall 3 RX10 none ({ frames := 102, cells := 0, slots := 0, locals := 2803 } : Room) G av (eV 0 G ad μz) (wd 0 G ad μ) 65 [(0, .ref (ad 137)), (2, .int a2)] [] := by
  intro p e s m below meth c A ls H locs cx hr hlk hA hl hw
  have hx := cx.1
  have hb := cx.2.1
  rw [p_X10_leaveCall_b65_eq] at h
  refine lv_iload_n hx hb dX10_leaveCall_65 rfl (lv_at hl 1 rfl) ?_
  refine lv_iconst (v := (-1)) hx hb dX10_leaveCall_66 (by decide) ?_
  refine lv_icmp_ne (tgt := 86) hx hb dX10_leaveCall_67 (by decide) (fun c4 => ?_) (fun c4 => ?_)
  · rw [if_neg c4] at h
    exact t_X10_leaveCall_b86 l G ad av  a2 μ h p e s m below meth c A ls H locs cx hr hlk hA (lv_sub hl [0, 1] rfl) hw
  · rw [if_pos c4] at h
    refine lv_aload_n hx hb dX10_leaveCall_70 rfl (lv_at hl 0 rfl) ?_
    refine g_get cx hw inX10 (ci := 9) rfl 4 (by decide) rfl (v := .ref (ad 39)) shx_137 rfl fl_X10_25 dX10_leaveCall_71 ?_
    refine lv_aload_n hx hb dX10_leaveCall_74 rfl (lv_at hl 0 rfl) ?_
    refine g_get cx hw inX10 (ci := 9) rfl 14 (by decide) rfl (v := .ref (ad (sel 1 (μ.2.2 137 14)))) shx_137 rfl fl_X10_46 dX10_leaveCall_75 ?_
    refine lv_aload_n hx hb dX10_leaveCall_78 rfl (lv_at hl 0 rfl) ?_
    refine g_get cx hw inX10 (ci := 9) rfl 7 (by decide) rfl (v := .int (μ.1 137 7)) shx_137 rfl fl_X10_92 dX10_leaveCall_79 ?_
    obtain ⟨r11, μ10, gr11, h⟩ := bd_some h
    refine g_callVI (As := [.ref (ad (sel 1 (μ.2.2 137 14))), .int (μ.1 137 7)]) (rest := []) cx hw hA (t_X5_addVariant l G ad (sel 1 (μ.2.2 137 14)) (sel_1 _) (μ.1 137 7) μ gr11) shx_39 rfl ml_X10_85 im_X5_addVariant se_X5_addVariant in_X5 co_X5_addVariant rfl hd_X5_addVariant rfl ⟨(Nat.le_of_ble_eq_true rfl), (Nat.le_of_ble_eq_true rfl)⟩ hl.1 rfl (Nat.le_of_ble_eq_true rfl) dX10_leaveCall_82 ⟨rfl, rfl⟩ (fun H locs hw => ?_)
    refine lv_istore_n (lv' := [(2, .int r11), (0, .ref (ad 137))]) hx hb dX10_leaveCall_85 rfl hl (by decide) rfl (fun ls hl => ?_)
    exact t_X10_leaveCall_b86 l G ad av  r11 μ10 h p e s m below meth c A ls H locs cx hr hlk hA (lv_sub hl [1, 0] rfl) hw
theorem p_X10_leaveCall_ex : ∃ f : Int32 → Mem → Option Mem, ∀ (a1 : Int32) (μ : Mem), f a1 μ = bd (p_X5_find (sel 1 (μ.2.2 137 14)) μ) (fun r2 μ1 => (if r2 = (-1 : Int32) then bd (p_X10_isTooMuch a1 μ1) (fun r13 μ12 => (if r13 = (0 : Int32) then p_X10_leaveCall_b65  r2 μ12 else bv (sF μ12 39 5 ((μ12.1 39 5) + (1 : Int32))) (fun μ15 => bw (p_X2_letAllGo (sel 1 (μ15.2.2 137 14)) (sel 1 (μ15.2.2 137 15)) μ15) (fun μ16 => bw (p_X10_swapCalls μ16) (fun μ18 => bd (p_X5_find (sel 1 (μ18.2.2 137 14)) μ18) (fun r21 μ20 => p_X10_leaveCall_b65  r21 μ20)))))) else p_X10_leaveCall_b65  r2 μ1)) := ⟨fun (a1 : Int32) (μ : Mem) => bd (p_X5_find (sel 1 (μ.2.2 137 14)) μ) (fun r2 μ1 => (if r2 = (-1 : Int32) then bd (p_X10_isTooMuch a1 μ1) (fun r13 μ12 => (if r13 = (0 : Int32) then p_X10_leaveCall_b65  r2 μ12 else bv (sF μ12 39 5 ((μ12.1 39 5) + (1 : Int32))) (fun μ15 => bw (p_X2_letAllGo (sel 1 (μ15.2.2 137 14)) (sel 1 (μ15.2.2 137 15)) μ15) (fun μ16 => bw (p_X10_swapCalls μ16) (fun μ18 => bd (p_X5_find (sel 1 (μ18.2.2 137 14)) μ18) (fun r21 μ20 => p_X10_leaveCall_b65  r21 μ20)))))) else p_X10_leaveCall_b65  r2 μ1)), fun _ _ => rfl⟩
noncomputable def p_X10_leaveCall : Int32 → Mem → Option Mem := Classical.choose p_X10_leaveCall_ex
theorem p_X10_leaveCall_eq (a1 : Int32) (μ : Mem) : p_X10_leaveCall a1 μ = bd (p_X5_find (sel 1 (μ.2.2 137 14)) μ) (fun r2 μ1 => (if r2 = (-1 : Int32) then bd (p_X10_isTooMuch a1 μ1) (fun r13 μ12 => (if r13 = (0 : Int32) then p_X10_leaveCall_b65  r2 μ12 else bv (sF μ12 39 5 ((μ12.1 39 5) + (1 : Int32))) (fun μ15 => bw (p_X2_letAllGo (sel 1 (μ15.2.2 137 14)) (sel 1 (μ15.2.2 137 15)) μ15) (fun μ16 => bw (p_X10_swapCalls μ16) (fun μ18 => bd (p_X5_find (sel 1 (μ18.2.2 137 14)) μ18) (fun r21 μ20 => p_X10_leaveCall_b65  r21 μ20)))))) else p_X10_leaveCall_b65  r2 μ1)) := Classical.choose_spec p_X10_leaveCall_ex a1 μ
set_option maxHeartbeats 4000000 in
set_option maxRecDepth 100000 in
theorem t_X10_leaveCall (l : Launch) (G : Gt) (ad : Nat → Nat) (a1 : Int32) (μ : Mem) {μz : Mem} (h : p_X10_leaveCall a1 μ = some μz) : Mt l yX10_leaveCall cX10_leaveCall 3 none ({ frames := 102, cells := 0, slots := 0, locals := 2803 } : Room) G [.ref (ad 137), .int a1] (wd 0 G ad μ) (eV 0 G ad μz) := by
  refine Bk.mt (by decide) rfl (Nat.le_of_ble_eq_true rfl) ?_
  intro p e s m below meth c A ls H locs cx hr hlk hA hl hw
  have hx := cx.1
  have hb := cx.2.1
  have hl : lv_has ls 3 [(0, .ref (ad 137)), (1, .int a1)] := hl
  rw [p_X10_leaveCall_eq] at h
  refine lv_aload_n hx hb dX10_leaveCall_0 rfl (lv_at hl 0 rfl) ?_
  refine g_get cx hw inX10 (ci := 9) rfl 4 (by decide) rfl (v := .ref (ad 39)) shx_137 rfl fl_X10_25 dX10_leaveCall_1 ?_
  refine lv_aload_n hx hb dX10_leaveCall_4 rfl (lv_at hl 0 rfl) ?_
  refine g_get cx hw inX10 (ci := 9) rfl 14 (by decide) rfl (v := .ref (ad (sel 1 (μ.2.2 137 14)))) shx_137 rfl fl_X10_46 dX10_leaveCall_5 ?_
  obtain ⟨r2, μ1, gr2, h⟩ := bd_some h
  refine g_callVI (As := [.ref (ad (sel 1 (μ.2.2 137 14)))]) (rest := []) cx hw hA (t_X5_find l G ad (sel 1 (μ.2.2 137 14)) (sel_1 _) μ gr2) shx_39 rfl ml_X10_327 im_X5_find se_X5_find in_X5 co_X5_find rfl hd_X5_find rfl ⟨(Nat.le_of_ble_eq_true rfl), (Nat.le_of_ble_eq_true rfl)⟩ hl.1 rfl (Nat.le_of_ble_eq_true rfl) dX10_leaveCall_8 ⟨rfl, rfl⟩ (fun H locs hw => ?_)
  refine lv_istore_n (lv' := [(2, .int r2), (0, .ref (ad 137)), (1, .int a1)]) hx hb dX10_leaveCall_11 rfl hl (by decide) rfl (fun ls hl => ?_)
  refine lv_iload_n hx hb dX10_leaveCall_12 rfl (lv_at hl 0 rfl) ?_
  refine lv_iconst (v := (-1)) hx hb dX10_leaveCall_13 (by decide) ?_
  refine lv_icmp_ne (tgt := 65) hx hb dX10_leaveCall_14 (by decide) (fun c3 => ?_) (fun c3 => ?_)
  · rw [if_neg c3] at h
    exact t_X10_leaveCall_b65 l G ad _  r2 μ1 h p e s m below meth c A ls H locs cx hr hlk hA (lv_sub hl [1, 0] rfl) hw
  · rw [if_pos c3] at h
    refine lv_aload_n hx hb dX10_leaveCall_17 rfl (lv_at hl 1 rfl) ?_
    refine lv_iload_n hx hb dX10_leaveCall_18 rfl (lv_at hl 2 rfl) ?_
    obtain ⟨r13, μ12, gr13, h⟩ := bd_some h
    refine g_callVI (As := [.int a1]) (rest := []) cx hw hA (t_X10_isTooMuch l G ad a1 μ1 gr13) shx_137 rfl ml_X10_331 im_X10_isTooMuch se_X10_isTooMuch in_X10 co_X10_isTooMuch rfl hd_X10_isTooMuch rfl ⟨(Nat.le_of_ble_eq_true rfl), (Nat.le_of_ble_eq_true rfl)⟩ hl.1 rfl (Nat.le_of_ble_eq_true rfl) dX10_leaveCall_19 ⟨rfl, rfl⟩ (fun H locs hw => ?_)
    refine lv_if_eq (tgt := 65) hx hb dX10_leaveCall_22 (by decide) (fun c14 => ?_) (fun c14 => ?_)
    · rw [if_pos c14] at h
      exact t_X10_leaveCall_b65 l G ad _  r2 μ12 h p e s m below meth c A ls H locs cx hr hlk hA (lv_sub hl [1, 0] rfl) hw
    · rw [if_neg c14] at h
      refine lv_aload_n hx hb dX10_leaveCall_25 rfl (lv_at hl 1 rfl) ?_
      refine g_get cx hw inX10 (ci := 9) rfl 4 (by decide) rfl (v := .ref (ad 39)) shx_137 rfl fl_X10_25 dX10_leaveCall_26 ?_
      refine lv_dup hx hb dX10_leaveCall_29 rfl ?_
      refine g_get cx hw inX5 (ci := 4) rfl 5 (by decide) rfl (v := .int (μ12.1 39 5)) shx_39 rfl fl_X10_335 dX10_leaveCall_30 ?_
      refine lv_iconst (v := 1) hx hb dX10_leaveCall_33 (by decide) ?_
      refine lv_iadd hx hb dX10_leaveCall_34 ?_
      refine g_put cx hw inX5 (ci := 4) rfl tyX5_ok nmX5 5 (by decide) rfl rfl rfl rfl shx_39 h fl_X10_335 dX10_leaveCall_35 (fun μ15 H locs h hw => ?_)
      refine lv_aload_n hx hb dX10_leaveCall_38 rfl (lv_at hl 1 rfl) ?_
      refine g_get cx hw inX10 (ci := 9) rfl 14 (by decide) rfl (v := .ref (ad (sel 1 (μ15.2.2 137 14)))) shx_137 rfl fl_X10_46 dX10_leaveCall_39 ?_
      refine lv_aload_n hx hb dX10_leaveCall_42 rfl (lv_at hl 1 rfl) ?_
      refine g_get cx hw inX10 (ci := 9) rfl 15 (by decide) rfl (v := .ref (ad (sel 1 (μ15.2.2 137 15)))) shx_137 rfl fl_X10_50 dX10_leaveCall_43 ?_
      obtain ⟨μ16, gμ16, h⟩ := bw_some h
      refine g_callVV (As := [.ref (ad (sel 1 (μ15.2.2 137 15)))]) (rest := []) cx hw hA (t_X2_letAllGo l G ad (sel 1 (μ15.2.2 137 14)) (sel_1 _) (sel 1 (μ15.2.2 137 15)) (sel_1 _) μ15 gμ16) (sel_1 _) rfl ml_X10_338 im_X2_letAllGo se_X2_letAllGo in_X2 co_X2_letAllGo rfl hd_X2_letAllGo rfl ⟨(Nat.le_of_ble_eq_true rfl), (Nat.le_of_ble_eq_true rfl)⟩ hl.1 rfl (Nat.le_of_ble_eq_true rfl) dX10_leaveCall_46 ⟨rfl, rfl⟩ (fun H locs hw => ?_)
      refine lv_aload_n hx hb dX10_leaveCall_49 rfl (lv_at hl 1 rfl) ?_
      obtain ⟨μ18, gμ18, h⟩ := bw_some h
      refine g_callVV (As := []) (rest := []) cx hw hA (t_X10_swapCalls l G ad μ16 gμ18) shx_137 rfl ml_X10_321 im_X10_swapCalls se_X10_swapCalls in_X10 co_X10_swapCalls rfl hd_X10_swapCalls rfl ⟨(Nat.le_of_ble_eq_true rfl), (Nat.le_of_ble_eq_true rfl)⟩ hl.1 rfl (Nat.le_of_ble_eq_true rfl) dX10_leaveCall_50 ⟨rfl, rfl⟩ (fun H locs hw => ?_)
      refine lv_aload_n hx hb dX10_leaveCall_53 rfl (lv_at hl 1 rfl) ?_
      refine g_get cx hw inX10 (ci := 9) rfl 4 (by decide) rfl (v := .ref (ad 39)) shx_137 rfl fl_X10_25 dX10_leaveCall_54 ?_
      refine lv_aload_n hx hb dX10_leaveCall_57 rfl (lv_at hl 1 rfl) ?_
      refine g_get cx hw inX10 (ci := 9) rfl 14 (by decide) rfl (v := .ref (ad (sel 1 (μ18.2.2 137 14)))) shx_137 rfl fl_X10_46 dX10_leaveCall_58 ?_
      obtain ⟨r21, μ20, gr21, h⟩ := bd_some h
      refine g_callVI (As := [.ref (ad (sel 1 (μ18.2.2 137 14)))]) (rest := []) cx hw hA (t_X5_find l G ad (sel 1 (μ18.2.2 137 14)) (sel_1 _) μ18 gr21) shx_39 rfl ml_X10_327 im_X5_find se_X5_find in_X5 co_X5_find rfl hd_X5_find rfl ⟨(Nat.le_of_ble_eq_true rfl), (Nat.le_of_ble_eq_true rfl)⟩ hl.1 rfl (Nat.le_of_ble_eq_true rfl) dX10_leaveCall_61 ⟨rfl, rfl⟩ (fun H locs hw => ?_)
      refine lv_istore_n (lv' := [(2, .int r21), (0, .ref (ad 137)), (1, .int a1)]) hx hb dX10_leaveCall_64 rfl hl (by decide) rfl (fun ls hl => ?_)
      exact t_X10_leaveCall_b65 l G ad _  r21 μ20 h p e s m below meth c A ls H locs cx hr hlk hA (lv_sub hl [1, 0] rfl) hw

theorem p_X8_closeFrame_ex : ∃ f : Mem → Option (Int32 × Mem), ∀  (μ : Mem), f  μ = (if (1 : Int32) ≤ (μ.1 30 10) then bv (sF μ 30 10 ((μ.1 30 10) - (1 : Int32))) (fun μ2 => gd (inb ((μ2.1 30 10) + (1 : Int32)) 31) (some ((μ2.1 38 ((μ2.1 30 10) + (1 : Int32)).toNatClampNeg), μ2))) else some ((-1 : Int32), μ)) := ⟨fun  (μ : Mem) => (if (1 : Int32) ≤ (μ.1 30 10) then bv (sF μ 30 10 ((μ.1 30 10) - (1 : Int32))) (fun μ2 => gd (inb ((μ2.1 30 10) + (1 : Int32)) 31) (some ((μ2.1 38 ((μ2.1 30 10) + (1 : Int32)).toNatClampNeg), μ2))) else some ((-1 : Int32), μ)), fun _ => rfl⟩
noncomputable def p_X8_closeFrame : Mem → Option (Int32 × Mem) := Classical.choose p_X8_closeFrame_ex
theorem p_X8_closeFrame_eq  (μ : Mem) : p_X8_closeFrame  μ = (if (1 : Int32) ≤ (μ.1 30 10) then bv (sF μ 30 10 ((μ.1 30 10) - (1 : Int32))) (fun μ2 => gd (inb ((μ2.1 30 10) + (1 : Int32)) 31) (some ((μ2.1 38 ((μ2.1 30 10) + (1 : Int32)).toNatClampNeg), μ2))) else some ((-1 : Int32), μ)) := Classical.choose_spec p_X8_closeFrame_ex  μ
set_option maxHeartbeats 4000000 in
set_option maxRecDepth 100000 in
theorem t_X8_closeFrame (l : Launch) (G : Gt) (ad : Nat → Nat)  (μ : Mem) {r : Int32} {μz : Mem} (h : p_X8_closeFrame  μ = some (r, μz)) : Mt l yX8_closeFrame cX8_closeFrame 1 (some .int) ({ frames := 0, cells := 0, slots := 0, locals := 0 } : Room) G [.ref (ad 30)] (wd 0 G ad μ) (eI 0 G ad r μz) := by
  refine Bk.mt (by decide) rfl (Nat.le_of_ble_eq_true rfl) ?_
  intro p e s m below meth c A ls H locs cx hr hlk hA hl hw
  have hx := cx.1
  have hb := cx.2.1
  have hl : lv_has ls 1 [(0, .ref (ad 30))] := hl
  rw [p_X8_closeFrame_eq] at h
  refine lv_aload_n hx hb dX8_closeFrame_0 rfl (lv_at hl 0 rfl) ?_
  refine g_get cx hw inX8 (ci := 7) rfl 10 (by decide) rfl (v := .int (μ.1 30 10)) shx_30 rfl fl_X8_48 dX8_closeFrame_1 ?_
  refine lv_iconst (v := 1) hx hb dX8_closeFrame_4 (by decide) ?_
  refine lv_icmp_ge (tgt := 10) hx hb dX8_closeFrame_5 (by decide) (fun c1 => ?_) (fun c1 => ?_)
  · rw [if_pos c1] at h
    refine lv_aload_n hx hb dX8_closeFrame_10 rfl (lv_at hl 0 rfl) ?_
    refine lv_dup hx hb dX8_closeFrame_11 rfl ?_
    refine g_get cx hw inX8 (ci := 7) rfl 10 (by decide) rfl (v := .int (μ.1 30 10)) shx_30 rfl fl_X8_48 dX8_closeFrame_12 ?_
    refine lv_iconst (v := 1) hx hb dX8_closeFrame_15 (by decide) ?_
    refine lv_isub hx hb dX8_closeFrame_16 ?_
    refine g_put cx hw inX8 (ci := 7) rfl tyX8_ok nmX8 10 (by decide) rfl rfl rfl rfl shx_30 h fl_X8_48 dX8_closeFrame_17 (fun μ2 H locs h hw => ?_)
    refine lv_aload_n hx hb dX8_closeFrame_20 rfl (lv_at hl 0 rfl) ?_
    refine g_get cx hw inX8 (ci := 7) rfl 9 (by decide) rfl (v := .ref (ad 38)) shx_30 rfl fl_X8_38 dX8_closeFrame_21 ?_
    refine lv_aload_n hx hb dX8_closeFrame_24 rfl (lv_at hl 0 rfl) ?_
    refine g_get cx hw inX8 (ci := 7) rfl 10 (by decide) rfl (v := .int (μ2.1 30 10)) shx_30 rfl fl_X8_48 dX8_closeFrame_25 ?_
    refine lv_iconst (v := 1) hx hb dX8_closeFrame_28 (by decide) ?_
    refine lv_iadd hx hb dX8_closeFrame_29 ?_
    refine g_iald cx hw shx_38 h dX8_closeFrame_30 (fun h => ?_)
    exact g_iret cx hr hlk hw h dX8_closeFrame_31
  · rw [if_neg c1] at h
    refine lv_iconst (v := (-1)) hx hb dX8_closeFrame_8 (by decide) ?_
    exact g_iret cx hr hlk hw h dX8_closeFrame_9

theorem p_X10_goBack_ex : ∃ f : Mem → Option Mem, ∀  (μ : Mem), f  μ = bd (p_X8_closeFrame μ) (fun r2 μ1 => bv (sF μ1 137 9 r2) (fun μ3 => (if (μ3.1 137 9) = (-1 : Int32) then bd (p_X8_pop μ3) (fun r6 μ5 => bd (pr_X10_lift 50 r6 (0 : Int32) μ5) (fun r8 μ7 => bw (p_X5_endBlock (μ3.1 137 8) r8 μ7) (fun μ9 => bw (p_X10_beginVariant ((μ9.1 137 7) + (1 : Int32)) μ9) (fun μ11 => some μ11)))) else some μ3))) := ⟨fun  (μ : Mem) => bd (p_X8_closeFrame μ) (fun r2 μ1 => bv (sF μ1 137 9 r2) (fun μ3 => (if (μ3.1 137 9) = (-1 : Int32) then bd (p_X8_pop μ3) (fun r6 μ5 => bd (pr_X10_lift 50 r6 (0 : Int32) μ5) (fun r8 μ7 => bw (p_X5_endBlock (μ3.1 137 8) r8 μ7) (fun μ9 => bw (p_X10_beginVariant ((μ9.1 137 7) + (1 : Int32)) μ9) (fun μ11 => some μ11)))) else some μ3))), fun _ => rfl⟩
noncomputable def p_X10_goBack : Mem → Option Mem := Classical.choose p_X10_goBack_ex
theorem p_X10_goBack_eq  (μ : Mem) : p_X10_goBack  μ = bd (p_X8_closeFrame μ) (fun r2 μ1 => bv (sF μ1 137 9 r2) (fun μ3 => (if (μ3.1 137 9) = (-1 : Int32) then bd (p_X8_pop μ3) (fun r6 μ5 => bd (pr_X10_lift 50 r6 (0 : Int32) μ5) (fun r8 μ7 => bw (p_X5_endBlock (μ3.1 137 8) r8 μ7) (fun μ9 => bw (p_X10_beginVariant ((μ9.1 137 7) + (1 : Int32)) μ9) (fun μ11 => some μ11)))) else some μ3))) := Classical.choose_spec p_X10_goBack_ex  μ
set_option maxHeartbeats 4000000 in
set_option maxRecDepth 100000 in
theorem t_X10_goBack (l : Launch) (G : Gt) (ad : Nat → Nat)  (μ : Mem) {μz : Mem} (h : p_X10_goBack  μ = some μz) : Mt l yX10_goBack cX10_goBack 1 none ({ frames := 101, cells := 0, slots := 0, locals := 2777 } : Room) G [.ref (ad 137)] (wd 0 G ad μ) (eV 0 G ad μz) := by
  refine Bk.mt (by decide) rfl (Nat.le_of_ble_eq_true rfl) ?_
  intro p e s m below meth c A ls H locs cx hr hlk hA hl hw
  have hx := cx.1
  have hb := cx.2.1
  have hl : lv_has ls 1 [(0, .ref (ad 137))] := hl
  rw [p_X10_goBack_eq] at h
  refine lv_aload_n hx hb dX10_goBack_0 rfl (lv_at hl 0 rfl) ?_
  refine lv_aload_n hx hb dX10_goBack_1 rfl (lv_at hl 0 rfl) ?_
  refine g_get cx hw inX10 (ci := 9) rfl 3 (by decide) rfl (v := .ref (ad 30)) shx_137 rfl fl_X10_21 dX10_goBack_2 ?_
  obtain ⟨r2, μ1, gr2, h⟩ := bd_some h
  refine g_callVI (As := []) (rest := [.ref (ad 137)]) cx hw hA (t_X8_closeFrame l G ad μ gr2) shx_30 rfl ml_X10_132 im_X8_closeFrame se_X8_closeFrame in_X8 co_X8_closeFrame rfl hd_X8_closeFrame rfl ⟨(Nat.le_of_ble_eq_true rfl), (Nat.le_of_ble_eq_true rfl)⟩ hl.1 rfl (Nat.le_of_ble_eq_true rfl) dX10_goBack_5 ⟨rfl, rfl⟩ (fun H locs hw => ?_)
  refine g_put cx hw inX10 (ci := 9) rfl tyX10_ok nmX10 9 (by decide) rfl rfl rfl rfl shx_137 h fl_X10_73 dX10_goBack_8 (fun μ3 H locs h hw => ?_)
  refine lv_aload_n hx hb dX10_goBack_11 rfl (lv_at hl 0 rfl) ?_
  refine g_get cx hw inX10 (ci := 9) rfl 9 (by decide) rfl (v := .int (μ3.1 137 9)) shx_137 rfl fl_X10_73 dX10_goBack_12 ?_
  refine lv_iconst (v := (-1)) hx hb dX10_goBack_15 (by decide) ?_
  refine lv_icmp_ne (tgt := 52) hx hb dX10_goBack_16 (by decide) (fun c4 => ?_) (fun c4 => ?_)
  · rw [if_neg c4] at h
    exact g_vret cx hr hlk hw h dX10_goBack_52
  · rw [if_pos c4] at h
    refine lv_aload_n hx hb dX10_goBack_19 rfl (lv_at hl 0 rfl) ?_
    refine g_get cx hw inX10 (ci := 9) rfl 4 (by decide) rfl (v := .ref (ad 39)) shx_137 rfl fl_X10_25 dX10_goBack_20 ?_
    refine lv_aload_n hx hb dX10_goBack_23 rfl (lv_at hl 0 rfl) ?_
    refine g_get cx hw inX10 (ci := 9) rfl 8 (by decide) rfl (v := .int (μ3.1 137 8)) shx_137 rfl fl_X10_108 dX10_goBack_24 ?_
    refine lv_aload_n hx hb dX10_goBack_27 rfl (lv_at hl 0 rfl) ?_
    refine lv_aload_n hx hb dX10_goBack_28 rfl (lv_at hl 0 rfl) ?_
    refine g_get cx hw inX10 (ci := 9) rfl 3 (by decide) rfl (v := .ref (ad 30)) shx_137 rfl fl_X10_21 dX10_goBack_29 ?_
    obtain ⟨r6, μ5, gr6, h⟩ := bd_some h
    refine g_callVL (As := []) (rest := [.ref (ad 137), .int (μ3.1 137 8), .ref (ad 39)]) cx hw hA (t_X8_pop l G ad μ3 gr6) shx_30 rfl ml_X10_135 im_X8_pop se_X8_pop in_X8 co_X8_pop rfl hd_X8_pop rfl ⟨(Nat.le_of_ble_eq_true rfl), (Nat.le_of_ble_eq_true rfl)⟩ hl.1 rfl (Nat.le_of_ble_eq_true rfl) dX10_goBack_32 ⟨rfl, rfl⟩ (fun H locs hw => ?_)
    refine lv_iconst (v := 0) hx hb dX10_goBack_35 (by decide) ?_
    obtain ⟨r8, μ7, gr8, h⟩ := bd_some h
    refine g_callVL (As := [.long r6, .int 0]) (rest := [.int (μ3.1 137 8), .ref (ad 39)]) cx hw hA (tpr_X10_lift l G ad 50 r6 (0 : Int32) μ5 gr8) shx_137 rfl ml_X10_139 im_X10_lift se_X10_lift in_X10 co_X10_lift rfl hd_X10_lift rfl ⟨(Nat.le_of_ble_eq_true rfl), (Nat.le_of_ble_eq_true rfl)⟩ hl.1 rfl (Nat.le_of_ble_eq_true rfl) dX10_goBack_36 ⟨rfl, rfl⟩ (fun H locs hw => ?_)
    obtain ⟨μ9, gμ9, h⟩ := bw_some h
    refine g_callVV (As := [.int (μ3.1 137 8), .long r8]) (rest := []) cx hw hA (t_X5_endBlock l G ad (μ3.1 137 8) r8 μ7 gμ9) shx_39 rfl ml_X10_143 im_X5_endBlock se_X5_endBlock in_X5 co_X5_endBlock rfl hd_X5_endBlock rfl ⟨(Nat.le_of_ble_eq_true rfl), (Nat.le_of_ble_eq_true rfl)⟩ hl.1 rfl (Nat.le_of_ble_eq_true rfl) dX10_goBack_39 ⟨rfl, rfl⟩ (fun H locs hw => ?_)
    refine lv_aload_n hx hb dX10_goBack_42 rfl (lv_at hl 0 rfl) ?_
    refine lv_aload_n hx hb dX10_goBack_43 rfl (lv_at hl 0 rfl) ?_
    refine g_get cx hw inX10 (ci := 9) rfl 7 (by decide) rfl (v := .int (μ9.1 137 7)) shx_137 rfl fl_X10_92 dX10_goBack_44 ?_
    refine lv_iconst (v := 1) hx hb dX10_goBack_47 (by decide) ?_
    refine lv_iadd hx hb dX10_goBack_48 ?_
    obtain ⟨μ11, gμ11, h⟩ := bw_some h
    refine g_callVV (As := [.int ((μ9.1 137 7) + (1 : Int32))]) (rest := []) cx hw hA (t_X10_beginVariant l G ad ((μ9.1 137 7) + (1 : Int32)) μ9 gμ11) shx_137 rfl ml_X10_89 im_X10_beginVariant se_X10_beginVariant in_X10 co_X10_beginVariant rfl hd_X10_beginVariant rfl ⟨(Nat.le_of_ble_eq_true rfl), (Nat.le_of_ble_eq_true rfl)⟩ hl.1 rfl (Nat.le_of_ble_eq_true rfl) dX10_goBack_49 ⟨rfl, rfl⟩ (fun H locs hw => ?_)
    exact g_vret cx hr hlk hw h dX10_goBack_52

theorem p_X10_step_ex : ∃ f : Mem → Option Mem, ∀  (μ : Mem), f  μ = bd (p_X3_stepAt (sel 2 (μ.2.2 137 5)) (μ.1 137 9) μ) (fun r2 μ1 => bd (p_X3_markAt (sel 2 (μ1.2.2 137 5)) (μ1.1 137 9) μ1) (fun r4 μ3 => bd (p_X3_bitsAt (sel 2 (μ3.2.2 137 5)) (μ3.1 137 9) μ3) (fun r6 μ5 => bv (sF μ5 137 9 ((μ5.1 137 9) + (1 : Int32))) (fun μ7 => (if r2 = (0 : Int32) then bw (p_X8_push (s_X0_make r4 r6) μ7) (fun μ10 => some μ10) else (if r2 = (1 : Int32) then bd (p_X8_varAt r4 μ7) (fun r14 μ13 => bw (p_X8_push r14 μ13) (fun μ15 => some μ15)) else (if r2 = (2 : Int32) then bw (p_X10_reckon r4 μ7) (fun μ18 => some μ18) else (if r2 = (3 : Int32) then bw (p_X10_turn r4 μ7) (fun μ21 => some μ21) else (if r2 = (4 : Int32) then bw (p_X10_takePart r4 μ7) (fun μ24 => some μ24) else (if r2 = (5 : Int32) then bw (p_X10_makePair μ7) (fun μ27 => some μ27) else (if r2 = (6 : Int32) then bw (p_X10_test r4 μ7) (fun μ30 => some μ30) else (if r2 = (7 : Int32) then bw (p_X10_endThen r4 μ7) (fun μ33 => some μ33) else (if r2 = (8 : Int32) then bw (p_X10_endElse μ7) (fun μ36 => some μ36) else (if r2 = (9 : Int32) then bd (p_X8_fromTop (0 : Int32) μ7) (fun r40 μ39 => bd (p_X8_num r40 μ39) (fun r42 μ41 => bd (p_X10_leave (7 : Int32) (0 : Int32) r42 (0 : Int64) μ41) (fun r44 μ43 => some μ43))) else (if r2 = (10 : Int32) then bw (p_X10_putAt r4 μ7) (fun μ46 => some μ46) else (if r2 = (11 : Int32) then bd (p_X10_leave (9 : Int32) r4 (0 : Int64) (0 : Int64) μ7) (fun r50 μ49 => bw (p_X8_push r50 μ49) (fun μ51 => some μ51)) else (if r2 = (12 : Int32) then bd (p_X8_pop μ7) (fun r55 μ54 => bw (p_X8_setVar r4 r55 μ54) (fun μ56 => some μ56)) else (if r2 = (13 : Int32) then bd (p_X10_workCall r4 r6 μ7) (fun r60 μ59 => (if r60 = (0 : Int32) then bw (p_X10_shapeCall r4 r6 μ59) (fun μ62 => bw (p_X10_leaveCall r4 μ62) (fun μ64 => some μ64)) else some μ59)) else bw (p_X10_goBack μ7) (fun μ66 => some μ66))))))))))))))))))) := ⟨fun  (μ : Mem) => bd (p_X3_stepAt (sel 2 (μ.2.2 137 5)) (μ.1 137 9) μ) (fun r2 μ1 => bd (p_X3_markAt (sel 2 (μ1.2.2 137 5)) (μ1.1 137 9) μ1) (fun r4 μ3 => bd (p_X3_bitsAt (sel 2 (μ3.2.2 137 5)) (μ3.1 137 9) μ3) (fun r6 μ5 => bv (sF μ5 137 9 ((μ5.1 137 9) + (1 : Int32))) (fun μ7 => (if r2 = (0 : Int32) then bw (p_X8_push (s_X0_make r4 r6) μ7) (fun μ10 => some μ10) else (if r2 = (1 : Int32) then bd (p_X8_varAt r4 μ7) (fun r14 μ13 => bw (p_X8_push r14 μ13) (fun μ15 => some μ15)) else (if r2 = (2 : Int32) then bw (p_X10_reckon r4 μ7) (fun μ18 => some μ18) else (if r2 = (3 : Int32) then bw (p_X10_turn r4 μ7) (fun μ21 => some μ21) else (if r2 = (4 : Int32) then bw (p_X10_takePart r4 μ7) (fun μ24 => some μ24) else (if r2 = (5 : Int32) then bw (p_X10_makePair μ7) (fun μ27 => some μ27) else (if r2 = (6 : Int32) then bw (p_X10_test r4 μ7) (fun μ30 => some μ30) else (if r2 = (7 : Int32) then bw (p_X10_endThen r4 μ7) (fun μ33 => some μ33) else (if r2 = (8 : Int32) then bw (p_X10_endElse μ7) (fun μ36 => some μ36) else (if r2 = (9 : Int32) then bd (p_X8_fromTop (0 : Int32) μ7) (fun r40 μ39 => bd (p_X8_num r40 μ39) (fun r42 μ41 => bd (p_X10_leave (7 : Int32) (0 : Int32) r42 (0 : Int64) μ41) (fun r44 μ43 => some μ43))) else (if r2 = (10 : Int32) then bw (p_X10_putAt r4 μ7) (fun μ46 => some μ46) else (if r2 = (11 : Int32) then bd (p_X10_leave (9 : Int32) r4 (0 : Int64) (0 : Int64) μ7) (fun r50 μ49 => bw (p_X8_push r50 μ49) (fun μ51 => some μ51)) else (if r2 = (12 : Int32) then bd (p_X8_pop μ7) (fun r55 μ54 => bw (p_X8_setVar r4 r55 μ54) (fun μ56 => some μ56)) else (if r2 = (13 : Int32) then bd (p_X10_workCall r4 r6 μ7) (fun r60 μ59 => (if r60 = (0 : Int32) then bw (p_X10_shapeCall r4 r6 μ59) (fun μ62 => bw (p_X10_leaveCall r4 μ62) (fun μ64 => some μ64)) else some μ59)) else bw (p_X10_goBack μ7) (fun μ66 => some μ66))))))))))))))))))), fun _ => rfl⟩
noncomputable def p_X10_step : Mem → Option Mem := Classical.choose p_X10_step_ex
theorem p_X10_step_eq  (μ : Mem) : p_X10_step  μ = bd (p_X3_stepAt (sel 2 (μ.2.2 137 5)) (μ.1 137 9) μ) (fun r2 μ1 => bd (p_X3_markAt (sel 2 (μ1.2.2 137 5)) (μ1.1 137 9) μ1) (fun r4 μ3 => bd (p_X3_bitsAt (sel 2 (μ3.2.2 137 5)) (μ3.1 137 9) μ3) (fun r6 μ5 => bv (sF μ5 137 9 ((μ5.1 137 9) + (1 : Int32))) (fun μ7 => (if r2 = (0 : Int32) then bw (p_X8_push (s_X0_make r4 r6) μ7) (fun μ10 => some μ10) else (if r2 = (1 : Int32) then bd (p_X8_varAt r4 μ7) (fun r14 μ13 => bw (p_X8_push r14 μ13) (fun μ15 => some μ15)) else (if r2 = (2 : Int32) then bw (p_X10_reckon r4 μ7) (fun μ18 => some μ18) else (if r2 = (3 : Int32) then bw (p_X10_turn r4 μ7) (fun μ21 => some μ21) else (if r2 = (4 : Int32) then bw (p_X10_takePart r4 μ7) (fun μ24 => some μ24) else (if r2 = (5 : Int32) then bw (p_X10_makePair μ7) (fun μ27 => some μ27) else (if r2 = (6 : Int32) then bw (p_X10_test r4 μ7) (fun μ30 => some μ30) else (if r2 = (7 : Int32) then bw (p_X10_endThen r4 μ7) (fun μ33 => some μ33) else (if r2 = (8 : Int32) then bw (p_X10_endElse μ7) (fun μ36 => some μ36) else (if r2 = (9 : Int32) then bd (p_X8_fromTop (0 : Int32) μ7) (fun r40 μ39 => bd (p_X8_num r40 μ39) (fun r42 μ41 => bd (p_X10_leave (7 : Int32) (0 : Int32) r42 (0 : Int64) μ41) (fun r44 μ43 => some μ43))) else (if r2 = (10 : Int32) then bw (p_X10_putAt r4 μ7) (fun μ46 => some μ46) else (if r2 = (11 : Int32) then bd (p_X10_leave (9 : Int32) r4 (0 : Int64) (0 : Int64) μ7) (fun r50 μ49 => bw (p_X8_push r50 μ49) (fun μ51 => some μ51)) else (if r2 = (12 : Int32) then bd (p_X8_pop μ7) (fun r55 μ54 => bw (p_X8_setVar r4 r55 μ54) (fun μ56 => some μ56)) else (if r2 = (13 : Int32) then bd (p_X10_workCall r4 r6 μ7) (fun r60 μ59 => (if r60 = (0 : Int32) then bw (p_X10_shapeCall r4 r6 μ59) (fun μ62 => bw (p_X10_leaveCall r4 μ62) (fun μ64 => some μ64)) else some μ59)) else bw (p_X10_goBack μ7) (fun μ66 => some μ66))))))))))))))))))) := Classical.choose_spec p_X10_step_ex  μ
set_option maxHeartbeats 4000000 in
set_option maxRecDepth 100000 in
theorem t_X10_step (l : Launch) (G : Gt) (ad : Nat → Nat)  (μ : Mem) {μz : Mem} (h : p_X10_step  μ = some μz) : Mt l yX10_step cX10_step 4 none ({ frames := 103, cells := 0, slots := 0, locals := 2825 } : Room) G [.ref (ad 137)] (wd 0 G ad μ) (eV 0 G ad μz) := by
  refine Bk.mt (by decide) rfl (Nat.le_of_ble_eq_true rfl) ?_
  intro p e s m below meth c A ls H locs cx hr hlk hA hl hw
  have hx := cx.1
  have hb := cx.2.1
  have hl : lv_has ls 4 [(0, .ref (ad 137))] := hl
  rw [p_X10_step_eq] at h
  refine lv_aload_n hx hb dX10_step_0 rfl (lv_at hl 0 rfl) ?_
  refine g_get cx hw inX10 (ci := 9) rfl 5 (by decide) rfl (v := .ref (ad (sel 2 (μ.2.2 137 5)))) shx_137 rfl fl_X10_29 dX10_step_1 ?_
  refine lv_aload_n hx hb dX10_step_4 rfl (lv_at hl 0 rfl) ?_
  refine g_get cx hw inX10 (ci := 9) rfl 9 (by decide) rfl (v := .int (μ.1 137 9)) shx_137 rfl fl_X10_73 dX10_step_5 ?_
  obtain ⟨r2, μ1, gr2, h⟩ := bd_some h
  refine g_callVI (As := [.int (μ.1 137 9)]) (rest := []) cx hw hA (t_X3_stepAt l G ad (sel 2 (μ.2.2 137 5)) (sel_2 _) (μ.1 137 9) μ gr2) (sel_2 _) rfl ml_X10_146 im_X3_stepAt se_X3_stepAt in_X3 co_X3_stepAt rfl hd_X3_stepAt rfl ⟨(Nat.le_of_ble_eq_true rfl), (Nat.le_of_ble_eq_true rfl)⟩ hl.1 rfl (Nat.le_of_ble_eq_true rfl) dX10_step_8 ⟨rfl, rfl⟩ (fun H locs hw => ?_)
  refine lv_istore_n (lv' := [(1, .int r2), (0, .ref (ad 137))]) hx hb dX10_step_11 rfl hl (by decide) rfl (fun ls hl => ?_)
  refine lv_aload_n hx hb dX10_step_12 rfl (lv_at hl 1 rfl) ?_
  refine g_get cx hw inX10 (ci := 9) rfl 5 (by decide) rfl (v := .ref (ad (sel 2 (μ1.2.2 137 5)))) shx_137 rfl fl_X10_29 dX10_step_13 ?_
  refine lv_aload_n hx hb dX10_step_16 rfl (lv_at hl 1 rfl) ?_
  refine g_get cx hw inX10 (ci := 9) rfl 9 (by decide) rfl (v := .int (μ1.1 137 9)) shx_137 rfl fl_X10_73 dX10_step_17 ?_
  obtain ⟨r4, μ3, gr4, h⟩ := bd_some h
  refine g_callVI (As := [.int (μ1.1 137 9)]) (rest := []) cx hw hA (t_X3_markAt l G ad (sel 2 (μ1.2.2 137 5)) (sel_2 _) (μ1.1 137 9) μ1 gr4) (sel_2 _) rfl ml_X10_149 im_X3_markAt se_X3_markAt in_X3 co_X3_markAt rfl hd_X3_markAt rfl ⟨(Nat.le_of_ble_eq_true rfl), (Nat.le_of_ble_eq_true rfl)⟩ hl.1 rfl (Nat.le_of_ble_eq_true rfl) dX10_step_20 ⟨rfl, rfl⟩ (fun H locs hw => ?_)
  refine lv_istore_n (lv' := [(2, .int r4), (1, .int r2), (0, .ref (ad 137))]) hx hb dX10_step_23 rfl hl (by decide) rfl (fun ls hl => ?_)
  refine lv_aload_n hx hb dX10_step_24 rfl (lv_at hl 2 rfl) ?_
  refine g_get cx hw inX10 (ci := 9) rfl 5 (by decide) rfl (v := .ref (ad (sel 2 (μ3.2.2 137 5)))) shx_137 rfl fl_X10_29 dX10_step_25 ?_
  refine lv_aload_n hx hb dX10_step_28 rfl (lv_at hl 2 rfl) ?_
  refine g_get cx hw inX10 (ci := 9) rfl 9 (by decide) rfl (v := .int (μ3.1 137 9)) shx_137 rfl fl_X10_73 dX10_step_29 ?_
  obtain ⟨r6, μ5, gr6, h⟩ := bd_some h
  refine g_callVI (As := [.int (μ3.1 137 9)]) (rest := []) cx hw hA (t_X3_bitsAt l G ad (sel 2 (μ3.2.2 137 5)) (sel_2 _) (μ3.1 137 9) μ3 gr6) (sel_2 _) rfl ml_X10_152 im_X3_bitsAt se_X3_bitsAt in_X3 co_X3_bitsAt rfl hd_X3_bitsAt rfl ⟨(Nat.le_of_ble_eq_true rfl), (Nat.le_of_ble_eq_true rfl)⟩ hl.1 rfl (Nat.le_of_ble_eq_true rfl) dX10_step_32 ⟨rfl, rfl⟩ (fun H locs hw => ?_)
  refine lv_istore_n (lv' := [(3, .int r6), (2, .int r4), (1, .int r2), (0, .ref (ad 137))]) hx hb dX10_step_35 rfl hl (by decide) rfl (fun ls hl => ?_)
  refine lv_aload_n hx hb dX10_step_36 rfl (lv_at hl 3 rfl) ?_
  refine lv_dup hx hb dX10_step_37 rfl ?_
  refine g_get cx hw inX10 (ci := 9) rfl 9 (by decide) rfl (v := .int (μ5.1 137 9)) shx_137 rfl fl_X10_73 dX10_step_38 ?_
  refine lv_iconst (v := 1) hx hb dX10_step_41 (by decide) ?_
  refine lv_iadd hx hb dX10_step_42 ?_
  refine g_put cx hw inX10 (ci := 9) rfl tyX10_ok nmX10 9 (by decide) rfl rfl rfl rfl shx_137 h fl_X10_73 dX10_step_43 (fun μ7 H locs h hw => ?_)
  refine lv_iload_n hx hb dX10_step_46 rfl (lv_at hl 2 rfl) ?_
  refine lv_topi (fun v8 ev8 => ?_)
  by_cases c9 : r2 = (0 : Int32)
  · rw [if_pos c9] at h
    have z9 := ev8.trans c9
    subst z9
    refine lv_tableIn (tgt := 116) hx hb dX10_step_47 (by decide +kernel) (by decide +kernel) rfl (by decide) ?_
    refine lv_aload_n hx hb dX10_step_116 rfl (lv_at hl 3 rfl) ?_
    refine g_get cx hw inX10 (ci := 9) rfl 3 (by decide) rfl (v := .ref (ad 30)) shx_137 rfl fl_X10_21 dX10_step_117 ?_
    refine lv_iload_n hx hb dX10_step_120 rfl (lv_at hl 1 rfl) ?_
    refine lv_iload_n hx hb dX10_step_121 rfl (lv_at hl 0 rfl) ?_
    refine s_callL (As := [.int r4, .int r6]) (rest := [.ref (ad 30)]) cx hw hA (t_X0_make l G r4 r6) ml_X10_63 st_X0_make in_X0 co_X0_make hd_X0_make rfl ⟨(Nat.le_of_ble_eq_true rfl), (Nat.le_of_ble_eq_true rfl)⟩ hl.1 rfl (Nat.le_of_ble_eq_true rfl) dX10_step_122 rfl (fun H locs hw => ?_)
    obtain ⟨μ10, gμ10, h⟩ := bw_some h
    refine g_callVV (As := [.long (s_X0_make r4 r6)]) (rest := []) cx hw hA (t_X8_push l G ad (s_X0_make r4 r6) μ7 gμ10) shx_30 rfl ml_X10_155 im_X8_push se_X8_push in_X8 co_X8_push rfl hd_X8_push rfl ⟨(Nat.le_of_ble_eq_true rfl), (Nat.le_of_ble_eq_true rfl)⟩ hl.1 rfl (Nat.le_of_ble_eq_true rfl) dX10_step_125 ⟨rfl, rfl⟩ (fun H locs hw => ?_)
    refine lv_goto (tgt := 302) hx hb dX10_step_128 (by decide) ?_
    exact g_vret cx hr hlk hw h dX10_step_302
  rw [if_neg c9] at h
  by_cases c12 : r2 = (1 : Int32)
  · rw [if_pos c12] at h
    have z9 := ev8.trans c12
    subst z9
    refine lv_tableIn (tgt := 131) hx hb dX10_step_47 (by decide +kernel) (by decide +kernel) rfl (by decide) ?_
    refine lv_aload_n hx hb dX10_step_131 rfl (lv_at hl 3 rfl) ?_
    refine g_get cx hw inX10 (ci := 9) rfl 3 (by decide) rfl (v := .ref (ad 30)) shx_137 rfl fl_X10_21 dX10_step_132 ?_
    refine lv_aload_n hx hb dX10_step_135 rfl (lv_at hl 3 rfl) ?_
    refine g_get cx hw inX10 (ci := 9) rfl 3 (by decide) rfl (v := .ref (ad 30)) shx_137 rfl fl_X10_21 dX10_step_136 ?_
    refine lv_iload_n hx hb dX10_step_139 rfl (lv_at hl 1 rfl) ?_
    obtain ⟨r14, μ13, gr14, h⟩ := bd_some h
    refine g_callVL (As := [.int r4]) (rest := [.ref (ad 30)]) cx hw hA (t_X8_varAt l G ad r4 μ7 gr14) shx_30 rfl ml_X10_159 im_X8_varAt se_X8_varAt in_X8 co_X8_varAt rfl hd_X8_varAt rfl ⟨(Nat.le_of_ble_eq_true rfl), (Nat.le_of_ble_eq_true rfl)⟩ hl.1 rfl (Nat.le_of_ble_eq_true rfl) dX10_step_140 ⟨rfl, rfl⟩ (fun H locs hw => ?_)
    obtain ⟨μ15, gμ15, h⟩ := bw_some h
    refine g_callVV (As := [.long r14]) (rest := []) cx hw hA (t_X8_push l G ad r14 μ13 gμ15) shx_30 rfl ml_X10_155 im_X8_push se_X8_push in_X8 co_X8_push rfl hd_X8_push rfl ⟨(Nat.le_of_ble_eq_true rfl), (Nat.le_of_ble_eq_true rfl)⟩ hl.1 rfl (Nat.le_of_ble_eq_true rfl) dX10_step_143 ⟨rfl, rfl⟩ (fun H locs hw => ?_)
    refine lv_goto (tgt := 302) hx hb dX10_step_146 (by decide) ?_
    exact g_vret cx hr hlk hw h dX10_step_302
  rw [if_neg c12] at h
  by_cases c17 : r2 = (2 : Int32)
  · rw [if_pos c17] at h
    have z9 := ev8.trans c17
    subst z9
    refine lv_tableIn (tgt := 149) hx hb dX10_step_47 (by decide +kernel) (by decide +kernel) rfl (by decide) ?_
    refine lv_aload_n hx hb dX10_step_149 rfl (lv_at hl 3 rfl) ?_
    refine lv_iload_n hx hb dX10_step_150 rfl (lv_at hl 1 rfl) ?_
    obtain ⟨μ18, gμ18, h⟩ := bw_some h
    refine g_callVV (As := [.int r4]) (rest := []) cx hw hA (t_X10_reckon l G ad r4 μ7 gμ18) shx_137 rfl ml_X10_163 im_X10_reckon se_X10_reckon in_X10 co_X10_reckon rfl hd_X10_reckon rfl ⟨(Nat.le_of_ble_eq_true rfl), (Nat.le_of_ble_eq_true rfl)⟩ hl.1 rfl (Nat.le_of_ble_eq_true rfl) dX10_step_151 ⟨rfl, rfl⟩ (fun H locs hw => ?_)
    refine lv_goto (tgt := 302) hx hb dX10_step_154 (by decide) ?_
    exact g_vret cx hr hlk hw h dX10_step_302
  rw [if_neg c17] at h
  by_cases c20 : r2 = (3 : Int32)
  · rw [if_pos c20] at h
    have z9 := ev8.trans c20
    subst z9
    refine lv_tableIn (tgt := 157) hx hb dX10_step_47 (by decide +kernel) (by decide +kernel) rfl (by decide) ?_
    refine lv_aload_n hx hb dX10_step_157 rfl (lv_at hl 3 rfl) ?_
    refine lv_iload_n hx hb dX10_step_158 rfl (lv_at hl 1 rfl) ?_
    obtain ⟨μ21, gμ21, h⟩ := bw_some h
    refine g_callVV (As := [.int r4]) (rest := []) cx hw hA (t_X10_turn l G ad r4 μ7 gμ21) shx_137 rfl ml_X10_166 im_X10_turn se_X10_turn in_X10 co_X10_turn rfl hd_X10_turn rfl ⟨(Nat.le_of_ble_eq_true rfl), (Nat.le_of_ble_eq_true rfl)⟩ hl.1 rfl (Nat.le_of_ble_eq_true rfl) dX10_step_159 ⟨rfl, rfl⟩ (fun H locs hw => ?_)
    refine lv_goto (tgt := 302) hx hb dX10_step_162 (by decide) ?_
    exact g_vret cx hr hlk hw h dX10_step_302
  rw [if_neg c20] at h
  by_cases c23 : r2 = (4 : Int32)
  · rw [if_pos c23] at h
    have z9 := ev8.trans c23
    subst z9
    refine lv_tableIn (tgt := 165) hx hb dX10_step_47 (by decide +kernel) (by decide +kernel) rfl (by decide) ?_
    refine lv_aload_n hx hb dX10_step_165 rfl (lv_at hl 3 rfl) ?_
    refine lv_iload_n hx hb dX10_step_166 rfl (lv_at hl 1 rfl) ?_
    obtain ⟨μ24, gμ24, h⟩ := bw_some h
    refine g_callVV (As := [.int r4]) (rest := []) cx hw hA (t_X10_takePart l G ad r4 μ7 gμ24) shx_137 rfl ml_X10_169 im_X10_takePart se_X10_takePart in_X10 co_X10_takePart rfl hd_X10_takePart rfl ⟨(Nat.le_of_ble_eq_true rfl), (Nat.le_of_ble_eq_true rfl)⟩ hl.1 rfl (Nat.le_of_ble_eq_true rfl) dX10_step_167 ⟨rfl, rfl⟩ (fun H locs hw => ?_)
    refine lv_goto (tgt := 302) hx hb dX10_step_170 (by decide) ?_
    exact g_vret cx hr hlk hw h dX10_step_302
  rw [if_neg c23] at h
  by_cases c26 : r2 = (5 : Int32)
  · rw [if_pos c26] at h
    have z9 := ev8.trans c26
    subst z9
    refine lv_tableIn (tgt := 173) hx hb dX10_step_47 (by decide +kernel) (by decide +kernel) rfl (by decide) ?_
    refine lv_aload_n hx hb dX10_step_173 rfl (lv_at hl 3 rfl) ?_
    obtain ⟨μ27, gμ27, h⟩ := bw_some h
    refine g_callVV (As := []) (rest := []) cx hw hA (t_X10_makePair l G ad μ7 gμ27) shx_137 rfl ml_X10_172 im_X10_makePair se_X10_makePair in_X10 co_X10_makePair rfl hd_X10_makePair rfl ⟨(Nat.le_of_ble_eq_true rfl), (Nat.le_of_ble_eq_true rfl)⟩ hl.1 rfl (Nat.le_of_ble_eq_true rfl) dX10_step_174 ⟨rfl, rfl⟩ (fun H locs hw => ?_)
    refine lv_goto (tgt := 302) hx hb dX10_step_177 (by decide) ?_
    exact g_vret cx hr hlk hw h dX10_step_302
  rw [if_neg c26] at h
  by_cases c29 : r2 = (6 : Int32)
  · rw [if_pos c29] at h
    have z9 := ev8.trans c29
    subst z9
    refine lv_tableIn (tgt := 180) hx hb dX10_step_47 (by decide +kernel) (by decide +kernel) rfl (by decide) ?_
    refine lv_aload_n hx hb dX10_step_180 rfl (lv_at hl 3 rfl) ?_
    refine lv_iload_n hx hb dX10_step_181 rfl (lv_at hl 1 rfl) ?_
    obtain ⟨μ30, gμ30, h⟩ := bw_some h
    refine g_callVV (As := [.int r4]) (rest := []) cx hw hA (t_X10_test l G ad r4 μ7 gμ30) shx_137 rfl ml_X10_175 im_X10_test se_X10_test in_X10 co_X10_test rfl hd_X10_test rfl ⟨(Nat.le_of_ble_eq_true rfl), (Nat.le_of_ble_eq_true rfl)⟩ hl.1 rfl (Nat.le_of_ble_eq_true rfl) dX10_step_182 ⟨rfl, rfl⟩ (fun H locs hw => ?_)
    refine lv_goto (tgt := 302) hx hb dX10_step_185 (by decide) ?_
    exact g_vret cx hr hlk hw h dX10_step_302
  rw [if_neg c29] at h
  by_cases c32 : r2 = (7 : Int32)
  · rw [if_pos c32] at h
    have z9 := ev8.trans c32
    subst z9
    refine lv_tableIn (tgt := 188) hx hb dX10_step_47 (by decide +kernel) (by decide +kernel) rfl (by decide) ?_
    refine lv_aload_n hx hb dX10_step_188 rfl (lv_at hl 3 rfl) ?_
    refine lv_iload_n hx hb dX10_step_189 rfl (lv_at hl 1 rfl) ?_
    obtain ⟨μ33, gμ33, h⟩ := bw_some h
    refine g_callVV (As := [.int r4]) (rest := []) cx hw hA (t_X10_endThen l G ad r4 μ7 gμ33) shx_137 rfl ml_X10_178 im_X10_endThen se_X10_endThen in_X10 co_X10_endThen rfl hd_X10_endThen rfl ⟨(Nat.le_of_ble_eq_true rfl), (Nat.le_of_ble_eq_true rfl)⟩ hl.1 rfl (Nat.le_of_ble_eq_true rfl) dX10_step_190 ⟨rfl, rfl⟩ (fun H locs hw => ?_)
    refine lv_goto (tgt := 302) hx hb dX10_step_193 (by decide) ?_
    exact g_vret cx hr hlk hw h dX10_step_302
  rw [if_neg c32] at h
  by_cases c35 : r2 = (8 : Int32)
  · rw [if_pos c35] at h
    have z9 := ev8.trans c35
    subst z9
    refine lv_tableIn (tgt := 196) hx hb dX10_step_47 (by decide +kernel) (by decide +kernel) rfl (by decide) ?_
    refine lv_aload_n hx hb dX10_step_196 rfl (lv_at hl 3 rfl) ?_
    obtain ⟨μ36, gμ36, h⟩ := bw_some h
    refine g_callVV (As := []) (rest := []) cx hw hA (t_X10_endElse l G ad μ7 gμ36) shx_137 rfl ml_X10_181 im_X10_endElse se_X10_endElse in_X10 co_X10_endElse rfl hd_X10_endElse rfl ⟨(Nat.le_of_ble_eq_true rfl), (Nat.le_of_ble_eq_true rfl)⟩ hl.1 rfl (Nat.le_of_ble_eq_true rfl) dX10_step_197 ⟨rfl, rfl⟩ (fun H locs hw => ?_)
    refine lv_goto (tgt := 302) hx hb dX10_step_200 (by decide) ?_
    exact g_vret cx hr hlk hw h dX10_step_302
  rw [if_neg c35] at h
  by_cases c38 : r2 = (9 : Int32)
  · rw [if_pos c38] at h
    have z9 := ev8.trans c38
    subst z9
    refine lv_tableIn (tgt := 203) hx hb dX10_step_47 (by decide +kernel) (by decide +kernel) rfl (by decide) ?_
    refine lv_aload_n hx hb dX10_step_203 rfl (lv_at hl 3 rfl) ?_
    refine lv_bipush (v := 7) hx hb dX10_step_204 (by decide) ?_
    refine lv_iconst (v := 0) hx hb dX10_step_206 (by decide) ?_
    refine lv_aload_n hx hb dX10_step_207 rfl (lv_at hl 3 rfl) ?_
    refine g_get cx hw inX10 (ci := 9) rfl 3 (by decide) rfl (v := .ref (ad 30)) shx_137 rfl fl_X10_21 dX10_step_208 ?_
    refine lv_aload_n hx hb dX10_step_211 rfl (lv_at hl 3 rfl) ?_
    refine g_get cx hw inX10 (ci := 9) rfl 3 (by decide) rfl (v := .ref (ad 30)) shx_137 rfl fl_X10_21 dX10_step_212 ?_
    refine lv_iconst (v := 0) hx hb dX10_step_215 (by decide) ?_
    obtain ⟨r40, μ39, gr40, h⟩ := bd_some h
    refine g_callVL (As := [.int 0]) (rest := [.ref (ad 30), .int 0, .int 7, .ref (ad 137)]) cx hw hA (t_X8_fromTop l G ad (0 : Int32) μ7 gr40) shx_30 rfl ml_X10_184 im_X8_fromTop se_X8_fromTop in_X8 co_X8_fromTop rfl hd_X8_fromTop rfl ⟨(Nat.le_of_ble_eq_true rfl), (Nat.le_of_ble_eq_true rfl)⟩ hl.1 rfl (Nat.le_of_ble_eq_true rfl) dX10_step_216 ⟨rfl, rfl⟩ (fun H locs hw => ?_)
    obtain ⟨r42, μ41, gr42, h⟩ := bd_some h
    refine g_callVL (As := [.long r40]) (rest := [.int 0, .int 7, .ref (ad 137)]) cx hw hA (t_X8_num l G ad r40 μ39 gr42) shx_30 rfl ml_X10_187 im_X8_num se_X8_num in_X8 co_X8_num rfl hd_X8_num rfl ⟨(Nat.le_of_ble_eq_true rfl), (Nat.le_of_ble_eq_true rfl)⟩ hl.1 rfl (Nat.le_of_ble_eq_true rfl) dX10_step_219 ⟨rfl, rfl⟩ (fun H locs hw => ?_)
    refine lv_lconst (v := 0) hx hb dX10_step_222 (by decide) ?_
    obtain ⟨r44, μ43, gr44, h⟩ := bd_some h
    refine g_callVL (As := [.int 7, .int 0, .long r42, .long 0]) (rest := []) cx hw hA (t_X10_leave l G ad (7 : Int32) (0 : Int32) r42 (0 : Int64) μ41 gr44) shx_137 rfl ml_X10_191 im_X10_leave se_X10_leave in_X10 co_X10_leave rfl hd_X10_leave rfl ⟨(Nat.le_of_ble_eq_true rfl), (Nat.le_of_ble_eq_true rfl)⟩ hl.1 rfl (Nat.le_of_ble_eq_true rfl) dX10_step_223 ⟨rfl, rfl⟩ (fun H locs hw => ?_)
    refine lv_pop2_2 hx hb dX10_step_226 rfl ?_
    refine lv_goto (tgt := 302) hx hb dX10_step_227 (by decide) ?_
    exact g_vret cx hr hlk hw h dX10_step_302
  rw [if_neg c38] at h
  by_cases c45 : r2 = (10 : Int32)
  · rw [if_pos c45] at h
    have z9 := ev8.trans c45
    subst z9
    refine lv_tableIn (tgt := 230) hx hb dX10_step_47 (by decide +kernel) (by decide +kernel) rfl (by decide) ?_
    refine lv_aload_n hx hb dX10_step_230 rfl (lv_at hl 3 rfl) ?_
    refine lv_iload_n hx hb dX10_step_231 rfl (lv_at hl 1 rfl) ?_
    obtain ⟨μ46, gμ46, h⟩ := bw_some h
    refine g_callVV (As := [.int r4]) (rest := []) cx hw hA (t_X10_putAt l G ad r4 μ7 gμ46) shx_137 rfl ml_X10_195 im_X10_putAt se_X10_putAt in_X10 co_X10_putAt rfl hd_X10_putAt rfl ⟨(Nat.le_of_ble_eq_true rfl), (Nat.le_of_ble_eq_true rfl)⟩ hl.1 rfl (Nat.le_of_ble_eq_true rfl) dX10_step_232 ⟨rfl, rfl⟩ (fun H locs hw => ?_)
    refine lv_goto (tgt := 302) hx hb dX10_step_235 (by decide) ?_
    exact g_vret cx hr hlk hw h dX10_step_302
  rw [if_neg c45] at h
  by_cases c48 : r2 = (11 : Int32)
  · rw [if_pos c48] at h
    have z9 := ev8.trans c48
    subst z9
    refine lv_tableIn (tgt := 238) hx hb dX10_step_47 (by decide +kernel) (by decide +kernel) rfl (by decide) ?_
    refine lv_aload_n hx hb dX10_step_238 rfl (lv_at hl 3 rfl) ?_
    refine g_get cx hw inX10 (ci := 9) rfl 3 (by decide) rfl (v := .ref (ad 30)) shx_137 rfl fl_X10_21 dX10_step_239 ?_
    refine lv_aload_n hx hb dX10_step_242 rfl (lv_at hl 3 rfl) ?_
    refine lv_bipush (v := 9) hx hb dX10_step_243 (by decide) ?_
    refine lv_iload_n hx hb dX10_step_245 rfl (lv_at hl 1 rfl) ?_
    refine lv_lconst (v := 0) hx hb dX10_step_246 (by decide) ?_
    refine lv_lconst (v := 0) hx hb dX10_step_247 (by decide) ?_
    obtain ⟨r50, μ49, gr50, h⟩ := bd_some h
    refine g_callVL (As := [.int 9, .int r4, .long 0, .long 0]) (rest := [.ref (ad 30)]) cx hw hA (t_X10_leave l G ad (9 : Int32) r4 (0 : Int64) (0 : Int64) μ7 gr50) shx_137 rfl ml_X10_191 im_X10_leave se_X10_leave in_X10 co_X10_leave rfl hd_X10_leave rfl ⟨(Nat.le_of_ble_eq_true rfl), (Nat.le_of_ble_eq_true rfl)⟩ hl.1 rfl (Nat.le_of_ble_eq_true rfl) dX10_step_248 ⟨rfl, rfl⟩ (fun H locs hw => ?_)
    obtain ⟨μ51, gμ51, h⟩ := bw_some h
    refine g_callVV (As := [.long r50]) (rest := []) cx hw hA (t_X8_push l G ad r50 μ49 gμ51) shx_30 rfl ml_X10_155 im_X8_push se_X8_push in_X8 co_X8_push rfl hd_X8_push rfl ⟨(Nat.le_of_ble_eq_true rfl), (Nat.le_of_ble_eq_true rfl)⟩ hl.1 rfl (Nat.le_of_ble_eq_true rfl) dX10_step_251 ⟨rfl, rfl⟩ (fun H locs hw => ?_)
    refine lv_goto (tgt := 302) hx hb dX10_step_254 (by decide) ?_
    exact g_vret cx hr hlk hw h dX10_step_302
  rw [if_neg c48] at h
  by_cases c53 : r2 = (12 : Int32)
  · rw [if_pos c53] at h
    have z9 := ev8.trans c53
    subst z9
    refine lv_tableIn (tgt := 257) hx hb dX10_step_47 (by decide +kernel) (by decide +kernel) rfl (by decide) ?_
    refine lv_aload_n hx hb dX10_step_257 rfl (lv_at hl 3 rfl) ?_
    refine g_get cx hw inX10 (ci := 9) rfl 3 (by decide) rfl (v := .ref (ad 30)) shx_137 rfl fl_X10_21 dX10_step_258 ?_
    refine lv_iload_n hx hb dX10_step_261 rfl (lv_at hl 1 rfl) ?_
    refine lv_aload_n hx hb dX10_step_262 rfl (lv_at hl 3 rfl) ?_
    refine g_get cx hw inX10 (ci := 9) rfl 3 (by decide) rfl (v := .ref (ad 30)) shx_137 rfl fl_X10_21 dX10_step_263 ?_
    obtain ⟨r55, μ54, gr55, h⟩ := bd_some h
    refine g_callVL (As := []) (rest := [.int r4, .ref (ad 30)]) cx hw hA (t_X8_pop l G ad μ7 gr55) shx_30 rfl ml_X10_135 im_X8_pop se_X8_pop in_X8 co_X8_pop rfl hd_X8_pop rfl ⟨(Nat.le_of_ble_eq_true rfl), (Nat.le_of_ble_eq_true rfl)⟩ hl.1 rfl (Nat.le_of_ble_eq_true rfl) dX10_step_266 ⟨rfl, rfl⟩ (fun H locs hw => ?_)
    obtain ⟨μ56, gμ56, h⟩ := bw_some h
    refine g_callVV (As := [.int r4, .long r55]) (rest := []) cx hw hA (t_X8_setVar l G ad r4 r55 μ54 gμ56) shx_30 rfl ml_X10_128 im_X8_setVar se_X8_setVar in_X8 co_X8_setVar rfl hd_X8_setVar rfl ⟨(Nat.le_of_ble_eq_true rfl), (Nat.le_of_ble_eq_true rfl)⟩ hl.1 rfl (Nat.le_of_ble_eq_true rfl) dX10_step_269 ⟨rfl, rfl⟩ (fun H locs hw => ?_)
    refine lv_goto (tgt := 302) hx hb dX10_step_272 (by decide) ?_
    exact g_vret cx hr hlk hw h dX10_step_302
  rw [if_neg c53] at h
  by_cases c58 : r2 = (13 : Int32)
  · rw [if_pos c58] at h
    have z9 := ev8.trans c58
    subst z9
    refine lv_tableIn (tgt := 275) hx hb dX10_step_47 (by decide +kernel) (by decide +kernel) rfl (by decide) ?_
    refine lv_aload_n hx hb dX10_step_275 rfl (lv_at hl 3 rfl) ?_
    refine lv_iload_n hx hb dX10_step_276 rfl (lv_at hl 1 rfl) ?_
    refine lv_iload_n hx hb dX10_step_277 rfl (lv_at hl 0 rfl) ?_
    obtain ⟨r60, μ59, gr60, h⟩ := bd_some h
    refine g_callVI (As := [.int r4, .int r6]) (rest := []) cx hw hA (t_X10_workCall l G ad r4 r6 μ7 gr60) shx_137 rfl ml_X10_198 im_X10_workCall se_X10_workCall in_X10 co_X10_workCall rfl hd_X10_workCall rfl ⟨(Nat.le_of_ble_eq_true rfl), (Nat.le_of_ble_eq_true rfl)⟩ hl.1 rfl (Nat.le_of_ble_eq_true rfl) dX10_step_278 ⟨rfl, rfl⟩ (fun H locs hw => ?_)
    refine lv_if_ne (tgt := 302) hx hb dX10_step_281 (by decide) (fun c61 => ?_) (fun c61 => ?_)
    · rw [if_neg c61] at h
      exact g_vret cx hr hlk hw h dX10_step_302
    · rw [if_pos c61] at h
      refine lv_aload_n hx hb dX10_step_284 rfl (lv_at hl 3 rfl) ?_
      refine lv_iload_n hx hb dX10_step_285 rfl (lv_at hl 1 rfl) ?_
      refine lv_iload_n hx hb dX10_step_286 rfl (lv_at hl 0 rfl) ?_
      obtain ⟨μ62, gμ62, h⟩ := bw_some h
      refine g_callVV (As := [.int r4, .int r6]) (rest := []) cx hw hA (t_X10_shapeCall l G ad r4 r6 μ59 gμ62) shx_137 rfl ml_X10_202 im_X10_shapeCall se_X10_shapeCall in_X10 co_X10_shapeCall rfl hd_X10_shapeCall rfl ⟨(Nat.le_of_ble_eq_true rfl), (Nat.le_of_ble_eq_true rfl)⟩ hl.1 rfl (Nat.le_of_ble_eq_true rfl) dX10_step_287 ⟨rfl, rfl⟩ (fun H locs hw => ?_)
      refine lv_aload_n hx hb dX10_step_290 rfl (lv_at hl 3 rfl) ?_
      refine lv_iload_n hx hb dX10_step_291 rfl (lv_at hl 1 rfl) ?_
      obtain ⟨μ64, gμ64, h⟩ := bw_some h
      refine g_callVV (As := [.int r4]) (rest := []) cx hw hA (t_X10_leaveCall l G ad r4 μ62 gμ64) shx_137 rfl ml_X10_206 im_X10_leaveCall se_X10_leaveCall in_X10 co_X10_leaveCall rfl hd_X10_leaveCall rfl ⟨(Nat.le_of_ble_eq_true rfl), (Nat.le_of_ble_eq_true rfl)⟩ hl.1 rfl (Nat.le_of_ble_eq_true rfl) dX10_step_292 ⟨rfl, rfl⟩ (fun H locs hw => ?_)
      refine lv_goto (tgt := 302) hx hb dX10_step_295 (by decide) ?_
      exact g_vret cx hr hlk hw h dX10_step_302
  rw [if_neg c58] at h
  rw [ev8]
  refine lv_tableOut (tgt := 298) hx hb dX10_step_47 (sw_out (L := [(0 : Int32), (1 : Int32), (2 : Int32), (3 : Int32), (4 : Int32), (5 : Int32), (6 : Int32), (7 : Int32), (8 : Int32), (9 : Int32), (10 : Int32), (11 : Int32), (12 : Int32), (13 : Int32)]) (by decide +kernel) (by simp only [List.forall_mem_cons]; exact ⟨c9, c12, c17, c20, c23, c26, c29, c32, c35, c38, c45, c48, c53, c58, fun _ q => absurd q List.not_mem_nil⟩)) (by decide) ?_
  refine lv_aload_n hx hb dX10_step_298 rfl (lv_at hl 3 rfl) ?_
  obtain ⟨μ66, gμ66, h⟩ := bw_some h
  refine g_callVV (As := []) (rest := []) cx hw hA (t_X10_goBack l G ad μ7 gμ66) shx_137 rfl ml_X10_209 im_X10_goBack se_X10_goBack in_X10 co_X10_goBack rfl hd_X10_goBack rfl ⟨(Nat.le_of_ble_eq_true rfl), (Nat.le_of_ble_eq_true rfl)⟩ hl.1 rfl (Nat.le_of_ble_eq_true rfl) dX10_step_299 ⟨rfl, rfl⟩ (fun H locs hw => ?_)
  exact g_vret cx hr hlk hw h dX10_step_302

theorem p_X10_answer_ex : ∃ f : Mem → Option (Int32 × Mem), ∀  (μ : Mem), f  μ = (if (μ.1 137 6) = (0 : Int32) then bv (sF μ 39 0 (1 : Int32)) (fun μ2 => some ((μ2.1 39 2), μ2)) else bw (p_X5_clear μ) (fun μ3 => some ((μ3.1 137 6), μ3))) := ⟨fun  (μ : Mem) => (if (μ.1 137 6) = (0 : Int32) then bv (sF μ 39 0 (1 : Int32)) (fun μ2 => some ((μ2.1 39 2), μ2)) else bw (p_X5_clear μ) (fun μ3 => some ((μ3.1 137 6), μ3))), fun _ => rfl⟩
noncomputable def p_X10_answer : Mem → Option (Int32 × Mem) := Classical.choose p_X10_answer_ex
theorem p_X10_answer_eq  (μ : Mem) : p_X10_answer  μ = (if (μ.1 137 6) = (0 : Int32) then bv (sF μ 39 0 (1 : Int32)) (fun μ2 => some ((μ2.1 39 2), μ2)) else bw (p_X5_clear μ) (fun μ3 => some ((μ3.1 137 6), μ3))) := Classical.choose_spec p_X10_answer_ex  μ
set_option maxHeartbeats 4000000 in
set_option maxRecDepth 100000 in
theorem t_X10_answer (l : Launch) (G : Gt) (ad : Nat → Nat)  (μ : Mem) {r : Int32} {μz : Mem} (h : p_X10_answer  μ = some (r, μz)) : Mt l yX10_answer cX10_answer 1 (some .int) ({ frames := 1, cells := 0, slots := 0, locals := 20 } : Room) G [.ref (ad 137)] (wd 0 G ad μ) (eI 0 G ad r μz) := by
  refine Bk.mt (by decide) rfl (Nat.le_of_ble_eq_true rfl) ?_
  intro p e s m below meth c A ls H locs cx hr hlk hA hl hw
  have hx := cx.1
  have hb := cx.2.1
  have hl : lv_has ls 1 [(0, .ref (ad 137))] := hl
  rw [p_X10_answer_eq] at h
  refine lv_aload_n hx hb dX10_answer_0 rfl (lv_at hl 0 rfl) ?_
  refine g_get cx hw inX10 (ci := 9) rfl 6 (by decide) rfl (v := .int (μ.1 137 6)) shx_137 rfl fl_X10_70 dX10_answer_1 ?_
  refine lv_if_eq (tgt := 19) hx hb dX10_answer_4 (by decide) (fun c1 => ?_) (fun c1 => ?_)
  · rw [if_pos c1] at h
    refine lv_aload_n hx hb dX10_answer_19 rfl (lv_at hl 0 rfl) ?_
    refine g_get cx hw inX10 (ci := 9) rfl 4 (by decide) rfl (v := .ref (ad 39)) shx_137 rfl fl_X10_25 dX10_answer_20 ?_
    refine lv_iconst (v := 1) hx hb dX10_answer_23 (by decide) ?_
    refine g_put cx hw inX5 (ci := 4) rfl tyX5_ok nmX5 0 (by decide) rfl rfl rfl rfl shx_39 h fl_X10_96 dX10_answer_24 (fun μ2 H locs h hw => ?_)
    refine lv_aload_n hx hb dX10_answer_27 rfl (lv_at hl 0 rfl) ?_
    refine g_get cx hw inX10 (ci := 9) rfl 4 (by decide) rfl (v := .ref (ad 39)) shx_137 rfl fl_X10_25 dX10_answer_28 ?_
    refine g_get cx hw inX5 (ci := 4) rfl 2 (by decide) rfl (v := .int (μ2.1 39 2)) shx_39 rfl fl_X10_95 dX10_answer_31 ?_
    exact g_iret cx hr hlk hw h dX10_answer_34
  · rw [if_neg c1] at h
    refine lv_aload_n hx hb dX10_answer_7 rfl (lv_at hl 0 rfl) ?_
    refine g_get cx hw inX10 (ci := 9) rfl 4 (by decide) rfl (v := .ref (ad 39)) shx_137 rfl fl_X10_25 dX10_answer_8 ?_
    obtain ⟨μ3, gμ3, h⟩ := bw_some h
    refine g_callVV (As := []) (rest := []) cx hw hA (t_X5_clear l G ad μ gμ3) shx_39 rfl ml_X10_67 im_X5_clear se_X5_clear in_X5 co_X5_clear rfl hd_X5_clear rfl ⟨(Nat.le_of_ble_eq_true rfl), (Nat.le_of_ble_eq_true rfl)⟩ hl.1 rfl (Nat.le_of_ble_eq_true rfl) dX10_answer_11 ⟨rfl, rfl⟩ (fun H locs hw => ?_)
    refine lv_aload_n hx hb dX10_answer_14 rfl (lv_at hl 0 rfl) ?_
    refine g_get cx hw inX10 (ci := 9) rfl 6 (by decide) rfl (v := .int (μ3.1 137 6)) shx_137 rfl fl_X10_70 dX10_answer_15 ?_
    exact g_iret cx hr hlk hw h dX10_answer_18

theorem p_X11_specialise_b17_ex : ∃ f : Nat → Int32 → Mem → Option (Int32 × Mem), (∀ (a1 : Int32) (μ : Mem), f  0 a1 μ = none) ∧ (∀ (n : Nat) (a1 : Int32) (μ : Mem), f  (n + 1) a1 μ = (if (1000000 : Int32) ≤ a1 then bd (p_X10_answer μ) (fun r5 μ4 => some (r5, μ4)) else bd (p_X10_isWorking μ) (fun r7 μ6 => (if r7 = (0 : Int32) then bd (p_X10_answer μ6) (fun r10 μ9 => some (r10, μ9)) else bw (p_X10_step μ6) (fun μ11 => bv (a1 + 1) (fun v13 => f n v13 μ11)))))) := ⟨fun n => Nat.rec (fun (a1 : Int32) (μ : Mem) => none) (fun _ ih => fun (a1 : Int32) (μ : Mem) => (if (1000000 : Int32) ≤ a1 then bd (p_X10_answer μ) (fun r5 μ4 => some (r5, μ4)) else bd (p_X10_isWorking μ) (fun r7 μ6 => (if r7 = (0 : Int32) then bd (p_X10_answer μ6) (fun r10 μ9 => some (r10, μ9)) else bw (p_X10_step μ6) (fun μ11 => bv (a1 + 1) (fun v13 => ih v13 μ11)))))) n, fun  _ _ => rfl, fun  _ _ _ => rfl⟩
noncomputable def p_X11_specialise_b17 : Nat → Int32 → Mem → Option (Int32 × Mem) := Classical.choose p_X11_specialise_b17_ex
theorem p_X11_specialise_b17_z (a1 : Int32) (μ : Mem) : p_X11_specialise_b17  0 a1 μ = none := (Classical.choose_spec p_X11_specialise_b17_ex).1  a1 μ
theorem p_X11_specialise_b17_s (n : Nat) (a1 : Int32) (μ : Mem) : p_X11_specialise_b17  (n + 1) a1 μ = (if (1000000 : Int32) ≤ a1 then bd (p_X10_answer μ) (fun r5 μ4 => some (r5, μ4)) else bd (p_X10_isWorking μ) (fun r7 μ6 => (if r7 = (0 : Int32) then bd (p_X10_answer μ6) (fun r10 μ9 => some (r10, μ9)) else bw (p_X10_step μ6) (fun μ11 => bv (a1 + 1) (fun v13 => p_X11_specialise_b17  n v13 μ11))))) := (Classical.choose_spec p_X11_specialise_b17_ex).2  n a1 μ
set_option maxHeartbeats 4000000 in
set_option maxRecDepth 100000 in
theorem t_X11_specialise_b17 (l : Launch) (G : Gt) (ad : Nat → Nat) (av : List Value) {r : Int32} {μz : Mem} : ∀ (n : Nat) (a1 : Int32) (μ : Mem), p_X11_specialise_b17  n a1 μ = some (r, μz) → Bk l cX11_specialise 2 RX11 (some .int) ({ frames := 104, cells := 0, slots := 0, locals := 2848 } : Room) G av (eI 0 G ad r μz) (wd 0 G ad μ) 17 [(0, .ref (ad 0)), (1, .int a1)] [] := by
  intro n
  induction n with
  | zero => intro a1 μ h; rw [p_X11_specialise_b17_z] at h; cases h
  | succ n ih =>
    intro a1 μ h p e s m below meth c A ls H locs cx hr hlk hA hl hw
    have hx := cx.1
    have hb := cx.2.1
    rw [p_X11_specialise_b17_s] at h
    refine lv_iload_n hx hb dX11_specialise_17 rfl (lv_at hl 1 rfl) ?_
    refine lv_ldc hx hb cx.2.2.2.1 (cx.2.2.2.2.1 _ cs_X11_179) dX11_specialise_18 ?_
    refine lv_icmp_ge (tgt := 46) hx hb dX11_specialise_20 (by decide) (fun c3 => ?_) (fun c3 => ?_)
    · rw [if_pos c3] at h
      refine lv_aload_n hx hb dX11_specialise_46 rfl (lv_at hl 0 rfl) ?_
      refine g_get cx hw inX11 (ci := 10) rfl 11 (by decide) rfl (v := .ref (ad 137)) shx_0 rfl fl_X11_83 dX11_specialise_47 ?_
      obtain ⟨r5, μ4, gr5, h⟩ := bd_some h
      refine g_callVI (As := []) (rest := []) cx hw hA (t_X10_answer l G ad μ gr5) shx_137 rfl ml_X11_187 im_X10_answer se_X10_answer in_X10 co_X10_answer rfl hd_X10_answer rfl ⟨(Nat.le_of_ble_eq_true rfl), (Nat.le_of_ble_eq_true rfl)⟩ hl.1 rfl (Nat.le_of_ble_eq_true rfl) dX11_specialise_50 ⟨rfl, rfl⟩ (fun H locs hw => ?_)
      exact g_iret cx hr hlk hw h dX11_specialise_53
    · rw [if_neg c3] at h
      refine lv_aload_n hx hb dX11_specialise_23 rfl (lv_at hl 0 rfl) ?_
      refine g_get cx hw inX11 (ci := 10) rfl 11 (by decide) rfl (v := .ref (ad 137)) shx_0 rfl fl_X11_83 dX11_specialise_24 ?_
      obtain ⟨r7, μ6, gr7, h⟩ := bd_some h
      refine g_callVI (As := []) (rest := []) cx hw hA (t_X10_isWorking l G ad μ gr7) shx_137 rfl ml_X11_180 im_X10_isWorking se_X10_isWorking in_X10 co_X10_isWorking rfl hd_X10_isWorking rfl ⟨(Nat.le_of_ble_eq_true rfl), (Nat.le_of_ble_eq_true rfl)⟩ hl.1 rfl (Nat.le_of_ble_eq_true rfl) dX11_specialise_27 ⟨rfl, rfl⟩ (fun H locs hw => ?_)
      refine lv_if_eq (tgt := 46) hx hb dX11_specialise_30 (by decide) (fun c8 => ?_) (fun c8 => ?_)
      · rw [if_pos c8] at h
        refine lv_aload_n hx hb dX11_specialise_46 rfl (lv_at hl 0 rfl) ?_
        refine g_get cx hw inX11 (ci := 10) rfl 11 (by decide) rfl (v := .ref (ad 137)) shx_0 rfl fl_X11_83 dX11_specialise_47 ?_
        obtain ⟨r10, μ9, gr10, h⟩ := bd_some h
        refine g_callVI (As := []) (rest := []) cx hw hA (t_X10_answer l G ad μ6 gr10) shx_137 rfl ml_X11_187 im_X10_answer se_X10_answer in_X10 co_X10_answer rfl hd_X10_answer rfl ⟨(Nat.le_of_ble_eq_true rfl), (Nat.le_of_ble_eq_true rfl)⟩ hl.1 rfl (Nat.le_of_ble_eq_true rfl) dX11_specialise_50 ⟨rfl, rfl⟩ (fun H locs hw => ?_)
        exact g_iret cx hr hlk hw h dX11_specialise_53
      · rw [if_neg c8] at h
        refine lv_aload_n hx hb dX11_specialise_33 rfl (lv_at hl 0 rfl) ?_
        refine g_get cx hw inX11 (ci := 10) rfl 11 (by decide) rfl (v := .ref (ad 137)) shx_0 rfl fl_X11_83 dX11_specialise_34 ?_
        obtain ⟨μ11, gμ11, h⟩ := bw_some h
        refine g_callVV (As := []) (rest := []) cx hw hA (t_X10_step l G ad μ6 gμ11) shx_137 rfl ml_X11_184 im_X10_step se_X10_step in_X10 co_X10_step rfl hd_X10_step rfl ⟨(Nat.le_of_ble_eq_true rfl), (Nat.le_of_ble_eq_true rfl)⟩ hl.1 rfl (Nat.le_of_ble_eq_true rfl) dX11_specialise_37 ⟨rfl, rfl⟩ (fun H locs hw => ?_)
        obtain ⟨v13, ev13, h⟩ := bv_ex h
        refine lv_iinc (v := v13) (lv' := [(1, .int v13), (0, .ref (ad 0))]) hx hb dX11_specialise_40 hl (k := 1) rfl (by rw [ev13]; rfl) (by decide) rfl (fun ls hl => ?_)
        refine lv_goto (tgt := 17) hx hb dX11_specialise_43 (by decide) ?_
        exact ih v13 μ11 h p e s m below meth c A ls H locs cx hr hlk hA (lv_sub hl [1, 0] rfl) hw
theorem p_X11_specialise_ex : ∃ f : Mem → Option (Int32 × Mem), ∀  (μ : Mem), f  μ = bw (p_X10_begin (sel 2 (μ.2.2 0 4)) (sel 1 (μ.2.2 0 6)) μ) (fun μ1 => p_X11_specialise_b17  FUEL (0 : Int32) μ1) := ⟨fun  (μ : Mem) => bw (p_X10_begin (sel 2 (μ.2.2 0 4)) (sel 1 (μ.2.2 0 6)) μ) (fun μ1 => p_X11_specialise_b17  FUEL (0 : Int32) μ1), fun _ => rfl⟩
noncomputable def p_X11_specialise : Mem → Option (Int32 × Mem) := Classical.choose p_X11_specialise_ex
theorem p_X11_specialise_eq  (μ : Mem) : p_X11_specialise  μ = bw (p_X10_begin (sel 2 (μ.2.2 0 4)) (sel 1 (μ.2.2 0 6)) μ) (fun μ1 => p_X11_specialise_b17  FUEL (0 : Int32) μ1) := Classical.choose_spec p_X11_specialise_ex  μ
set_option maxHeartbeats 4000000 in
set_option maxRecDepth 100000 in
theorem t_X11_specialise (l : Launch) (G : Gt) (ad : Nat → Nat)  (μ : Mem) {r : Int32} {μz : Mem} (h : p_X11_specialise  μ = some (r, μz)) : Mt l yX11_specialise cX11_specialise 2 (some .int) ({ frames := 104, cells := 0, slots := 0, locals := 2848 } : Room) G [.ref (ad 0)] (wd 0 G ad μ) (eI 0 G ad r μz) := by
  refine Bk.mt (by decide) rfl (Nat.le_of_ble_eq_true rfl) ?_
  intro p e s m below meth c A ls H locs cx hr hlk hA hl hw
  have hx := cx.1
  have hb := cx.2.1
  have hl : lv_has ls 2 [(0, .ref (ad 0))] := hl
  rw [p_X11_specialise_eq] at h
  refine lv_aload_n hx hb dX11_specialise_0 rfl (lv_at hl 0 rfl) ?_
  refine g_get cx hw inX11 (ci := 10) rfl 11 (by decide) rfl (v := .ref (ad 137)) shx_0 rfl fl_X11_83 dX11_specialise_1 ?_
  refine lv_aload_n hx hb dX11_specialise_4 rfl (lv_at hl 0 rfl) ?_
  refine g_get cx hw inX11 (ci := 10) rfl 4 (by decide) rfl (v := .ref (ad (sel 2 (μ.2.2 0 4)))) shx_0 rfl fl_X11_23 dX11_specialise_5 ?_
  refine lv_aload_n hx hb dX11_specialise_8 rfl (lv_at hl 0 rfl) ?_
  refine g_get cx hw inX11 (ci := 10) rfl 6 (by decide) rfl (v := .ref (ad (sel 1 (μ.2.2 0 6)))) shx_0 rfl fl_X11_44 dX11_specialise_9 ?_
  obtain ⟨μ1, gμ1, h⟩ := bw_some h
  refine g_callVV (As := [.ref (ad (sel 2 (μ.2.2 0 4))), .ref (ad (sel 1 (μ.2.2 0 6)))]) (rest := []) cx hw hA (t_X10_begin l G ad (sel 2 (μ.2.2 0 4)) (sel_2 _) (sel 1 (μ.2.2 0 6)) (sel_1 _) μ gμ1) shx_137 rfl ml_X11_176 im_X10_begin se_X10_begin in_X10 co_X10_begin rfl hd_X10_begin rfl ⟨(Nat.le_of_ble_eq_true rfl), (Nat.le_of_ble_eq_true rfl)⟩ hl.1 rfl (Nat.le_of_ble_eq_true rfl) dX11_specialise_12 ⟨rfl, rfl⟩ (fun H locs hw => ?_)
  refine lv_iconst (v := 0) hx hb dX11_specialise_15 (by decide) ?_
  refine lv_istore_n (lv' := [(1, .int 0), (0, .ref (ad 0))]) hx hb dX11_specialise_16 rfl hl (by decide) rfl (fun ls hl => ?_)
  exact t_X11_specialise_b17 l G ad _  FUEL (0 : Int32) μ1 h p e s m below meth c A ls H locs cx hr hlk hA (lv_sub hl [1, 0] rfl) hw

theorem p_X5_countOf_b62_ex : ∃ f : (Int32 → Int32 → Int32 → Int32 → Mem → Option (Int32 × Mem)) → Int32 → Int32 → Int32 → Int32 → Mem → Option (Int32 × Mem), ∀ (K5 : Int32 → Int32 → Int32 → Int32 → Mem → Option (Int32 × Mem)) (a1 : Int32) (a2 : Int32) (a3 : Int32) (a4 : Int32) (μ : Mem), f K5 a1 a2 a3 a4 μ = bv (a4 + 1) (fun v4 => K5 a1 a2 a3 v4 μ) := ⟨fun (K5 : Int32 → Int32 → Int32 → Int32 → Mem → Option (Int32 × Mem)) (a1 : Int32) (a2 : Int32) (a3 : Int32) (a4 : Int32) (μ : Mem) => bv (a4 + 1) (fun v4 => K5 a1 a2 a3 v4 μ), fun _ _ _ _ _ _ => rfl⟩
noncomputable def p_X5_countOf_b62 : (Int32 → Int32 → Int32 → Int32 → Mem → Option (Int32 × Mem)) → Int32 → Int32 → Int32 → Int32 → Mem → Option (Int32 × Mem) := Classical.choose p_X5_countOf_b62_ex
theorem p_X5_countOf_b62_eq (K5 : Int32 → Int32 → Int32 → Int32 → Mem → Option (Int32 × Mem)) (a1 : Int32) (a2 : Int32) (a3 : Int32) (a4 : Int32) (μ : Mem) : p_X5_countOf_b62 K5 a1 a2 a3 a4 μ = bv (a4 + 1) (fun v4 => K5 a1 a2 a3 v4 μ) := Classical.choose_spec p_X5_countOf_b62_ex K5 a1 a2 a3 a4 μ
set_option maxHeartbeats 4000000 in
set_option maxRecDepth 100000 in
theorem t_X5_countOf_b62 (l : Launch) (G : Gt) (ad : Nat → Nat) (av : List Value) {r : Int32} {μz : Mem} (K5 : Int32 → Int32 → Int32 → Int32 → Mem → Option (Int32 × Mem)) (hK5 : ∀ (z1 : Int32) (z2 : Int32) (z3 : Int32) (z4 : Int32) (μ1 : Mem), K5 z1 z2 z3 z4 μ1 = some (r, μz) → Bk l cX5_countOf 6 RX5 (some .int) ({ frames := 1, cells := 0, slots := 0, locals := 22 } : Room) G av (eI 0 G ad r μz) (wd 0 G ad μ1) 5 [(0, .ref (ad 39)), (1, .int z1), (2, .int z2), (3, .int z3), (4, .int z4)] []) (a1 : Int32) (a2 : Int32) (a3 : Int32) (a4 : Int32) (μ : Mem) (h : p_X5_countOf_b62 K5 a1 a2 a3 a4 μ = some (r, μz)) : Bk l cX5_countOf 6 RX5 (some .int) ({ frames := 1, cells := 0, slots := 0, locals := 22 } : Room) G av (eI 0 G ad r μz) (wd 0 G ad μ) 62 [(0, .ref (ad 39)), (1, .int a1), (2, .int a2), (3, .int a3), (4, .int a4)] [] := by
  intro p e s m below meth c A ls H locs cx hr hlk hA hl hw
  have hx := cx.1
  have hb := cx.2.1
  rw [p_X5_countOf_b62_eq] at h
  obtain ⟨v4, ev4, h⟩ := bv_ex h
  refine lv_iinc (v := v4) (lv' := [(4, .int v4), (0, .ref (ad 39)), (1, .int a1), (2, .int a2), (3, .int a3)]) hx hb dX5_countOf_62 hl (k := 4) rfl (by rw [ev4]; rfl) (by decide) rfl (fun ls hl => ?_)
  refine lv_goto (tgt := 5) hx hb dX5_countOf_65 (by decide) ?_
  exact hK5 a1 a2 a3 v4 μ h p e s m below meth c A ls H locs cx hr hlk hA (lv_sub hl [1, 2, 3, 4, 0] rfl) hw
theorem p_X5_countOf_b59_ex : ∃ f : (Int32 → Int32 → Int32 → Int32 → Mem → Option (Int32 × Mem)) → Int32 → Int32 → Int32 → Int32 → Mem → Option (Int32 × Mem), ∀ (K5 : Int32 → Int32 → Int32 → Int32 → Mem → Option (Int32 × Mem)) (a1 : Int32) (a2 : Int32) (a3 : Int32) (a4 : Int32) (μ : Mem), f K5 a1 a2 a3 a4 μ = bv (a3 + 1) (fun v6 => p_X5_countOf_b62 K5 a1 a2 v6 a4 μ) := ⟨fun (K5 : Int32 → Int32 → Int32 → Int32 → Mem → Option (Int32 × Mem)) (a1 : Int32) (a2 : Int32) (a3 : Int32) (a4 : Int32) (μ : Mem) => bv (a3 + 1) (fun v6 => p_X5_countOf_b62 K5 a1 a2 v6 a4 μ), fun _ _ _ _ _ _ => rfl⟩
noncomputable def p_X5_countOf_b59 : (Int32 → Int32 → Int32 → Int32 → Mem → Option (Int32 × Mem)) → Int32 → Int32 → Int32 → Int32 → Mem → Option (Int32 × Mem) := Classical.choose p_X5_countOf_b59_ex
theorem p_X5_countOf_b59_eq (K5 : Int32 → Int32 → Int32 → Int32 → Mem → Option (Int32 × Mem)) (a1 : Int32) (a2 : Int32) (a3 : Int32) (a4 : Int32) (μ : Mem) : p_X5_countOf_b59 K5 a1 a2 a3 a4 μ = bv (a3 + 1) (fun v6 => p_X5_countOf_b62 K5 a1 a2 v6 a4 μ) := Classical.choose_spec p_X5_countOf_b59_ex K5 a1 a2 a3 a4 μ
set_option maxHeartbeats 4000000 in
set_option maxRecDepth 100000 in
theorem t_X5_countOf_b59 (l : Launch) (G : Gt) (ad : Nat → Nat) (av : List Value) {r : Int32} {μz : Mem} (K5 : Int32 → Int32 → Int32 → Int32 → Mem → Option (Int32 × Mem)) (hK5 : ∀ (z1 : Int32) (z2 : Int32) (z3 : Int32) (z4 : Int32) (μ1 : Mem), K5 z1 z2 z3 z4 μ1 = some (r, μz) → Bk l cX5_countOf 6 RX5 (some .int) ({ frames := 1, cells := 0, slots := 0, locals := 22 } : Room) G av (eI 0 G ad r μz) (wd 0 G ad μ1) 5 [(0, .ref (ad 39)), (1, .int z1), (2, .int z2), (3, .int z3), (4, .int z4)] []) (a1 : Int32) (a2 : Int32) (a3 : Int32) (a4 : Int32) (μ : Mem) (h : p_X5_countOf_b59 K5 a1 a2 a3 a4 μ = some (r, μz)) : Bk l cX5_countOf 6 RX5 (some .int) ({ frames := 1, cells := 0, slots := 0, locals := 22 } : Room) G av (eI 0 G ad r μz) (wd 0 G ad μ) 59 [(0, .ref (ad 39)), (1, .int a1), (2, .int a2), (3, .int a3), (4, .int a4)] [] := by
  intro p e s m below meth c A ls H locs cx hr hlk hA hl hw
  have hx := cx.1
  have hb := cx.2.1
  rw [p_X5_countOf_b59_eq] at h
  obtain ⟨v6, ev6, h⟩ := bv_ex h
  refine lv_iinc (v := v6) (lv' := [(3, .int v6), (0, .ref (ad 39)), (1, .int a1), (2, .int a2), (4, .int a4)]) hx hb dX5_countOf_59 hl (k := 3) rfl (by rw [ev6]; rfl) (by decide) rfl (fun ls hl => ?_)
  exact t_X5_countOf_b62 l G ad av K5 hK5 a1 a2 v6 a4 μ h p e s m below meth c A ls H locs cx hr hlk hA (lv_sub hl [1, 2, 3, 0, 4] rfl) hw
theorem p_X5_countOf_b36_ex : ∃ f : (Int32 → Int32 → Int32 → Int32 → Mem → Option (Int32 × Mem)) → Int32 → Int32 → Int32 → Int32 → Int32 → Mem → Option (Int32 × Mem), ∀ (K5 : Int32 → Int32 → Int32 → Int32 → Mem → Option (Int32 × Mem)) (a1 : Int32) (a2 : Int32) (a3 : Int32) (a4 : Int32) (k0 : Int32) (μ : Mem), f K5 a1 a2 a3 a4 k0 μ = (if k0 = (0 : Int32) then p_X5_countOf_b62 K5 a1 a2 a3 a4 μ else (if a2 = (-1 : Int32) then p_X5_countOf_b59 K5 a1 a2 a3 a4 μ else bd (p_X5_cell a4 (0 : Int32) μ) (fun r8 μ7 => (if r8 = a2 then p_X5_countOf_b59 K5 a1 a2 a3 a4 μ7 else p_X5_countOf_b62 K5 a1 a2 a3 a4 μ7)))) := ⟨fun (K5 : Int32 → Int32 → Int32 → Int32 → Mem → Option (Int32 × Mem)) (a1 : Int32) (a2 : Int32) (a3 : Int32) (a4 : Int32) (k0 : Int32) (μ : Mem) => (if k0 = (0 : Int32) then p_X5_countOf_b62 K5 a1 a2 a3 a4 μ else (if a2 = (-1 : Int32) then p_X5_countOf_b59 K5 a1 a2 a3 a4 μ else bd (p_X5_cell a4 (0 : Int32) μ) (fun r8 μ7 => (if r8 = a2 then p_X5_countOf_b59 K5 a1 a2 a3 a4 μ7 else p_X5_countOf_b62 K5 a1 a2 a3 a4 μ7)))), fun _ _ _ _ _ _ _ => rfl⟩
noncomputable def p_X5_countOf_b36 : (Int32 → Int32 → Int32 → Int32 → Mem → Option (Int32 × Mem)) → Int32 → Int32 → Int32 → Int32 → Int32 → Mem → Option (Int32 × Mem) := Classical.choose p_X5_countOf_b36_ex
theorem p_X5_countOf_b36_eq (K5 : Int32 → Int32 → Int32 → Int32 → Mem → Option (Int32 × Mem)) (a1 : Int32) (a2 : Int32) (a3 : Int32) (a4 : Int32) (k0 : Int32) (μ : Mem) : p_X5_countOf_b36 K5 a1 a2 a3 a4 k0 μ = (if k0 = (0 : Int32) then p_X5_countOf_b62 K5 a1 a2 a3 a4 μ else (if a2 = (-1 : Int32) then p_X5_countOf_b59 K5 a1 a2 a3 a4 μ else bd (p_X5_cell a4 (0 : Int32) μ) (fun r8 μ7 => (if r8 = a2 then p_X5_countOf_b59 K5 a1 a2 a3 a4 μ7 else p_X5_countOf_b62 K5 a1 a2 a3 a4 μ7)))) := Classical.choose_spec p_X5_countOf_b36_ex K5 a1 a2 a3 a4 k0 μ
set_option maxHeartbeats 4000000 in
set_option maxRecDepth 100000 in
theorem t_X5_countOf_b36 (l : Launch) (G : Gt) (ad : Nat → Nat) (av : List Value) {r : Int32} {μz : Mem} (K5 : Int32 → Int32 → Int32 → Int32 → Mem → Option (Int32 × Mem)) (hK5 : ∀ (z1 : Int32) (z2 : Int32) (z3 : Int32) (z4 : Int32) (μ1 : Mem), K5 z1 z2 z3 z4 μ1 = some (r, μz) → Bk l cX5_countOf 6 RX5 (some .int) ({ frames := 1, cells := 0, slots := 0, locals := 22 } : Room) G av (eI 0 G ad r μz) (wd 0 G ad μ1) 5 [(0, .ref (ad 39)), (1, .int z1), (2, .int z2), (3, .int z3), (4, .int z4)] []) (a1 : Int32) (a2 : Int32) (a3 : Int32) (a4 : Int32) (k0 : Int32) (μ : Mem) (h : p_X5_countOf_b36 K5 a1 a2 a3 a4 k0 μ = some (r, μz)) : Bk l cX5_countOf 6 RX5 (some .int) ({ frames := 1, cells := 0, slots := 0, locals := 22 } : Room) G av (eI 0 G ad r μz) (wd 0 G ad μ) 36 [(0, .ref (ad 39)), (1, .int a1), (2, .int a2), (3, .int a3), (4, .int a4)] [.int k0] := by
  intro p e s m below meth c A ls H locs cx hr hlk hA hl hw
  have hx := cx.1
  have hb := cx.2.1
  rw [p_X5_countOf_b36_eq] at h
  refine lv_istore (lv' := [(5, .int k0), (0, .ref (ad 39)), (1, .int a1), (2, .int a2), (3, .int a3), (4, .int a4)]) hx hb dX5_countOf_36 hl (by decide) rfl (fun ls hl => ?_)
  refine lv_iload hx hb dX5_countOf_38 (lv_at hl 0 rfl) ?_
  refine lv_if_eq (tgt := 62) hx hb dX5_countOf_40 (by decide) (fun c3 => ?_) (fun c3 => ?_)
  · rw [if_pos c3] at h
    exact t_X5_countOf_b62 l G ad av K5 hK5 a1 a2 a3 a4 μ h p e s m below meth c A ls H locs cx hr hlk hA (lv_sub hl [1, 2, 3, 4, 5] rfl) hw
  · rw [if_neg c3] at h
    refine lv_iload_n hx hb dX5_countOf_43 rfl (lv_at hl 3 rfl) ?_
    refine lv_iconst (v := (-1)) hx hb dX5_countOf_44 (by decide) ?_
    refine lv_icmp_eq (tgt := 59) hx hb dX5_countOf_45 (by decide) (fun c5 => ?_) (fun c5 => ?_)
    · rw [if_pos c5] at h
      exact t_X5_countOf_b59 l G ad av K5 hK5 a1 a2 a3 a4 μ h p e s m below meth c A ls H locs cx hr hlk hA (lv_sub hl [1, 2, 3, 4, 5] rfl) hw
    · rw [if_neg c5] at h
      refine lv_aload_n hx hb dX5_countOf_48 rfl (lv_at hl 1 rfl) ?_
      refine lv_iload hx hb dX5_countOf_49 (lv_at hl 5 rfl) ?_
      refine lv_iconst (v := 0) hx hb dX5_countOf_51 (by decide) ?_
      obtain ⟨r8, μ7, gr8, h⟩ := bd_some h
      refine g_callVI (As := [.int a4, .int 0]) (rest := []) cx hw hA (t_X5_cell l G ad a4 (0 : Int32) μ gr8) shx_39 rfl ml_X5_97 im_X5_cell se_X5_cell in_X5 co_X5_cell rfl hd_X5_cell rfl ⟨(Nat.le_of_ble_eq_true rfl), (Nat.le_of_ble_eq_true rfl)⟩ hl.1 rfl (Nat.le_of_ble_eq_true rfl) dX5_countOf_52 ⟨rfl, rfl⟩ (fun H locs hw => ?_)
      refine lv_iload_n hx hb dX5_countOf_55 rfl (lv_at hl 3 rfl) ?_
      refine lv_icmp_ne (tgt := 62) hx hb dX5_countOf_56 (by decide) (fun c9 => ?_) (fun c9 => ?_)
      · rw [if_neg c9] at h
        exact t_X5_countOf_b62 l G ad av K5 hK5 a1 a2 a3 a4 μ7 h p e s m below meth c A ls H locs cx hr hlk hA (lv_sub hl [1, 2, 3, 4, 5] rfl) hw
      · rw [if_pos c9] at h
        exact t_X5_countOf_b59 l G ad av K5 hK5 a1 a2 a3 a4 μ7 h p e s m below meth c A ls H locs cx hr hlk hA (lv_sub hl [1, 2, 3, 4, 5] rfl) hw
theorem p_X5_countOf_b31_ex : ∃ f : (Int32 → Int32 → Int32 → Int32 → Mem → Option (Int32 × Mem)) → Int32 → Int32 → Int32 → Int32 → Mem → Option (Int32 × Mem), ∀ (K5 : Int32 → Int32 → Int32 → Int32 → Mem → Option (Int32 × Mem)) (a1 : Int32) (a2 : Int32) (a3 : Int32) (a4 : Int32) (μ : Mem), f K5 a1 a2 a3 a4 μ = p_X5_countOf_b36 K5 a1 a2 a3 a4 (1 : Int32) μ := ⟨fun (K5 : Int32 → Int32 → Int32 → Int32 → Mem → Option (Int32 × Mem)) (a1 : Int32) (a2 : Int32) (a3 : Int32) (a4 : Int32) (μ : Mem) => p_X5_countOf_b36 K5 a1 a2 a3 a4 (1 : Int32) μ, fun _ _ _ _ _ _ => rfl⟩
noncomputable def p_X5_countOf_b31 : (Int32 → Int32 → Int32 → Int32 → Mem → Option (Int32 × Mem)) → Int32 → Int32 → Int32 → Int32 → Mem → Option (Int32 × Mem) := Classical.choose p_X5_countOf_b31_ex
theorem p_X5_countOf_b31_eq (K5 : Int32 → Int32 → Int32 → Int32 → Mem → Option (Int32 × Mem)) (a1 : Int32) (a2 : Int32) (a3 : Int32) (a4 : Int32) (μ : Mem) : p_X5_countOf_b31 K5 a1 a2 a3 a4 μ = p_X5_countOf_b36 K5 a1 a2 a3 a4 (1 : Int32) μ := Classical.choose_spec p_X5_countOf_b31_ex K5 a1 a2 a3 a4 μ
set_option maxHeartbeats 4000000 in
set_option maxRecDepth 100000 in
theorem t_X5_countOf_b31 (l : Launch) (G : Gt) (ad : Nat → Nat) (av : List Value) {r : Int32} {μz : Mem} (K5 : Int32 → Int32 → Int32 → Int32 → Mem → Option (Int32 × Mem)) (hK5 : ∀ (z1 : Int32) (z2 : Int32) (z3 : Int32) (z4 : Int32) (μ1 : Mem), K5 z1 z2 z3 z4 μ1 = some (r, μz) → Bk l cX5_countOf 6 RX5 (some .int) ({ frames := 1, cells := 0, slots := 0, locals := 22 } : Room) G av (eI 0 G ad r μz) (wd 0 G ad μ1) 5 [(0, .ref (ad 39)), (1, .int z1), (2, .int z2), (3, .int z3), (4, .int z4)] []) (a1 : Int32) (a2 : Int32) (a3 : Int32) (a4 : Int32) (μ : Mem) (h : p_X5_countOf_b31 K5 a1 a2 a3 a4 μ = some (r, μz)) : Bk l cX5_countOf 6 RX5 (some .int) ({ frames := 1, cells := 0, slots := 0, locals := 22 } : Room) G av (eI 0 G ad r μz) (wd 0 G ad μ) 31 [(0, .ref (ad 39)), (1, .int a1), (2, .int a2), (3, .int a3), (4, .int a4)] [] := by
  intro p e s m below meth c A ls H locs cx hr hlk hA hl hw
  have hx := cx.1
  have hb := cx.2.1
  rw [p_X5_countOf_b31_eq] at h
  refine lv_iconst (v := 1) hx hb dX5_countOf_31 (by decide) ?_
  refine lv_goto (tgt := 36) hx hb dX5_countOf_32 (by decide) ?_
  exact t_X5_countOf_b36 l G ad av K5 hK5 a1 a2 a3 a4 (1 : Int32) μ h p e s m below meth c A ls H locs cx hr hlk hA (lv_sub hl [0, 1, 2, 3, 4] rfl) hw
theorem p_X5_countOf_b5_ex : ∃ f : Nat → Int32 → Int32 → Int32 → Int32 → Mem → Option (Int32 × Mem), (∀ (a1 : Int32) (a2 : Int32) (a3 : Int32) (a4 : Int32) (μ : Mem), f  0 a1 a2 a3 a4 μ = none) ∧ (∀ (n : Nat) (a1 : Int32) (a2 : Int32) (a3 : Int32) (a4 : Int32) (μ : Mem), f  (n + 1) a1 a2 a3 a4 μ = (if (μ.1 39 1) ≤ a4 then some (a3, μ) else (if a1 = (-1 : Int32) then p_X5_countOf_b31 (f n) a1 a2 a3 a4 μ else bd (p_X5_cell a4 (6 : Int32) μ) (fun r11 μ10 => (if r11 = a1 then p_X5_countOf_b31 (f n) a1 a2 a3 a4 μ10 else p_X5_countOf_b36 (f n) a1 a2 a3 a4 (0 : Int32) μ10))))) := ⟨fun n => Nat.rec (fun (a1 : Int32) (a2 : Int32) (a3 : Int32) (a4 : Int32) (μ : Mem) => none) (fun _ ih => fun (a1 : Int32) (a2 : Int32) (a3 : Int32) (a4 : Int32) (μ : Mem) => (if (μ.1 39 1) ≤ a4 then some (a3, μ) else (if a1 = (-1 : Int32) then p_X5_countOf_b31 (ih) a1 a2 a3 a4 μ else bd (p_X5_cell a4 (6 : Int32) μ) (fun r11 μ10 => (if r11 = a1 then p_X5_countOf_b31 (ih) a1 a2 a3 a4 μ10 else p_X5_countOf_b36 (ih) a1 a2 a3 a4 (0 : Int32) μ10))))) n, fun  _ _ _ _ _ => rfl, fun  _ _ _ _ _ _ => rfl⟩
noncomputable def p_X5_countOf_b5 : Nat → Int32 → Int32 → Int32 → Int32 → Mem → Option (Int32 × Mem) := Classical.choose p_X5_countOf_b5_ex
theorem p_X5_countOf_b5_z (a1 : Int32) (a2 : Int32) (a3 : Int32) (a4 : Int32) (μ : Mem) : p_X5_countOf_b5  0 a1 a2 a3 a4 μ = none := (Classical.choose_spec p_X5_countOf_b5_ex).1  a1 a2 a3 a4 μ
theorem p_X5_countOf_b5_s (n : Nat) (a1 : Int32) (a2 : Int32) (a3 : Int32) (a4 : Int32) (μ : Mem) : p_X5_countOf_b5  (n + 1) a1 a2 a3 a4 μ = (if (μ.1 39 1) ≤ a4 then some (a3, μ) else (if a1 = (-1 : Int32) then p_X5_countOf_b31 (p_X5_countOf_b5  n) a1 a2 a3 a4 μ else bd (p_X5_cell a4 (6 : Int32) μ) (fun r11 μ10 => (if r11 = a1 then p_X5_countOf_b31 (p_X5_countOf_b5  n) a1 a2 a3 a4 μ10 else p_X5_countOf_b36 (p_X5_countOf_b5  n) a1 a2 a3 a4 (0 : Int32) μ10)))) := (Classical.choose_spec p_X5_countOf_b5_ex).2  n a1 a2 a3 a4 μ
set_option maxHeartbeats 4000000 in
set_option maxRecDepth 100000 in
theorem t_X5_countOf_b5 (l : Launch) (G : Gt) (ad : Nat → Nat) (av : List Value) {r : Int32} {μz : Mem} : ∀ (n : Nat) (a1 : Int32) (a2 : Int32) (a3 : Int32) (a4 : Int32) (μ : Mem), p_X5_countOf_b5  n a1 a2 a3 a4 μ = some (r, μz) → Bk l cX5_countOf 6 RX5 (some .int) ({ frames := 1, cells := 0, slots := 0, locals := 22 } : Room) G av (eI 0 G ad r μz) (wd 0 G ad μ) 5 [(0, .ref (ad 39)), (1, .int a1), (2, .int a2), (3, .int a3), (4, .int a4)] [] := by
  intro n
  induction n with
  | zero => intro a1 a2 a3 a4 μ h; rw [p_X5_countOf_b5_z] at h; cases h
  | succ n ih =>
    intro a1 a2 a3 a4 μ h p e s m below meth c A ls H locs cx hr hlk hA hl hw
    have hx := cx.1
    have hb := cx.2.1
    rw [p_X5_countOf_b5_s] at h
    refine lv_iload hx hb dX5_countOf_5 (lv_at hl 4 rfl) ?_
    refine lv_aload_n hx hb dX5_countOf_7 rfl (lv_at hl 0 rfl) ?_
    refine g_get cx hw inX5 (ci := 4) rfl 1 (by decide) rfl (v := .int (μ.1 39 1)) shx_39 rfl fl_X5_44 dX5_countOf_8 ?_
    refine lv_icmp_ge (tgt := 68) hx hb dX5_countOf_11 (by decide) (fun c1 => ?_) (fun c1 => ?_)
    · rw [if_pos c1] at h
      refine lv_iload_n hx hb dX5_countOf_68 rfl (lv_at hl 3 rfl) ?_
      exact g_iret cx hr hlk hw h dX5_countOf_69
    · rw [if_neg c1] at h
      refine lv_iload_n hx hb dX5_countOf_14 rfl (lv_at hl 1 rfl) ?_
      refine lv_iconst (v := (-1)) hx hb dX5_countOf_15 (by decide) ?_
      refine lv_icmp_eq (tgt := 31) hx hb dX5_countOf_16 (by decide) (fun c2 => ?_) (fun c2 => ?_)
      · rw [if_pos c2] at h
        exact t_X5_countOf_b31 l G ad av _ ih a1 a2 a3 a4 μ h p e s m below meth c A ls H locs cx hr hlk hA (lv_sub hl [0, 1, 2, 3, 4] rfl) hw
      · rw [if_neg c2] at h
        refine lv_aload_n hx hb dX5_countOf_19 rfl (lv_at hl 0 rfl) ?_
        refine lv_iload hx hb dX5_countOf_20 (lv_at hl 4 rfl) ?_
        refine lv_bipush (v := 6) hx hb dX5_countOf_22 (by decide) ?_
        obtain ⟨r11, μ10, gr11, h⟩ := bd_some h
        refine g_callVI (As := [.int a4, .int 6]) (rest := []) cx hw hA (t_X5_cell l G ad a4 (6 : Int32) μ gr11) shx_39 rfl ml_X5_97 im_X5_cell se_X5_cell in_X5 co_X5_cell rfl hd_X5_cell rfl ⟨(Nat.le_of_ble_eq_true rfl), (Nat.le_of_ble_eq_true rfl)⟩ hl.1 rfl (Nat.le_of_ble_eq_true rfl) dX5_countOf_24 ⟨rfl, rfl⟩ (fun H locs hw => ?_)
        refine lv_iload_n hx hb dX5_countOf_27 rfl (lv_at hl 1 rfl) ?_
        refine lv_icmp_ne (tgt := 35) hx hb dX5_countOf_28 (by decide) (fun c12 => ?_) (fun c12 => ?_)
        · rw [if_neg c12] at h
          refine lv_iconst (v := 0) hx hb dX5_countOf_35 (by decide) ?_
          exact t_X5_countOf_b36 l G ad av _ ih a1 a2 a3 a4 (0 : Int32) μ10 h p e s m below meth c A ls H locs cx hr hlk hA (lv_sub hl [0, 1, 2, 3, 4] rfl) hw
        · rw [if_pos c12] at h
          exact t_X5_countOf_b31 l G ad av _ ih a1 a2 a3 a4 μ10 h p e s m below meth c A ls H locs cx hr hlk hA (lv_sub hl [0, 1, 2, 3, 4] rfl) hw
theorem p_X5_countOf_ex : ∃ f : Int32 → Int32 → Mem → Option (Int32 × Mem), ∀ (a1 : Int32) (a2 : Int32) (μ : Mem), f a1 a2 μ = p_X5_countOf_b5  FUEL a1 a2 (0 : Int32) (0 : Int32) μ := ⟨fun (a1 : Int32) (a2 : Int32) (μ : Mem) => p_X5_countOf_b5  FUEL a1 a2 (0 : Int32) (0 : Int32) μ, fun _ _ _ => rfl⟩
noncomputable def p_X5_countOf : Int32 → Int32 → Mem → Option (Int32 × Mem) := Classical.choose p_X5_countOf_ex
theorem p_X5_countOf_eq (a1 : Int32) (a2 : Int32) (μ : Mem) : p_X5_countOf a1 a2 μ = p_X5_countOf_b5  FUEL a1 a2 (0 : Int32) (0 : Int32) μ := Classical.choose_spec p_X5_countOf_ex a1 a2 μ
set_option maxHeartbeats 4000000 in
set_option maxRecDepth 100000 in
theorem t_X5_countOf (l : Launch) (G : Gt) (ad : Nat → Nat) (a1 : Int32) (a2 : Int32) (μ : Mem) {r : Int32} {μz : Mem} (h : p_X5_countOf a1 a2 μ = some (r, μz)) : Mt l yX5_countOf cX5_countOf 6 (some .int) ({ frames := 1, cells := 0, slots := 0, locals := 22 } : Room) G [.ref (ad 39), .int a1, .int a2] (wd 0 G ad μ) (eI 0 G ad r μz) := by
  refine Bk.mt (by decide) rfl (Nat.le_of_ble_eq_true rfl) ?_
  intro p e s m below meth c A ls H locs cx hr hlk hA hl hw
  have hx := cx.1
  have hb := cx.2.1
  have hl : lv_has ls 6 [(0, .ref (ad 39)), (1, .int a1), (2, .int a2)] := hl
  rw [p_X5_countOf_eq] at h
  refine lv_iconst (v := 0) hx hb dX5_countOf_0 (by decide) ?_
  refine lv_istore_n (lv' := [(3, .int 0), (0, .ref (ad 39)), (1, .int a1), (2, .int a2)]) hx hb dX5_countOf_1 rfl hl (by decide) rfl (fun ls hl => ?_)
  refine lv_iconst (v := 0) hx hb dX5_countOf_2 (by decide) ?_
  refine lv_istore (lv' := [(4, .int 0), (3, .int 0), (0, .ref (ad 39)), (1, .int a1), (2, .int a2)]) hx hb dX5_countOf_3 hl (by decide) rfl (fun ls hl => ?_)
  exact t_X5_countOf_b5 l G ad _  FUEL a1 a2 (0 : Int32) (0 : Int32) μ h p e s m below meth c A ls H locs cx hr hlk hA (lv_sub hl [2, 3, 4, 1, 0] rfl) hw

theorem p_X5_about_ex : ∃ f : Int32 → Mem → Option (Int32 × Mem), ∀ (a1 : Int32) (μ : Mem), f a1 μ = (if (μ.1 39 0) = (0 : Int32) then some ((-1 : Int32), μ) else (if a1 = (0 : Int32) then some ((μ.1 39 2), μ) else (if a1 = (1 : Int32) then some ((μ.1 39 1), μ) else (if a1 = (2 : Int32) then some ((μ.1 39 3), μ) else (if a1 = (3 : Int32) then bd (p_X5_countOf (-1 : Int32) (11 : Int32) μ) (fun r8 μ7 => some (r8, μ7)) else (if a1 = (4 : Int32) then bd (p_X5_countOf (-1 : Int32) (7 : Int32) μ) (fun r11 μ10 => some (r11, μ10)) else (if a1 = (5 : Int32) then bd (p_X5_countOf (-1 : Int32) (8 : Int32) μ) (fun r14 μ13 => bd (p_X5_countOf (-1 : Int32) (9 : Int32) μ13) (fun r16 μ15 => some ((r14 + r16), μ15))) else (if a1 = (6 : Int32) then bd (p_X5_countOf (-1 : Int32) (10 : Int32) μ) (fun r19 μ18 => some (r19, μ18)) else (if a1 = (7 : Int32) then bd (p_X5_countOf (-1 : Int32) (6 : Int32) μ) (fun r22 μ21 => some (r22, μ21)) else (if a1 = (8 : Int32) then some ((μ.1 39 4), μ) else (if a1 = (9 : Int32) then some ((μ.1 39 5), μ) else some ((-1 : Int32), μ)))))))))))) := ⟨fun (a1 : Int32) (μ : Mem) => (if (μ.1 39 0) = (0 : Int32) then some ((-1 : Int32), μ) else (if a1 = (0 : Int32) then some ((μ.1 39 2), μ) else (if a1 = (1 : Int32) then some ((μ.1 39 1), μ) else (if a1 = (2 : Int32) then some ((μ.1 39 3), μ) else (if a1 = (3 : Int32) then bd (p_X5_countOf (-1 : Int32) (11 : Int32) μ) (fun r8 μ7 => some (r8, μ7)) else (if a1 = (4 : Int32) then bd (p_X5_countOf (-1 : Int32) (7 : Int32) μ) (fun r11 μ10 => some (r11, μ10)) else (if a1 = (5 : Int32) then bd (p_X5_countOf (-1 : Int32) (8 : Int32) μ) (fun r14 μ13 => bd (p_X5_countOf (-1 : Int32) (9 : Int32) μ13) (fun r16 μ15 => some ((r14 + r16), μ15))) else (if a1 = (6 : Int32) then bd (p_X5_countOf (-1 : Int32) (10 : Int32) μ) (fun r19 μ18 => some (r19, μ18)) else (if a1 = (7 : Int32) then bd (p_X5_countOf (-1 : Int32) (6 : Int32) μ) (fun r22 μ21 => some (r22, μ21)) else (if a1 = (8 : Int32) then some ((μ.1 39 4), μ) else (if a1 = (9 : Int32) then some ((μ.1 39 5), μ) else some ((-1 : Int32), μ)))))))))))), fun _ _ => rfl⟩
noncomputable def p_X5_about : Int32 → Mem → Option (Int32 × Mem) := Classical.choose p_X5_about_ex
theorem p_X5_about_eq (a1 : Int32) (μ : Mem) : p_X5_about a1 μ = (if (μ.1 39 0) = (0 : Int32) then some ((-1 : Int32), μ) else (if a1 = (0 : Int32) then some ((μ.1 39 2), μ) else (if a1 = (1 : Int32) then some ((μ.1 39 1), μ) else (if a1 = (2 : Int32) then some ((μ.1 39 3), μ) else (if a1 = (3 : Int32) then bd (p_X5_countOf (-1 : Int32) (11 : Int32) μ) (fun r8 μ7 => some (r8, μ7)) else (if a1 = (4 : Int32) then bd (p_X5_countOf (-1 : Int32) (7 : Int32) μ) (fun r11 μ10 => some (r11, μ10)) else (if a1 = (5 : Int32) then bd (p_X5_countOf (-1 : Int32) (8 : Int32) μ) (fun r14 μ13 => bd (p_X5_countOf (-1 : Int32) (9 : Int32) μ13) (fun r16 μ15 => some ((r14 + r16), μ15))) else (if a1 = (6 : Int32) then bd (p_X5_countOf (-1 : Int32) (10 : Int32) μ) (fun r19 μ18 => some (r19, μ18)) else (if a1 = (7 : Int32) then bd (p_X5_countOf (-1 : Int32) (6 : Int32) μ) (fun r22 μ21 => some (r22, μ21)) else (if a1 = (8 : Int32) then some ((μ.1 39 4), μ) else (if a1 = (9 : Int32) then some ((μ.1 39 5), μ) else some ((-1 : Int32), μ)))))))))))) := Classical.choose_spec p_X5_about_ex a1 μ
set_option maxHeartbeats 4000000 in
set_option maxRecDepth 100000 in
theorem t_X5_about (l : Launch) (G : Gt) (ad : Nat → Nat) (a1 : Int32) (μ : Mem) {r : Int32} {μz : Mem} (h : p_X5_about a1 μ = some (r, μz)) : Mt l yX5_about cX5_about 2 (some .int) ({ frames := 2, cells := 0, slots := 0, locals := 47 } : Room) G [.ref (ad 39), .int a1] (wd 0 G ad μ) (eI 0 G ad r μz) := by
  refine Bk.mt (by decide) rfl (Nat.le_of_ble_eq_true rfl) ?_
  intro p e s m below meth c A ls H locs cx hr hlk hA hl hw
  have hx := cx.1
  have hb := cx.2.1
  have hl : lv_has ls 2 [(0, .ref (ad 39)), (1, .int a1)] := hl
  rw [p_X5_about_eq] at h
  refine lv_aload_n hx hb dX5_about_0 rfl (lv_at hl 0 rfl) ?_
  refine g_get cx hw inX5 (ci := 4) rfl 0 (by decide) rfl (v := .int (μ.1 39 0)) shx_39 rfl fl_X5_40 dX5_about_1 ?_
  refine lv_if_ne (tgt := 9) hx hb dX5_about_4 (by decide) (fun c1 => ?_) (fun c1 => ?_)
  · rw [if_neg c1] at h
    refine lv_iload_n hx hb dX5_about_9 rfl (lv_at hl 1 rfl) ?_
    refine lv_topi (fun v2 ev2 => ?_)
    by_cases c3 : a1 = (0 : Int32)
    · rw [if_pos c3] at h
      have z9 := ev2.trans c3
      subst z9
      refine lv_tableIn (tgt := 64) hx hb dX5_about_10 (by decide +kernel) (by decide +kernel) rfl (by decide) ?_
      refine lv_aload_n hx hb dX5_about_64 rfl (lv_at hl 0 rfl) ?_
      refine g_get cx hw inX5 (ci := 4) rfl 2 (by decide) rfl (v := .int (μ.1 39 2)) shx_39 rfl fl_X5_48 dX5_about_65 ?_
      exact g_iret cx hr hlk hw h dX5_about_68
    rw [if_neg c3] at h
    by_cases c4 : a1 = (1 : Int32)
    · rw [if_pos c4] at h
      have z9 := ev2.trans c4
      subst z9
      refine lv_tableIn (tgt := 69) hx hb dX5_about_10 (by decide +kernel) (by decide +kernel) rfl (by decide) ?_
      refine lv_aload_n hx hb dX5_about_69 rfl (lv_at hl 0 rfl) ?_
      refine g_get cx hw inX5 (ci := 4) rfl 1 (by decide) rfl (v := .int (μ.1 39 1)) shx_39 rfl fl_X5_44 dX5_about_70 ?_
      exact g_iret cx hr hlk hw h dX5_about_73
    rw [if_neg c4] at h
    by_cases c5 : a1 = (2 : Int32)
    · rw [if_pos c5] at h
      have z9 := ev2.trans c5
      subst z9
      refine lv_tableIn (tgt := 74) hx hb dX5_about_10 (by decide +kernel) (by decide +kernel) rfl (by decide) ?_
      refine lv_aload_n hx hb dX5_about_74 rfl (lv_at hl 0 rfl) ?_
      refine g_get cx hw inX5 (ci := 4) rfl 3 (by decide) rfl (v := .int (μ.1 39 3)) shx_39 rfl fl_X5_51 dX5_about_75 ?_
      exact g_iret cx hr hlk hw h dX5_about_78
    rw [if_neg c5] at h
    by_cases c6 : a1 = (3 : Int32)
    · rw [if_pos c6] at h
      have z9 := ev2.trans c6
      subst z9
      refine lv_tableIn (tgt := 79) hx hb dX5_about_10 (by decide +kernel) (by decide +kernel) rfl (by decide) ?_
      refine lv_aload_n hx hb dX5_about_79 rfl (lv_at hl 0 rfl) ?_
      refine lv_iconst (v := (-1)) hx hb dX5_about_80 (by decide) ?_
      refine lv_bipush (v := 11) hx hb dX5_about_81 (by decide) ?_
      obtain ⟨r8, μ7, gr8, h⟩ := bd_some h
      refine g_callVI (As := [.int (-1), .int 11]) (rest := []) cx hw hA (t_X5_countOf l G ad (-1 : Int32) (11 : Int32) μ gr8) shx_39 rfl ml_X5_100 im_X5_countOf se_X5_countOf in_X5 co_X5_countOf rfl hd_X5_countOf rfl ⟨(Nat.le_of_ble_eq_true rfl), (Nat.le_of_ble_eq_true rfl)⟩ hl.1 rfl (Nat.le_of_ble_eq_true rfl) dX5_about_83 ⟨rfl, rfl⟩ (fun H locs hw => ?_)
      exact g_iret cx hr hlk hw h dX5_about_86
    rw [if_neg c6] at h
    by_cases c9 : a1 = (4 : Int32)
    · rw [if_pos c9] at h
      have z9 := ev2.trans c9
      subst z9
      refine lv_tableIn (tgt := 87) hx hb dX5_about_10 (by decide +kernel) (by decide +kernel) rfl (by decide) ?_
      refine lv_aload_n hx hb dX5_about_87 rfl (lv_at hl 0 rfl) ?_
      refine lv_iconst (v := (-1)) hx hb dX5_about_88 (by decide) ?_
      refine lv_bipush (v := 7) hx hb dX5_about_89 (by decide) ?_
      obtain ⟨r11, μ10, gr11, h⟩ := bd_some h
      refine g_callVI (As := [.int (-1), .int 7]) (rest := []) cx hw hA (t_X5_countOf l G ad (-1 : Int32) (7 : Int32) μ gr11) shx_39 rfl ml_X5_100 im_X5_countOf se_X5_countOf in_X5 co_X5_countOf rfl hd_X5_countOf rfl ⟨(Nat.le_of_ble_eq_true rfl), (Nat.le_of_ble_eq_true rfl)⟩ hl.1 rfl (Nat.le_of_ble_eq_true rfl) dX5_about_91 ⟨rfl, rfl⟩ (fun H locs hw => ?_)
      exact g_iret cx hr hlk hw h dX5_about_94
    rw [if_neg c9] at h
    by_cases c12 : a1 = (5 : Int32)
    · rw [if_pos c12] at h
      have z9 := ev2.trans c12
      subst z9
      refine lv_tableIn (tgt := 95) hx hb dX5_about_10 (by decide +kernel) (by decide +kernel) rfl (by decide) ?_
      refine lv_aload_n hx hb dX5_about_95 rfl (lv_at hl 0 rfl) ?_
      refine lv_iconst (v := (-1)) hx hb dX5_about_96 (by decide) ?_
      refine lv_bipush (v := 8) hx hb dX5_about_97 (by decide) ?_
      obtain ⟨r14, μ13, gr14, h⟩ := bd_some h
      refine g_callVI (As := [.int (-1), .int 8]) (rest := []) cx hw hA (t_X5_countOf l G ad (-1 : Int32) (8 : Int32) μ gr14) shx_39 rfl ml_X5_100 im_X5_countOf se_X5_countOf in_X5 co_X5_countOf rfl hd_X5_countOf rfl ⟨(Nat.le_of_ble_eq_true rfl), (Nat.le_of_ble_eq_true rfl)⟩ hl.1 rfl (Nat.le_of_ble_eq_true rfl) dX5_about_99 ⟨rfl, rfl⟩ (fun H locs hw => ?_)
      refine lv_aload_n hx hb dX5_about_102 rfl (lv_at hl 0 rfl) ?_
      refine lv_iconst (v := (-1)) hx hb dX5_about_103 (by decide) ?_
      refine lv_bipush (v := 9) hx hb dX5_about_104 (by decide) ?_
      obtain ⟨r16, μ15, gr16, h⟩ := bd_some h
      refine g_callVI (As := [.int (-1), .int 9]) (rest := [.int r14]) cx hw hA (t_X5_countOf l G ad (-1 : Int32) (9 : Int32) μ13 gr16) shx_39 rfl ml_X5_100 im_X5_countOf se_X5_countOf in_X5 co_X5_countOf rfl hd_X5_countOf rfl ⟨(Nat.le_of_ble_eq_true rfl), (Nat.le_of_ble_eq_true rfl)⟩ hl.1 rfl (Nat.le_of_ble_eq_true rfl) dX5_about_106 ⟨rfl, rfl⟩ (fun H locs hw => ?_)
      refine lv_iadd hx hb dX5_about_109 ?_
      exact g_iret cx hr hlk hw h dX5_about_110
    rw [if_neg c12] at h
    by_cases c17 : a1 = (6 : Int32)
    · rw [if_pos c17] at h
      have z9 := ev2.trans c17
      subst z9
      refine lv_tableIn (tgt := 111) hx hb dX5_about_10 (by decide +kernel) (by decide +kernel) rfl (by decide) ?_
      refine lv_aload_n hx hb dX5_about_111 rfl (lv_at hl 0 rfl) ?_
      refine lv_iconst (v := (-1)) hx hb dX5_about_112 (by decide) ?_
      refine lv_bipush (v := 10) hx hb dX5_about_113 (by decide) ?_
      obtain ⟨r19, μ18, gr19, h⟩ := bd_some h
      refine g_callVI (As := [.int (-1), .int 10]) (rest := []) cx hw hA (t_X5_countOf l G ad (-1 : Int32) (10 : Int32) μ gr19) shx_39 rfl ml_X5_100 im_X5_countOf se_X5_countOf in_X5 co_X5_countOf rfl hd_X5_countOf rfl ⟨(Nat.le_of_ble_eq_true rfl), (Nat.le_of_ble_eq_true rfl)⟩ hl.1 rfl (Nat.le_of_ble_eq_true rfl) dX5_about_115 ⟨rfl, rfl⟩ (fun H locs hw => ?_)
      exact g_iret cx hr hlk hw h dX5_about_118
    rw [if_neg c17] at h
    by_cases c20 : a1 = (7 : Int32)
    · rw [if_pos c20] at h
      have z9 := ev2.trans c20
      subst z9
      refine lv_tableIn (tgt := 119) hx hb dX5_about_10 (by decide +kernel) (by decide +kernel) rfl (by decide) ?_
      refine lv_aload_n hx hb dX5_about_119 rfl (lv_at hl 0 rfl) ?_
      refine lv_iconst (v := (-1)) hx hb dX5_about_120 (by decide) ?_
      refine lv_bipush (v := 6) hx hb dX5_about_121 (by decide) ?_
      obtain ⟨r22, μ21, gr22, h⟩ := bd_some h
      refine g_callVI (As := [.int (-1), .int 6]) (rest := []) cx hw hA (t_X5_countOf l G ad (-1 : Int32) (6 : Int32) μ gr22) shx_39 rfl ml_X5_100 im_X5_countOf se_X5_countOf in_X5 co_X5_countOf rfl hd_X5_countOf rfl ⟨(Nat.le_of_ble_eq_true rfl), (Nat.le_of_ble_eq_true rfl)⟩ hl.1 rfl (Nat.le_of_ble_eq_true rfl) dX5_about_123 ⟨rfl, rfl⟩ (fun H locs hw => ?_)
      exact g_iret cx hr hlk hw h dX5_about_126
    rw [if_neg c20] at h
    by_cases c23 : a1 = (8 : Int32)
    · rw [if_pos c23] at h
      have z9 := ev2.trans c23
      subst z9
      refine lv_tableIn (tgt := 127) hx hb dX5_about_10 (by decide +kernel) (by decide +kernel) rfl (by decide) ?_
      refine lv_aload_n hx hb dX5_about_127 rfl (lv_at hl 0 rfl) ?_
      refine g_get cx hw inX5 (ci := 4) rfl 4 (by decide) rfl (v := .int (μ.1 39 4)) shx_39 rfl fl_X5_54 dX5_about_128 ?_
      exact g_iret cx hr hlk hw h dX5_about_131
    rw [if_neg c23] at h
    by_cases c24 : a1 = (9 : Int32)
    · rw [if_pos c24] at h
      have z9 := ev2.trans c24
      subst z9
      refine lv_tableIn (tgt := 132) hx hb dX5_about_10 (by decide +kernel) (by decide +kernel) rfl (by decide) ?_
      refine lv_aload_n hx hb dX5_about_132 rfl (lv_at hl 0 rfl) ?_
      refine g_get cx hw inX5 (ci := 4) rfl 5 (by decide) rfl (v := .int (μ.1 39 5)) shx_39 rfl fl_X5_57 dX5_about_133 ?_
      exact g_iret cx hr hlk hw h dX5_about_136
    rw [if_neg c24] at h
    rw [ev2]
    refine lv_tableOut (tgt := 137) hx hb dX5_about_10 (sw_out (L := [(0 : Int32), (1 : Int32), (2 : Int32), (3 : Int32), (4 : Int32), (5 : Int32), (6 : Int32), (7 : Int32), (8 : Int32), (9 : Int32)]) (by decide +kernel) (by simp only [List.forall_mem_cons]; exact ⟨c3, c4, c5, c6, c9, c12, c17, c20, c23, c24, fun _ q => absurd q List.not_mem_nil⟩)) (by decide) ?_
    refine lv_iconst (v := (-1)) hx hb dX5_about_137 (by decide) ?_
    exact g_iret cx hr hlk hw h dX5_about_138
  · rw [if_pos c1] at h
    refine lv_iconst (v := (-1)) hx hb dX5_about_7 (by decide) ?_
    exact g_iret cx hr hlk hw h dX5_about_8

theorem p_X11_residue_ex : ∃ f : Int32 → Mem → Option (Int32 × Mem), ∀ (a1 : Int32) (μ : Mem), f a1 μ = bd (p_X5_about a1 μ) (fun r2 μ1 => some (r2, μ1)) := ⟨fun (a1 : Int32) (μ : Mem) => bd (p_X5_about a1 μ) (fun r2 μ1 => some (r2, μ1)), fun _ _ => rfl⟩
noncomputable def p_X11_residue : Int32 → Mem → Option (Int32 × Mem) := Classical.choose p_X11_residue_ex
theorem p_X11_residue_eq (a1 : Int32) (μ : Mem) : p_X11_residue a1 μ = bd (p_X5_about a1 μ) (fun r2 μ1 => some (r2, μ1)) := Classical.choose_spec p_X11_residue_ex a1 μ
set_option maxHeartbeats 4000000 in
set_option maxRecDepth 100000 in
theorem t_X11_residue (l : Launch) (G : Gt) (ad : Nat → Nat) (a1 : Int32) (μ : Mem) {r : Int32} {μz : Mem} (h : p_X11_residue a1 μ = some (r, μz)) : Mt l yX11_residue cX11_residue 2 (some .int) ({ frames := 3, cells := 0, slots := 0, locals := 68 } : Room) G [.ref (ad 0), .int a1] (wd 0 G ad μ) (eI 0 G ad r μz) := by
  refine Bk.mt (by decide) rfl (Nat.le_of_ble_eq_true rfl) ?_
  intro p e s m below meth c A ls H locs cx hr hlk hA hl hw
  have hx := cx.1
  have hb := cx.2.1
  have hl : lv_has ls 2 [(0, .ref (ad 0)), (1, .int a1)] := hl
  rw [p_X11_residue_eq] at h
  refine lv_aload_n hx hb dX11_residue_0 rfl (lv_at hl 0 rfl) ?_
  refine g_get cx hw inX11 (ci := 10) rfl 12 (by decide) rfl (v := .ref (ad 39)) shx_0 rfl fl_X11_67 dX11_residue_1 ?_
  refine lv_iload_n hx hb dX11_residue_4 rfl (lv_at hl 1 rfl) ?_
  obtain ⟨r2, μ1, gr2, h⟩ := bd_some h
  refine g_callVI (As := [.int a1]) (rest := []) cx hw hA (t_X5_about l G ad a1 μ gr2) shx_39 rfl ml_X11_190 im_X5_about se_X5_about in_X5 co_X5_about rfl hd_X5_about rfl ⟨(Nat.le_of_ble_eq_true rfl), (Nat.le_of_ble_eq_true rfl)⟩ hl.1 rfl (Nat.le_of_ble_eq_true rfl) dX11_residue_5 ⟨rfl, rfl⟩ (fun H locs hw => ?_)
  exact g_iret cx hr hlk hw h dX11_residue_8

theorem p_X5_hasVariant_ex : ∃ f : Int32 → Mem → Option (Int32 × Mem), ∀ (a1 : Int32) (μ : Mem), f a1 μ = (if (μ.1 39 0) = (0 : Int32) then some ((0 : Int32), μ) else (if a1 < (0 : Int32) then some ((0 : Int32), μ) else (if (μ.1 39 2) ≤ a1 then some ((0 : Int32), μ) else some ((1 : Int32), μ)))) := ⟨fun (a1 : Int32) (μ : Mem) => (if (μ.1 39 0) = (0 : Int32) then some ((0 : Int32), μ) else (if a1 < (0 : Int32) then some ((0 : Int32), μ) else (if (μ.1 39 2) ≤ a1 then some ((0 : Int32), μ) else some ((1 : Int32), μ)))), fun _ _ => rfl⟩
noncomputable def p_X5_hasVariant : Int32 → Mem → Option (Int32 × Mem) := Classical.choose p_X5_hasVariant_ex
theorem p_X5_hasVariant_eq (a1 : Int32) (μ : Mem) : p_X5_hasVariant a1 μ = (if (μ.1 39 0) = (0 : Int32) then some ((0 : Int32), μ) else (if a1 < (0 : Int32) then some ((0 : Int32), μ) else (if (μ.1 39 2) ≤ a1 then some ((0 : Int32), μ) else some ((1 : Int32), μ)))) := Classical.choose_spec p_X5_hasVariant_ex a1 μ
set_option maxHeartbeats 4000000 in
set_option maxRecDepth 100000 in
theorem t_X5_hasVariant (l : Launch) (G : Gt) (ad : Nat → Nat) (a1 : Int32) (μ : Mem) {r : Int32} {μz : Mem} (h : p_X5_hasVariant a1 μ = some (r, μz)) : Mt l yX5_hasVariant cX5_hasVariant 2 (some .boolean) ({ frames := 0, cells := 0, slots := 0, locals := 0 } : Room) G [.ref (ad 39), .int a1] (wd 0 G ad μ) (eI 0 G ad r μz) := by
  refine Bk.mt (by decide) rfl (Nat.le_of_ble_eq_true rfl) ?_
  intro p e s m below meth c A ls H locs cx hr hlk hA hl hw
  have hx := cx.1
  have hb := cx.2.1
  have hl : lv_has ls 2 [(0, .ref (ad 39)), (1, .int a1)] := hl
  rw [p_X5_hasVariant_eq] at h
  refine lv_aload_n hx hb dX5_hasVariant_0 rfl (lv_at hl 0 rfl) ?_
  refine g_get cx hw inX5 (ci := 4) rfl 0 (by decide) rfl (v := .int (μ.1 39 0)) shx_39 rfl fl_X5_40 dX5_hasVariant_1 ?_
  refine lv_if_eq (tgt := 23) hx hb dX5_hasVariant_4 (by decide) (fun c1 => ?_) (fun c1 => ?_)
  · rw [if_pos c1] at h
    refine lv_iconst (v := 0) hx hb dX5_hasVariant_23 (by decide) ?_
    exact g_zret cx hr hlk rfl hw h dX5_hasVariant_24
  · rw [if_neg c1] at h
    refine lv_iload_n hx hb dX5_hasVariant_7 rfl (lv_at hl 1 rfl) ?_
    refine lv_if_lt (tgt := 23) hx hb dX5_hasVariant_8 (by decide) (fun c2 => ?_) (fun c2 => ?_)
    · rw [if_pos c2] at h
      refine lv_iconst (v := 0) hx hb dX5_hasVariant_23 (by decide) ?_
      exact g_zret cx hr hlk rfl hw h dX5_hasVariant_24
    · rw [if_neg c2] at h
      refine lv_iload_n hx hb dX5_hasVariant_11 rfl (lv_at hl 1 rfl) ?_
      refine lv_aload_n hx hb dX5_hasVariant_12 rfl (lv_at hl 0 rfl) ?_
      refine g_get cx hw inX5 (ci := 4) rfl 2 (by decide) rfl (v := .int (μ.1 39 2)) shx_39 rfl fl_X5_48 dX5_hasVariant_13 ?_
      refine lv_icmp_ge (tgt := 23) hx hb dX5_hasVariant_16 (by decide) (fun c3 => ?_) (fun c3 => ?_)
      · rw [if_pos c3] at h
        refine lv_iconst (v := 0) hx hb dX5_hasVariant_23 (by decide) ?_
        exact g_zret cx hr hlk rfl hw h dX5_hasVariant_24
      · rw [if_neg c3] at h
        refine lv_iconst (v := 1) hx hb dX5_hasVariant_19 (by decide) ?_
        refine lv_goto (tgt := 24) hx hb dX5_hasVariant_20 (by decide) ?_
        exact g_zret cx hr hlk rfl hw h dX5_hasVariant_24

theorem p_X2_numbers_b27_ex : ∃ f : (Nat → Int32 → Int32 → Mem → Option (Int32 × Mem)) → Nat → Int32 → Int32 → Mem → Option (Int32 × Mem), ∀ (K4 : Nat → Int32 → Int32 → Mem → Option (Int32 × Mem)) (a0 : Nat) (a1 : Int32) (a2 : Int32) (μ : Mem), f K4 a0 a1 a2 μ = bv (a2 + 1) (fun v3 => K4 a0 a1 v3 μ) := ⟨fun (K4 : Nat → Int32 → Int32 → Mem → Option (Int32 × Mem)) (a0 : Nat) (a1 : Int32) (a2 : Int32) (μ : Mem) => bv (a2 + 1) (fun v3 => K4 a0 a1 v3 μ), fun _ _ _ _ _ => rfl⟩
noncomputable def p_X2_numbers_b27 : (Nat → Int32 → Int32 → Mem → Option (Int32 × Mem)) → Nat → Int32 → Int32 → Mem → Option (Int32 × Mem) := Classical.choose p_X2_numbers_b27_ex
theorem p_X2_numbers_b27_eq (K4 : Nat → Int32 → Int32 → Mem → Option (Int32 × Mem)) (a0 : Nat) (a1 : Int32) (a2 : Int32) (μ : Mem) : p_X2_numbers_b27 K4 a0 a1 a2 μ = bv (a2 + 1) (fun v3 => K4 a0 a1 v3 μ) := Classical.choose_spec p_X2_numbers_b27_ex K4 a0 a1 a2 μ
set_option maxHeartbeats 4000000 in
set_option maxRecDepth 100000 in
theorem t_X2_numbers_b27 (l : Launch) (G : Gt) (ad : Nat → Nat) (av : List Value) {r : Int32} {μz : Mem} (K4 : Nat → Int32 → Int32 → Mem → Option (Int32 × Mem)) (hK4 : ∀ (z0 : Nat) (w0 : sh 0 z0 = (0, 1)) (z1 : Int32) (z2 : Int32) (μ1 : Mem), K4 z0 z1 z2 μ1 = some (r, μz) → Bk l cX2_numbers 3 RX2 (some .int) ({ frames := 1, cells := 0, slots := 0, locals := 21 } : Room) G av (eI 0 G ad r μz) (wd 0 G ad μ1) 4 [(0, .ref (ad z0)), (1, .int z1), (2, .int z2)] []) (a0 : Nat) (q0 : sh 0 a0 = (0, 1)) (a1 : Int32) (a2 : Int32) (μ : Mem) (h : p_X2_numbers_b27 K4 a0 a1 a2 μ = some (r, μz)) : Bk l cX2_numbers 3 RX2 (some .int) ({ frames := 1, cells := 0, slots := 0, locals := 21 } : Room) G av (eI 0 G ad r μz) (wd 0 G ad μ) 27 [(0, .ref (ad a0)), (1, .int a1), (2, .int a2)] [] := by
  intro p e s m below meth c A ls H locs cx hr hlk hA hl hw
  have hx := cx.1
  have hb := cx.2.1
  rw [p_X2_numbers_b27_eq] at h
  obtain ⟨v3, ev3, h⟩ := bv_ex h
  refine lv_iinc (v := v3) (lv' := [(2, .int v3), (0, .ref (ad a0)), (1, .int a1)]) hx hb dX2_numbers_27 hl (k := 2) rfl (by rw [ev3]; rfl) (by decide) rfl (fun ls hl => ?_)
  refine lv_goto (tgt := 4) hx hb dX2_numbers_30 (by decide) ?_
  exact hK4 a0 q0 a1 v3 μ h p e s m below meth c A ls H locs cx hr hlk hA (lv_sub hl [1, 2, 0] rfl) hw
theorem p_X2_numbers_b4_ex : ∃ f : Nat → Nat → Int32 → Int32 → Mem → Option (Int32 × Mem), (∀ (a0 : Nat) (a1 : Int32) (a2 : Int32) (μ : Mem), f  0 a0 a1 a2 μ = none) ∧ (∀ (n : Nat) (a0 : Nat) (a1 : Int32) (a2 : Int32) (μ : Mem), f  (n + 1) a0 a1 a2 μ = (if (μ.1 a0 2) ≤ a2 then some (a1, μ) else gd (inb a2 ((sh 0 (a0 + 1)).2)) ((if (s_X0_isKnown (μ.2.1 (a0 + 1) a2.toNatClampNeg)) = (0 : Int32) then p_X2_numbers_b27 (f n) a0 a1 a2 μ else bv (a1 + 1) (fun v4 => p_X2_numbers_b27 (f n) a0 v4 a2 μ))))) := ⟨fun n => Nat.rec (fun (a0 : Nat) (a1 : Int32) (a2 : Int32) (μ : Mem) => none) (fun _ ih => fun (a0 : Nat) (a1 : Int32) (a2 : Int32) (μ : Mem) => (if (μ.1 a0 2) ≤ a2 then some (a1, μ) else gd (inb a2 ((sh 0 (a0 + 1)).2)) ((if (s_X0_isKnown (μ.2.1 (a0 + 1) a2.toNatClampNeg)) = (0 : Int32) then p_X2_numbers_b27 (ih) a0 a1 a2 μ else bv (a1 + 1) (fun v4 => p_X2_numbers_b27 (ih) a0 v4 a2 μ))))) n, fun  _ _ _ _ => rfl, fun  _ _ _ _ _ => rfl⟩
noncomputable def p_X2_numbers_b4 : Nat → Nat → Int32 → Int32 → Mem → Option (Int32 × Mem) := Classical.choose p_X2_numbers_b4_ex
theorem p_X2_numbers_b4_z (a0 : Nat) (a1 : Int32) (a2 : Int32) (μ : Mem) : p_X2_numbers_b4  0 a0 a1 a2 μ = none := (Classical.choose_spec p_X2_numbers_b4_ex).1  a0 a1 a2 μ
theorem p_X2_numbers_b4_s (n : Nat) (a0 : Nat) (a1 : Int32) (a2 : Int32) (μ : Mem) : p_X2_numbers_b4  (n + 1) a0 a1 a2 μ = (if (μ.1 a0 2) ≤ a2 then some (a1, μ) else gd (inb a2 ((sh 0 (a0 + 1)).2)) ((if (s_X0_isKnown (μ.2.1 (a0 + 1) a2.toNatClampNeg)) = (0 : Int32) then p_X2_numbers_b27 (p_X2_numbers_b4  n) a0 a1 a2 μ else bv (a1 + 1) (fun v4 => p_X2_numbers_b27 (p_X2_numbers_b4  n) a0 v4 a2 μ)))) := (Classical.choose_spec p_X2_numbers_b4_ex).2  n a0 a1 a2 μ
set_option maxHeartbeats 4000000 in
set_option maxRecDepth 100000 in
theorem t_X2_numbers_b4 (l : Launch) (G : Gt) (ad : Nat → Nat) (av : List Value) {r : Int32} {μz : Mem} : ∀ (n : Nat) (a0 : Nat) (q0 : sh 0 a0 = (0, 1)) (a1 : Int32) (a2 : Int32) (μ : Mem), p_X2_numbers_b4  n a0 a1 a2 μ = some (r, μz) → Bk l cX2_numbers 3 RX2 (some .int) ({ frames := 1, cells := 0, slots := 0, locals := 21 } : Room) G av (eI 0 G ad r μz) (wd 0 G ad μ) 4 [(0, .ref (ad a0)), (1, .int a1), (2, .int a2)] [] := by
  intro n
  induction n with
  | zero => intro a0 q0 a1 a2 μ h; rw [p_X2_numbers_b4_z] at h; cases h
  | succ n ih =>
    intro a0 q0 a1 a2 μ h p e s m below meth c A ls H locs cx hr hlk hA hl hw
    have hx := cx.1
    have hb := cx.2.1
    rw [p_X2_numbers_b4_s] at h
    refine lv_iload_n hx hb dX2_numbers_4 rfl (lv_at hl 2 rfl) ?_
    refine lv_aload_n hx hb dX2_numbers_5 rfl (lv_at hl 0 rfl) ?_
    refine g_get cx hw inX2 (ci := 1) rfl 2 (by decide) rfl (v := .int (μ.1 a0 2)) q0 rfl fl_X2_18 dX2_numbers_6 ?_
    refine lv_icmp_ge (tgt := 33) hx hb dX2_numbers_9 (by decide) (fun c1 => ?_) (fun c1 => ?_)
    · rw [if_pos c1] at h
      refine lv_iload_n hx hb dX2_numbers_33 rfl (lv_at hl 1 rfl) ?_
      exact g_iret cx hr hlk hw h dX2_numbers_34
    · rw [if_neg c1] at h
      refine lv_aload_n hx hb dX2_numbers_12 rfl (lv_at hl 0 rfl) ?_
      refine g_get cx hw inX2 (ci := 1) rfl 0 (by decide) rfl (v := .ref (ad (a0 + 1))) q0 rfl fl_X2_9 dX2_numbers_13 ?_
      refine lv_iload_n hx hb dX2_numbers_16 rfl (lv_at hl 2 rfl) ?_
      refine g_lald cx hw (rl_X2_0 q0) h dX2_numbers_17 (fun h => ?_)
      refine s_callI (As := [.long (μ.2.1 (a0 + 1) a2.toNatClampNeg)]) (rest := []) cx hw hA (t_X0_isKnown l G (μ.2.1 (a0 + 1) a2.toNatClampNeg)) ml_X2_41 st_X0_isKnown in_X0 co_X0_isKnown hd_X0_isKnown rfl ⟨(Nat.le_of_ble_eq_true rfl), (Nat.le_of_ble_eq_true rfl)⟩ hl.1 rfl (Nat.le_of_ble_eq_true rfl) dX2_numbers_18 rfl (fun H locs hw => ?_)
      refine lv_if_eq (tgt := 27) hx hb dX2_numbers_21 (by decide) (fun c2 => ?_) (fun c2 => ?_)
      · rw [if_pos c2] at h
        exact t_X2_numbers_b27 l G ad av _ ih a0 q0 a1 a2 μ h p e s m below meth c A ls H locs cx hr hlk hA (lv_sub hl [0, 1, 2] rfl) hw
      · rw [if_neg c2] at h
        obtain ⟨v4, ev4, h⟩ := bv_ex h
        refine lv_iinc (v := v4) (lv' := [(1, .int v4), (0, .ref (ad a0)), (2, .int a2)]) hx hb dX2_numbers_24 hl (k := 1) rfl (by rw [ev4]; rfl) (by decide) rfl (fun ls hl => ?_)
        exact t_X2_numbers_b27 l G ad av _ ih a0 q0 v4 a2 μ h p e s m below meth c A ls H locs cx hr hlk hA (lv_sub hl [1, 0, 2] rfl) hw
theorem p_X2_numbers_ex : ∃ f : Nat → Mem → Option (Int32 × Mem), ∀ (a0 : Nat) (μ : Mem), f a0 μ = p_X2_numbers_b4  FUEL a0 (0 : Int32) (0 : Int32) μ := ⟨fun (a0 : Nat) (μ : Mem) => p_X2_numbers_b4  FUEL a0 (0 : Int32) (0 : Int32) μ, fun _ _ => rfl⟩
noncomputable def p_X2_numbers : Nat → Mem → Option (Int32 × Mem) := Classical.choose p_X2_numbers_ex
theorem p_X2_numbers_eq (a0 : Nat) (μ : Mem) : p_X2_numbers a0 μ = p_X2_numbers_b4  FUEL a0 (0 : Int32) (0 : Int32) μ := Classical.choose_spec p_X2_numbers_ex a0 μ
set_option maxHeartbeats 4000000 in
set_option maxRecDepth 100000 in
theorem t_X2_numbers (l : Launch) (G : Gt) (ad : Nat → Nat) (a0 : Nat) (q0 : sh 0 a0 = (0, 1)) (μ : Mem) {r : Int32} {μz : Mem} (h : p_X2_numbers a0 μ = some (r, μz)) : Mt l yX2_numbers cX2_numbers 3 (some .int) ({ frames := 1, cells := 0, slots := 0, locals := 21 } : Room) G [.ref (ad a0)] (wd 0 G ad μ) (eI 0 G ad r μz) := by
  refine Bk.mt (by decide) rfl (Nat.le_of_ble_eq_true rfl) ?_
  intro p e s m below meth c A ls H locs cx hr hlk hA hl hw
  have hx := cx.1
  have hb := cx.2.1
  have hl : lv_has ls 3 [(0, .ref (ad a0))] := hl
  rw [p_X2_numbers_eq] at h
  refine lv_iconst (v := 0) hx hb dX2_numbers_0 (by decide) ?_
  refine lv_istore_n (lv' := [(1, .int 0), (0, .ref (ad a0))]) hx hb dX2_numbers_1 rfl hl (by decide) rfl (fun ls hl => ?_)
  refine lv_iconst (v := 0) hx hb dX2_numbers_2 (by decide) ?_
  refine lv_istore_n (lv' := [(2, .int 0), (1, .int 0), (0, .ref (ad a0))]) hx hb dX2_numbers_3 rfl hl (by decide) rfl (fun ls hl => ?_)
  exact t_X2_numbers_b4 l G ad _  FUEL a0 q0 (0 : Int32) (0 : Int32) μ h p e s m below meth c A ls H locs cx hr hlk hA (lv_sub hl [2, 1, 0] rfl) hw
