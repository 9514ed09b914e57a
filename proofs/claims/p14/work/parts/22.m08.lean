theorem p_X12_leaveCall_b222_ex : ∃ f : Nat → Int32 → Int32 → Int32 → Mem → Option Mem, (∀ (a4 : Int32) (a5 : Int32) (a6 : Int32) (μ : Mem), f  0 a4 a5 a6 μ = none) ∧ (∀ (n : Nat) (a4 : Int32) (a5 : Int32) (a6 : Int32) (μ : Mem), f  (n + 1) a4 a5 a6 μ = (if a4 ≤ a6 then bd (p_X12_registerOf a5 μ) (fun r17 μ16 => bw (p_X12_come r17 μ16) (fun μ18 => some μ18)) else gd (inb a6 210) (bw (p_X12_operand a5 (μ.1 69 a6.toNatClampNeg) μ) (fun μ20 => bv (a6 + 1) (fun v22 => f n a4 a5 v22 μ20))))) := ⟨fun n => Nat.rec (fun (a4 : Int32) (a5 : Int32) (a6 : Int32) (μ : Mem) => none) (fun _ ih => fun (a4 : Int32) (a5 : Int32) (a6 : Int32) (μ : Mem) => (if a4 ≤ a6 then bd (p_X12_registerOf a5 μ) (fun r17 μ16 => bw (p_X12_come r17 μ16) (fun μ18 => some μ18)) else gd (inb a6 210) (bw (p_X12_operand a5 (μ.1 69 a6.toNatClampNeg) μ) (fun μ20 => bv (a6 + 1) (fun v22 => ih a4 a5 v22 μ20))))) n, fun  _ _ _ _ => rfl, fun  _ _ _ _ _ => rfl⟩
noncomputable def p_X12_leaveCall_b222 : Nat → Int32 → Int32 → Int32 → Mem → Option Mem := Classical.choose p_X12_leaveCall_b222_ex
theorem p_X12_leaveCall_b222_z (a4 : Int32) (a5 : Int32) (a6 : Int32) (μ : Mem) : p_X12_leaveCall_b222  0 a4 a5 a6 μ = none := (Classical.choose_spec p_X12_leaveCall_b222_ex).1  a4 a5 a6 μ
theorem p_X12_leaveCall_b222_s (n : Nat) (a4 : Int32) (a5 : Int32) (a6 : Int32) (μ : Mem) : p_X12_leaveCall_b222  (n + 1) a4 a5 a6 μ = (if a4 ≤ a6 then bd (p_X12_registerOf a5 μ) (fun r17 μ16 => bw (p_X12_come r17 μ16) (fun μ18 => some μ18)) else gd (inb a6 210) (bw (p_X12_operand a5 (μ.1 69 a6.toNatClampNeg) μ) (fun μ20 => bv (a6 + 1) (fun v22 => p_X12_leaveCall_b222  n a4 a5 v22 μ20)))) := (Classical.choose_spec p_X12_leaveCall_b222_ex).2  n a4 a5 a6 μ
set_option maxHeartbeats 4000000 in
set_option maxRecDepth 100000 in
theorem t_X12_leaveCall_b222 (l : Launch) (G : Gt) (ad : Nat → Nat) (av : List Value) {μz : Mem} : ∀ (n : Nat) (a4 : Int32) (a5 : Int32) (a6 : Int32) (μ : Mem), p_X12_leaveCall_b222  n a4 a5 a6 μ = some μz → Bk l cX12_leaveCall 7 RX12 none ({ frames := 6, cells := 0, slots := 0, locals := 139 } : Room) G av (eV 1 G ad μz) (wd 1 G ad μ) 222 [(0, .ref (ad 0)), (4, .int a4), (5, .int a5), (6, .int a6)] [] := by
  intro n
  induction n with
  | zero => intro a4 a5 a6 μ h; rw [p_X12_leaveCall_b222_z] at h; cases h
  | succ n ih =>
    intro a4 a5 a6 μ h p e s m below meth c A ls H locs cx hr hlk hA hl hw
    have hx := cx.1
    have hb := cx.2.1
    rw [p_X12_leaveCall_b222_s] at h
    refine lv_iload hx hb dX12_leaveCall_222 (lv_at hl 3 rfl) ?_
    refine lv_iload hx hb dX12_leaveCall_224 (lv_at hl 1 rfl) ?_
    refine lv_icmp_ge (tgt := 248) hx hb dX12_leaveCall_226 (by decide) (fun c15 => ?_) (fun c15 => ?_)
    · rw [if_pos c15] at h
      refine lv_aload_n hx hb dX12_leaveCall_248 rfl (lv_at hl 0 rfl) ?_
      refine lv_aload_n hx hb dX12_leaveCall_249 rfl (lv_at hl 0 rfl) ?_
      refine lv_iload hx hb dX12_leaveCall_250 (lv_at hl 2 rfl) ?_
      obtain ⟨r17, μ16, gr17, h⟩ := bd_some h
      refine g_callVI (As := [.int a5]) (rest := [.ref (ad 0)]) cx hw hA (t_X12_registerOf l G ad a5 μ gr17) shm_0 rfl ml_X12_643 im_X12_registerOf se_X12_registerOf in_X12 co_X12_registerOf rfl hd_X12_registerOf rfl ⟨(Nat.le_of_ble_eq_true rfl), (Nat.le_of_ble_eq_true rfl)⟩ hl.1 rfl (Nat.le_of_ble_eq_true rfl) dX12_leaveCall_252 ⟨rfl, rfl⟩ (fun H locs hw => ?_)
      obtain ⟨μ18, gμ18, h⟩ := bw_some h
      refine g_callVV (As := [.int r17]) (rest := []) cx hw hA (t_X12_come l G ad r17 μ16 gμ18) shm_0 rfl ml_X12_585 im_X12_come se_X12_come in_X12 co_X12_come rfl hd_X12_come rfl ⟨(Nat.le_of_ble_eq_true rfl), (Nat.le_of_ble_eq_true rfl)⟩ hl.1 rfl (Nat.le_of_ble_eq_true rfl) dX12_leaveCall_255 ⟨rfl, rfl⟩ (fun H locs hw => ?_)
      exact g_vret cx hr hlk hw h dX12_leaveCall_258
    · rw [if_neg c15] at h
      refine lv_aload_n hx hb dX12_leaveCall_229 rfl (lv_at hl 0 rfl) ?_
      refine lv_iload hx hb dX12_leaveCall_230 (lv_at hl 2 rfl) ?_
      refine lv_aload_n hx hb dX12_leaveCall_232 rfl (lv_at hl 0 rfl) ?_
      refine g_get cx hw inX12 (ci := 11) rfl 114 (by decide) rfl (v := .ref (ad 69)) shm_0 rfl fl_X12_223 dX12_leaveCall_233 ?_
      refine lv_iload hx hb dX12_leaveCall_236 (lv_at hl 3 rfl) ?_
      refine g_iald cx hw shm_69 h dX12_leaveCall_238 (fun h => ?_)
      obtain ⟨μ20, gμ20, h⟩ := bw_some h
      refine g_callVV (As := [.int a5, .int (μ.1 69 a6.toNatClampNeg)]) (rest := []) cx hw hA (t_X12_operand l G ad a5 (μ.1 69 a6.toNatClampNeg) μ gμ20) shm_0 rfl ml_X12_609 im_X12_operand se_X12_operand in_X12 co_X12_operand rfl hd_X12_operand rfl ⟨(Nat.le_of_ble_eq_true rfl), (Nat.le_of_ble_eq_true rfl)⟩ hl.1 rfl (Nat.le_of_ble_eq_true rfl) dX12_leaveCall_239 ⟨rfl, rfl⟩ (fun H locs hw => ?_)
      obtain ⟨v22, ev22, h⟩ := bv_ex h
      refine lv_iinc (v := v22) (lv' := [(6, .int v22), (0, .ref (ad 0)), (4, .int a4), (5, .int a5)]) hx hb dX12_leaveCall_242 hl (k := 3) rfl (by rw [ev22]; rfl) (by decide) rfl (fun ls hl => ?_)
      refine lv_goto (tgt := 222) hx hb dX12_leaveCall_245 (by decide) ?_
      exact ih a4 a5 v22 μ20 h p e s m below meth c A ls H locs cx hr hlk hA (lv_sub hl [1, 2, 3, 0] rfl) hw
theorem p_X12_leaveCall_b186_ex : ∃ f : Int32 → Int32 → Mem → Option Mem, ∀ (a3 : Int32) (a4 : Int32) (μ : Mem), f a3 a4 μ = (if (μ.1 0 68) = (0 : Int32) then bd (p_X12_instruction (11 : Int32) (1 : Int32) μ) (fun r12 μ11 => (if (μ11.1 0 68) = (0 : Int32) then gd (inb r12 960) (bv (sF μ11 48 r12.toNatClampNeg a3) (fun μ14 => p_X12_leaveCall_b222  FUEL a4 r12 (0 : Int32) μ14)) else some μ11)) else some μ) := ⟨fun (a3 : Int32) (a4 : Int32) (μ : Mem) => (if (μ.1 0 68) = (0 : Int32) then bd (p_X12_instruction (11 : Int32) (1 : Int32) μ) (fun r12 μ11 => (if (μ11.1 0 68) = (0 : Int32) then gd (inb r12 960) (bv (sF μ11 48 r12.toNatClampNeg a3) (fun μ14 => p_X12_leaveCall_b222  FUEL a4 r12 (0 : Int32) μ14)) else some μ11)) else some μ), fun _ _ _ => rfl⟩
noncomputable def p_X12_leaveCall_b186 : Int32 → Int32 → Mem → Option Mem := Classical.choose p_X12_leaveCall_b186_ex
theorem p_X12_leaveCall_b186_eq (a3 : Int32) (a4 : Int32) (μ : Mem) : p_X12_leaveCall_b186 a3 a4 μ = (if (μ.1 0 68) = (0 : Int32) then bd (p_X12_instruction (11 : Int32) (1 : Int32) μ) (fun r12 μ11 => (if (μ11.1 0 68) = (0 : Int32) then gd (inb r12 960) (bv (sF μ11 48 r12.toNatClampNeg a3) (fun μ14 => p_X12_leaveCall_b222  FUEL a4 r12 (0 : Int32) μ14)) else some μ11)) else some μ) := Classical.choose_spec p_X12_leaveCall_b186_ex a3 a4 μ
set_option maxHeartbeats 4000000 in
set_option maxRecDepth 100000 in
theorem t_X12_leaveCall_b186 (l : Launch) (G : Gt) (ad : Nat → Nat) (av : List Value) {μz : Mem} (a3 : Int32) (a4 : Int32) (μ : Mem) (h : p_X12_leaveCall_b186  a3 a4 μ = some μz) : Bk l cX12_leaveCall 7 RX12 none ({ frames := 6, cells := 0, slots := 0, locals := 139 } : Room) G av (eV 1 G ad μz) (wd 1 G ad μ) 186 [(0, .ref (ad 0)), (3, .int a3), (4, .int a4)] [] := by
  intro p e s m below meth c A ls H locs cx hr hlk hA hl hw
  have hx := cx.1
  have hb := cx.2.1
  rw [p_X12_leaveCall_b186_eq] at h
  refine lv_aload_n hx hb dX12_leaveCall_186 rfl (lv_at hl 0 rfl) ?_
  refine g_get cx hw inX12 (ci := 11) rfl 68 (by decide) rfl (v := .int (μ.1 0 68)) shm_0 rfl fl_X12_557 dX12_leaveCall_187 ?_
  refine lv_if_eq (tgt := 194) hx hb dX12_leaveCall_190 (by decide) (fun c10 => ?_) (fun c10 => ?_)
  · rw [if_pos c10] at h
    refine lv_aload_n hx hb dX12_leaveCall_194 rfl (lv_at hl 0 rfl) ?_
    refine lv_bipush (v := 11) hx hb dX12_leaveCall_195 (by decide) ?_
    refine lv_iconst (v := 1) hx hb dX12_leaveCall_197 (by decide) ?_
    obtain ⟨r12, μ11, gr12, h⟩ := bd_some h
    refine g_callVI (As := [.int 11, .int 1]) (rest := []) cx hw hA (t_X12_instruction l G ad (11 : Int32) (1 : Int32) μ gr12) shm_0 rfl ml_X12_639 im_X12_instruction se_X12_instruction in_X12 co_X12_instruction rfl hd_X12_instruction rfl ⟨(Nat.le_of_ble_eq_true rfl), (Nat.le_of_ble_eq_true rfl)⟩ hl.1 rfl (Nat.le_of_ble_eq_true rfl) dX12_leaveCall_198 ⟨rfl, rfl⟩ (fun H locs hw => ?_)
    refine lv_istore (lv' := [(5, .int r12), (0, .ref (ad 0)), (3, .int a3), (4, .int a4)]) hx hb dX12_leaveCall_201 hl (by decide) rfl (fun ls hl => ?_)
    refine lv_aload_n hx hb dX12_leaveCall_203 rfl (lv_at hl 1 rfl) ?_
    refine g_get cx hw inX12 (ci := 11) rfl 68 (by decide) rfl (v := .int (μ11.1 0 68)) shm_0 rfl fl_X12_557 dX12_leaveCall_204 ?_
    refine lv_if_eq (tgt := 211) hx hb dX12_leaveCall_207 (by decide) (fun c13 => ?_) (fun c13 => ?_)
    · rw [if_pos c13] at h
      refine lv_aload_n hx hb dX12_leaveCall_211 rfl (lv_at hl 1 rfl) ?_
      refine g_get cx hw inX12 (ci := 11) rfl 80 (by decide) rfl (v := .ref (ad 48)) shm_0 rfl fl_X12_160 dX12_leaveCall_212 ?_
      refine lv_iload hx hb dX12_leaveCall_215 (lv_at hl 0 rfl) ?_
      refine lv_iload_n hx hb dX12_leaveCall_217 rfl (lv_at hl 2 rfl) ?_
      refine g_iast cx hw shm_48 h dX12_leaveCall_218 (fun μ14 H locs h hw => ?_)
      refine lv_iconst (v := 0) hx hb dX12_leaveCall_219 (by decide) ?_
      refine lv_istore (lv' := [(6, .int 0), (5, .int r12), (0, .ref (ad 0)), (3, .int a3), (4, .int a4)]) hx hb dX12_leaveCall_220 hl (by decide) rfl (fun ls hl => ?_)
      exact t_X12_leaveCall_b222 l G ad av  FUEL a4 r12 (0 : Int32) μ14 h p e s m below meth c A ls H locs cx hr hlk hA (lv_sub hl [2, 4, 1, 0] rfl) hw
    · rw [if_neg c13] at h
      exact g_vret cx hr hlk hw h dX12_leaveCall_210
  · rw [if_neg c10] at h
    exact g_vret cx hr hlk hw h dX12_leaveCall_193
theorem p_X12_leaveCall_b180_ex : ∃ f : (Int32 → Int32 → Int32 → Mem → Option Mem) → Int32 → Int32 → Int32 → Mem → Option Mem, ∀ (K129 : Int32 → Int32 → Int32 → Mem → Option Mem) (a3 : Int32) (a4 : Int32) (a5 : Int32) (μ : Mem), f K129 a3 a4 a5 μ = bv (a5 + 1) (fun v29 => K129 a3 a4 v29 μ) := ⟨fun (K129 : Int32 → Int32 → Int32 → Mem → Option Mem) (a3 : Int32) (a4 : Int32) (a5 : Int32) (μ : Mem) => bv (a5 + 1) (fun v29 => K129 a3 a4 v29 μ), fun _ _ _ _ _ => rfl⟩
noncomputable def p_X12_leaveCall_b180 : (Int32 → Int32 → Int32 → Mem → Option Mem) → Int32 → Int32 → Int32 → Mem → Option Mem := Classical.choose p_X12_leaveCall_b180_ex
theorem p_X12_leaveCall_b180_eq (K129 : Int32 → Int32 → Int32 → Mem → Option Mem) (a3 : Int32) (a4 : Int32) (a5 : Int32) (μ : Mem) : p_X12_leaveCall_b180 K129 a3 a4 a5 μ = bv (a5 + 1) (fun v29 => K129 a3 a4 v29 μ) := Classical.choose_spec p_X12_leaveCall_b180_ex K129 a3 a4 a5 μ
set_option maxHeartbeats 4000000 in
set_option maxRecDepth 100000 in
theorem t_X12_leaveCall_b180 (l : Launch) (G : Gt) (ad : Nat → Nat) (av : List Value) {μz : Mem} (K129 : Int32 → Int32 → Int32 → Mem → Option Mem) (hK129 : ∀ (z3 : Int32) (z4 : Int32) (z5 : Int32) (μ1 : Mem), K129 z3 z4 z5 μ1 = some μz → Bk l cX12_leaveCall 7 RX12 none ({ frames := 6, cells := 0, slots := 0, locals := 139 } : Room) G av (eV 1 G ad μz) (wd 1 G ad μ1) 129 [(0, .ref (ad 0)), (3, .int z3), (4, .int z4), (5, .int z5)] []) (a3 : Int32) (a4 : Int32) (a5 : Int32) (μ : Mem) (h : p_X12_leaveCall_b180 K129 a3 a4 a5 μ = some μz) : Bk l cX12_leaveCall 7 RX12 none ({ frames := 6, cells := 0, slots := 0, locals := 139 } : Room) G av (eV 1 G ad μz) (wd 1 G ad μ) 180 [(0, .ref (ad 0)), (3, .int a3), (4, .int a4), (5, .int a5)] [] := by
  intro p e s m below meth c A ls H locs cx hr hlk hA hl hw
  have hx := cx.1
  have hb := cx.2.1
  rw [p_X12_leaveCall_b180_eq] at h
  obtain ⟨v29, ev29, h⟩ := bv_ex h
  refine lv_iinc (v := v29) (lv' := [(5, .int v29), (0, .ref (ad 0)), (3, .int a3), (4, .int a4)]) hx hb dX12_leaveCall_180 hl (k := 3) rfl (by rw [ev29]; rfl) (by decide) rfl (fun ls hl => ?_)
  refine lv_goto (tgt := 129) hx hb dX12_leaveCall_183 (by decide) ?_
  exact hK129 a3 a4 v29 μ h p e s m below meth c A ls H locs cx hr hlk hA (lv_sub hl [1, 2, 3, 0] rfl) hw
theorem p_X12_leaveCall_b129_ex : ∃ f : Nat → Int32 → Int32 → Int32 → Mem → Option Mem, (∀ (a3 : Int32) (a4 : Int32) (a5 : Int32) (μ : Mem), f  0 a3 a4 a5 μ = none) ∧ (∀ (n : Nat) (a3 : Int32) (a4 : Int32) (a5 : Int32) (μ : Mem), f  (n + 1) a3 a4 a5 μ = (if (μ.1 0 118) ≤ a5 then p_X12_leaveCall_b186  a3 a4 μ else (if (μ.1 0 68) = (0 : Int32) then gd (inb a5 210) ((if (μ.1 67 a5.toNatClampNeg) = (3 : Int32) then gd (inb a5 210) (bd (p_X12_lift (μ.1 69 a5.toNatClampNeg) μ) (fun r26 μ25 => gd (inb a4 210) (bv (sF μ25 69 a4.toNatClampNeg r26) (fun μ27 => bv (a4 + 1) (fun v28 => p_X12_leaveCall_b180 (f n) a3 v28 a5 μ27))))) else p_X12_leaveCall_b180 (f n) a3 a4 a5 μ)) else p_X12_leaveCall_b186  a3 a4 μ))) := ⟨fun n => Nat.rec (fun (a3 : Int32) (a4 : Int32) (a5 : Int32) (μ : Mem) => none) (fun _ ih => fun (a3 : Int32) (a4 : Int32) (a5 : Int32) (μ : Mem) => (if (μ.1 0 118) ≤ a5 then p_X12_leaveCall_b186  a3 a4 μ else (if (μ.1 0 68) = (0 : Int32) then gd (inb a5 210) ((if (μ.1 67 a5.toNatClampNeg) = (3 : Int32) then gd (inb a5 210) (bd (p_X12_lift (μ.1 69 a5.toNatClampNeg) μ) (fun r26 μ25 => gd (inb a4 210) (bv (sF μ25 69 a4.toNatClampNeg r26) (fun μ27 => bv (a4 + 1) (fun v28 => p_X12_leaveCall_b180 (ih) a3 v28 a5 μ27))))) else p_X12_leaveCall_b180 (ih) a3 a4 a5 μ)) else p_X12_leaveCall_b186  a3 a4 μ))) n, fun  _ _ _ _ => rfl, fun  _ _ _ _ _ => rfl⟩
noncomputable def p_X12_leaveCall_b129 : Nat → Int32 → Int32 → Int32 → Mem → Option Mem := Classical.choose p_X12_leaveCall_b129_ex
theorem p_X12_leaveCall_b129_z (a3 : Int32) (a4 : Int32) (a5 : Int32) (μ : Mem) : p_X12_leaveCall_b129  0 a3 a4 a5 μ = none := (Classical.choose_spec p_X12_leaveCall_b129_ex).1  a3 a4 a5 μ
theorem p_X12_leaveCall_b129_s (n : Nat) (a3 : Int32) (a4 : Int32) (a5 : Int32) (μ : Mem) : p_X12_leaveCall_b129  (n + 1) a3 a4 a5 μ = (if (μ.1 0 118) ≤ a5 then p_X12_leaveCall_b186  a3 a4 μ else (if (μ.1 0 68) = (0 : Int32) then gd (inb a5 210) ((if (μ.1 67 a5.toNatClampNeg) = (3 : Int32) then gd (inb a5 210) (bd (p_X12_lift (μ.1 69 a5.toNatClampNeg) μ) (fun r26 μ25 => gd (inb a4 210) (bv (sF μ25 69 a4.toNatClampNeg r26) (fun μ27 => bv (a4 + 1) (fun v28 => p_X12_leaveCall_b180 (p_X12_leaveCall_b129  n) a3 v28 a5 μ27))))) else p_X12_leaveCall_b180 (p_X12_leaveCall_b129  n) a3 a4 a5 μ)) else p_X12_leaveCall_b186  a3 a4 μ)) := (Classical.choose_spec p_X12_leaveCall_b129_ex).2  n a3 a4 a5 μ
set_option maxHeartbeats 4000000 in
set_option maxRecDepth 100000 in
theorem t_X12_leaveCall_b129 (l : Launch) (G : Gt) (ad : Nat → Nat) (av : List Value) {μz : Mem} : ∀ (n : Nat) (a3 : Int32) (a4 : Int32) (a5 : Int32) (μ : Mem), p_X12_leaveCall_b129  n a3 a4 a5 μ = some μz → Bk l cX12_leaveCall 7 RX12 none ({ frames := 6, cells := 0, slots := 0, locals := 139 } : Room) G av (eV 1 G ad μz) (wd 1 G ad μ) 129 [(0, .ref (ad 0)), (3, .int a3), (4, .int a4), (5, .int a5)] [] := by
  intro n
  induction n with
  | zero => intro a3 a4 a5 μ h; rw [p_X12_leaveCall_b129_z] at h; cases h
  | succ n ih =>
    intro a3 a4 a5 μ h p e s m below meth c A ls H locs cx hr hlk hA hl hw
    have hx := cx.1
    have hb := cx.2.1
    rw [p_X12_leaveCall_b129_s] at h
    refine lv_iload hx hb dX12_leaveCall_129 (lv_at hl 3 rfl) ?_
    refine lv_aload_n hx hb dX12_leaveCall_131 rfl (lv_at hl 0 rfl) ?_
    refine g_get cx hw inX12 (ci := 11) rfl 118 (by decide) rfl (v := .int (μ.1 0 118)) shm_0 rfl fl_X12_707 dX12_leaveCall_132 ?_
    refine lv_icmp_ge (tgt := 186) hx hb dX12_leaveCall_135 (by decide) (fun c9 => ?_) (fun c9 => ?_)
    · rw [if_pos c9] at h
      exact t_X12_leaveCall_b186 l G ad av  a3 a4 μ h p e s m below meth c A ls H locs cx hr hlk hA (lv_sub hl [0, 1, 2] rfl) hw
    · rw [if_neg c9] at h
      refine lv_aload_n hx hb dX12_leaveCall_138 rfl (lv_at hl 0 rfl) ?_
      refine g_get cx hw inX12 (ci := 11) rfl 68 (by decide) rfl (v := .int (μ.1 0 68)) shm_0 rfl fl_X12_557 dX12_leaveCall_139 ?_
      refine lv_if_ne (tgt := 186) hx hb dX12_leaveCall_142 (by decide) (fun c23 => ?_) (fun c23 => ?_)
      · rw [if_neg c23] at h
        exact t_X12_leaveCall_b186 l G ad av  a3 a4 μ h p e s m below meth c A ls H locs cx hr hlk hA (lv_sub hl [0, 1, 2] rfl) hw
      · rw [if_pos c23] at h
        refine lv_aload_n hx hb dX12_leaveCall_145 rfl (lv_at hl 0 rfl) ?_
        refine g_get cx hw inX12 (ci := 11) rfl 112 (by decide) rfl (v := .ref (ad 67)) shm_0 rfl fl_X12_217 dX12_leaveCall_146 ?_
        refine lv_iload hx hb dX12_leaveCall_149 (lv_at hl 3 rfl) ?_
        refine g_iald cx hw shm_67 h dX12_leaveCall_151 (fun h => ?_)
        refine lv_iconst (v := 3) hx hb dX12_leaveCall_152 (by decide) ?_
        refine lv_icmp_eq (tgt := 159) hx hb dX12_leaveCall_153 (by decide) (fun c24 => ?_) (fun c24 => ?_)
        · rw [if_pos c24] at h
          refine lv_aload_n hx hb dX12_leaveCall_159 rfl (lv_at hl 0 rfl) ?_
          refine g_get cx hw inX12 (ci := 11) rfl 114 (by decide) rfl (v := .ref (ad 69)) shm_0 rfl fl_X12_223 dX12_leaveCall_160 ?_
          refine lv_iload hx hb dX12_leaveCall_163 (lv_at hl 2 rfl) ?_
          refine lv_aload_n hx hb dX12_leaveCall_165 rfl (lv_at hl 0 rfl) ?_
          refine lv_aload_n hx hb dX12_leaveCall_166 rfl (lv_at hl 0 rfl) ?_
          refine g_get cx hw inX12 (ci := 11) rfl 114 (by decide) rfl (v := .ref (ad 69)) shm_0 rfl fl_X12_223 dX12_leaveCall_167 ?_
          refine lv_iload hx hb dX12_leaveCall_170 (lv_at hl 3 rfl) ?_
          refine g_iald cx hw shm_69 h dX12_leaveCall_172 (fun h => ?_)
          obtain ⟨r26, μ25, gr26, h⟩ := bd_some h
          refine g_callVI (As := [.int (μ.1 69 a5.toNatClampNeg)]) (rest := [.int a4, .ref (ad 69)]) cx hw hA (t_X12_lift l G ad (μ.1 69 a5.toNatClampNeg) μ gr26) shm_0 rfl ml_X12_701 im_X12_lift se_X12_lift in_X12 co_X12_lift rfl hd_X12_lift rfl ⟨(Nat.le_of_ble_eq_true rfl), (Nat.le_of_ble_eq_true rfl)⟩ hl.1 rfl (Nat.le_of_ble_eq_true rfl) dX12_leaveCall_173 ⟨rfl, rfl⟩ (fun H locs hw => ?_)
          refine g_iast cx hw shm_69 h dX12_leaveCall_176 (fun μ27 H locs h hw => ?_)
          obtain ⟨v28, ev28, h⟩ := bv_ex h
          refine lv_iinc (v := v28) (lv' := [(4, .int v28), (0, .ref (ad 0)), (3, .int a3), (5, .int a5)]) hx hb dX12_leaveCall_177 hl (k := 2) rfl (by rw [ev28]; rfl) (by decide) rfl (fun ls hl => ?_)
          exact t_X12_leaveCall_b180 l G ad av _ ih a3 v28 a5 μ27 h p e s m below meth c A ls H locs cx hr hlk hA (lv_sub hl [1, 2, 0, 3] rfl) hw
        · rw [if_neg c24] at h
          refine lv_goto (tgt := 180) hx hb dX12_leaveCall_156 (by decide) ?_
          exact t_X12_leaveCall_b180 l G ad av _ ih a3 a4 a5 μ h p e s m below meth c A ls H locs cx hr hlk hA (lv_sub hl [0, 1, 2, 3] rfl) hw
theorem p_X12_leaveCall_b123_ex : ∃ f : Int32 → Mem → Option Mem, ∀ (a3 : Int32) (μ : Mem), f a3 μ = p_X12_leaveCall_b129  FUEL a3 (0 : Int32) (0 : Int32) μ := ⟨fun (a3 : Int32) (μ : Mem) => p_X12_leaveCall_b129  FUEL a3 (0 : Int32) (0 : Int32) μ, fun _ _ => rfl⟩
noncomputable def p_X12_leaveCall_b123 : Int32 → Mem → Option Mem := Classical.choose p_X12_leaveCall_b123_ex
theorem p_X12_leaveCall_b123_eq (a3 : Int32) (μ : Mem) : p_X12_leaveCall_b123 a3 μ = p_X12_leaveCall_b129  FUEL a3 (0 : Int32) (0 : Int32) μ := Classical.choose_spec p_X12_leaveCall_b123_ex a3 μ
set_option maxHeartbeats 4000000 in
set_option maxRecDepth 100000 in
theorem t_X12_leaveCall_b123 (l : Launch) (G : Gt) (ad : Nat → Nat) (av : List Value) {μz : Mem} (a3 : Int32) (μ : Mem) (h : p_X12_leaveCall_b123  a3 μ = some μz) : Bk l cX12_leaveCall 7 RX12 none ({ frames := 6, cells := 0, slots := 0, locals := 139 } : Room) G av (eV 1 G ad μz) (wd 1 G ad μ) 123 [(0, .ref (ad 0)), (3, .int a3)] [] := by
  intro p e s m below meth c A ls H locs cx hr hlk hA hl hw
  have hx := cx.1
  have hb := cx.2.1
  rw [p_X12_leaveCall_b123_eq] at h
  refine lv_iconst (v := 0) hx hb dX12_leaveCall_123 (by decide) ?_
  refine lv_istore (lv' := [(4, .int 0), (0, .ref (ad 0)), (3, .int a3)]) hx hb dX12_leaveCall_124 hl (by decide) rfl (fun ls hl => ?_)
  refine lv_iconst (v := 0) hx hb dX12_leaveCall_126 (by decide) ?_
  refine lv_istore (lv' := [(5, .int 0), (4, .int 0), (0, .ref (ad 0)), (3, .int a3)]) hx hb dX12_leaveCall_127 hl (by decide) rfl (fun ls hl => ?_)
  exact t_X12_leaveCall_b129 l G ad av  FUEL a3 (0 : Int32) (0 : Int32) μ h p e s m below meth c A ls H locs cx hr hlk hA (lv_sub hl [2, 3, 1, 0] rfl) hw
theorem p_X12_leaveCall_b108_ex : ∃ f : Int32 → Int32 → Mem → Option Mem, ∀ (a1 : Int32) (a3 : Int32) (μ : Mem), f a1 a3 μ = (if a3 = (-1 : Int32) then bd (p_X12_newVariant a1 (μ.1 0 111) μ) (fun r31 μ30 => p_X12_leaveCall_b123  r31 μ30) else p_X12_leaveCall_b123  a3 μ) := ⟨fun (a1 : Int32) (a3 : Int32) (μ : Mem) => (if a3 = (-1 : Int32) then bd (p_X12_newVariant a1 (μ.1 0 111) μ) (fun r31 μ30 => p_X12_leaveCall_b123  r31 μ30) else p_X12_leaveCall_b123  a3 μ), fun _ _ _ => rfl⟩
noncomputable def p_X12_leaveCall_b108 : Int32 → Int32 → Mem → Option Mem := Classical.choose p_X12_leaveCall_b108_ex
theorem p_X12_leaveCall_b108_eq (a1 : Int32) (a3 : Int32) (μ : Mem) : p_X12_leaveCall_b108 a1 a3 μ = (if a3 = (-1 : Int32) then bd (p_X12_newVariant a1 (μ.1 0 111) μ) (fun r31 μ30 => p_X12_leaveCall_b123  r31 μ30) else p_X12_leaveCall_b123  a3 μ) := Classical.choose_spec p_X12_leaveCall_b108_ex a1 a3 μ
set_option maxHeartbeats 4000000 in
set_option maxRecDepth 100000 in
theorem t_X12_leaveCall_b108 (l : Launch) (G : Gt) (ad : Nat → Nat) (av : List Value) {μz : Mem} (a1 : Int32) (a3 : Int32) (μ : Mem) (h : p_X12_leaveCall_b108  a1 a3 μ = some μz) : Bk l cX12_leaveCall 7 RX12 none ({ frames := 6, cells := 0, slots := 0, locals := 139 } : Room) G av (eV 1 G ad μz) (wd 1 G ad μ) 108 [(0, .ref (ad 0)), (1, .int a1), (3, .int a3)] [] := by
  intro p e s m below meth c A ls H locs cx hr hlk hA hl hw
  have hx := cx.1
  have hb := cx.2.1
  rw [p_X12_leaveCall_b108_eq] at h
  refine lv_iload_n hx hb dX12_leaveCall_108 rfl (lv_at hl 2 rfl) ?_
  refine lv_iconst (v := (-1)) hx hb dX12_leaveCall_109 (by decide) ?_
  refine lv_icmp_ne (tgt := 123) hx hb dX12_leaveCall_110 (by decide) (fun c8 => ?_) (fun c8 => ?_)
  · rw [if_neg c8] at h
    exact t_X12_leaveCall_b123 l G ad av  a3 μ h p e s m below meth c A ls H locs cx hr hlk hA (lv_sub hl [0, 2] rfl) hw
  · rw [if_pos c8] at h
    refine lv_aload_n hx hb dX12_leaveCall_113 rfl (lv_at hl 0 rfl) ?_
    refine lv_iload_n hx hb dX12_leaveCall_114 rfl (lv_at hl 1 rfl) ?_
    refine lv_aload_n hx hb dX12_leaveCall_115 rfl (lv_at hl 0 rfl) ?_
    refine g_get cx hw inX12 (ci := 11) rfl 111 (by decide) rfl (v := .int (μ.1 0 111)) shm_0 rfl fl_X12_742 dX12_leaveCall_116 ?_
    obtain ⟨r31, μ30, gr31, h⟩ := bd_some h
    refine g_callVI (As := [.int a1, .int (μ.1 0 111)]) (rest := []) cx hw hA (t_X12_newVariant l G ad a1 (μ.1 0 111) μ gr31) shm_0 rfl ml_X12_760 im_X12_newVariant se_X12_newVariant in_X12 co_X12_newVariant rfl hd_X12_newVariant rfl ⟨(Nat.le_of_ble_eq_true rfl), (Nat.le_of_ble_eq_true rfl)⟩ hl.1 rfl (Nat.le_of_ble_eq_true rfl) dX12_leaveCall_119 ⟨rfl, rfl⟩ (fun H locs hw => ?_)
    refine lv_istore_n (lv' := [(3, .int r31), (0, .ref (ad 0)), (1, .int a1)]) hx hb dX12_leaveCall_122 rfl hl (by decide) rfl (fun ls hl => ?_)
    exact t_X12_leaveCall_b123 l G ad av  r31 μ30 h p e s m below meth c A ls H locs cx hr hlk hA (lv_sub hl [1, 0] rfl) hw
theorem p_X12_leaveCall_b87_ex : ∃ f : Int32 → Int32 → Mem → Option Mem, ∀ (a1 : Int32) (a2 : Int32) (μ : Mem), f a1 a2 μ = bw (p_X12_layStars a2 μ) (fun μ35 => bv (sF μ35 0 97 ((μ35.1 0 97) + (1 : Int32))) (fun μ37 => bd (p_X12_variantBy a1 μ37) (fun r39 μ38 => p_X12_leaveCall_b108  a1 r39 μ38))) := ⟨fun (a1 : Int32) (a2 : Int32) (μ : Mem) => bw (p_X12_layStars a2 μ) (fun μ35 => bv (sF μ35 0 97 ((μ35.1 0 97) + (1 : Int32))) (fun μ37 => bd (p_X12_variantBy a1 μ37) (fun r39 μ38 => p_X12_leaveCall_b108  a1 r39 μ38))), fun _ _ _ => rfl⟩
noncomputable def p_X12_leaveCall_b87 : Int32 → Int32 → Mem → Option Mem := Classical.choose p_X12_leaveCall_b87_ex
theorem p_X12_leaveCall_b87_eq (a1 : Int32) (a2 : Int32) (μ : Mem) : p_X12_leaveCall_b87 a1 a2 μ = bw (p_X12_layStars a2 μ) (fun μ35 => bv (sF μ35 0 97 ((μ35.1 0 97) + (1 : Int32))) (fun μ37 => bd (p_X12_variantBy a1 μ37) (fun r39 μ38 => p_X12_leaveCall_b108  a1 r39 μ38))) := Classical.choose_spec p_X12_leaveCall_b87_ex a1 a2 μ
set_option maxHeartbeats 4000000 in
set_option maxRecDepth 100000 in
theorem t_X12_leaveCall_b87 (l : Launch) (G : Gt) (ad : Nat → Nat) (av : List Value) {μz : Mem} (a1 : Int32) (a2 : Int32) (μ : Mem) (h : p_X12_leaveCall_b87  a1 a2 μ = some μz) : Bk l cX12_leaveCall 7 RX12 none ({ frames := 6, cells := 0, slots := 0, locals := 139 } : Room) G av (eV 1 G ad μz) (wd 1 G ad μ) 87 [(0, .ref (ad 0)), (1, .int a1), (2, .int a2)] [] := by
  intro p e s m below meth c A ls H locs cx hr hlk hA hl hw
  have hx := cx.1
  have hb := cx.2.1
  rw [p_X12_leaveCall_b87_eq] at h
  refine lv_aload_n hx hb dX12_leaveCall_87 rfl (lv_at hl 0 rfl) ?_
  refine lv_iload_n hx hb dX12_leaveCall_88 rfl (lv_at hl 2 rfl) ?_
  obtain ⟨μ35, gμ35, h⟩ := bw_some h
  refine g_callVV (As := [.int a2]) (rest := []) cx hw hA (t_X12_layStars l G ad a2 μ gμ35) shm_0 rfl ml_X12_754 im_X12_layStars se_X12_layStars in_X12 co_X12_layStars rfl hd_X12_layStars rfl ⟨(Nat.le_of_ble_eq_true rfl), (Nat.le_of_ble_eq_true rfl)⟩ hl.1 rfl (Nat.le_of_ble_eq_true rfl) dX12_leaveCall_89 ⟨rfl, rfl⟩ (fun H locs hw => ?_)
  refine lv_aload_n hx hb dX12_leaveCall_92 rfl (lv_at hl 0 rfl) ?_
  refine lv_dup hx hb dX12_leaveCall_93 rfl ?_
  refine g_get cx hw inX12 (ci := 11) rfl 97 (by decide) rfl (v := .int (μ35.1 0 97)) shm_0 rfl fl_X12_757 dX12_leaveCall_94 ?_
  refine lv_iconst (v := 1) hx hb dX12_leaveCall_97 (by decide) ?_
  refine lv_iadd hx hb dX12_leaveCall_98 ?_
  refine g_put cx hw inX12 (ci := 11) rfl tyX12_ok nmX12 97 (by decide) rfl rfl rfl rfl shm_0 h fl_X12_757 dX12_leaveCall_99 (fun μ37 H locs h hw => ?_)
  refine lv_aload_n hx hb dX12_leaveCall_102 rfl (lv_at hl 0 rfl) ?_
  refine lv_iload_n hx hb dX12_leaveCall_103 rfl (lv_at hl 1 rfl) ?_
  obtain ⟨r39, μ38, gr39, h⟩ := bd_some h
  refine g_callVI (As := [.int a1]) (rest := []) cx hw hA (t_X12_variantBy l G ad a1 μ37 gr39) shm_0 rfl ml_X12_748 im_X12_variantBy se_X12_variantBy in_X12 co_X12_variantBy rfl hd_X12_variantBy rfl ⟨(Nat.le_of_ble_eq_true rfl), (Nat.le_of_ble_eq_true rfl)⟩ hl.1 rfl (Nat.le_of_ble_eq_true rfl) dX12_leaveCall_104 ⟨rfl, rfl⟩ (fun H locs hw => ?_)
  refine lv_istore_n (lv' := [(3, .int r39), (0, .ref (ad 0)), (1, .int a1), (2, .int a2)]) hx hb dX12_leaveCall_107 rfl hl (by decide) rfl (fun ls hl => ?_)
  exact t_X12_leaveCall_b108 l G ad av  a1 r39 μ38 h p e s m below meth c A ls H locs cx hr hlk hA (lv_sub hl [1, 2, 0] rfl) hw
theorem p_X12_leaveCall_b30_ex : ∃ f : (Int32 → Int32 → Int32 → Mem → Option Mem) → Int32 → Int32 → Int32 → Mem → Option Mem, ∀ (K10 : Int32 → Int32 → Int32 → Mem → Option Mem) (a1 : Int32) (a2 : Int32) (a3 : Int32) (μ : Mem), f K10 a1 a2 a3 μ = gd (inb a3 25) (bv (μ.1 66 a3.toNatClampNeg) (fun v45 => K10 a1 a2 v45 μ)) := ⟨fun (K10 : Int32 → Int32 → Int32 → Mem → Option Mem) (a1 : Int32) (a2 : Int32) (a3 : Int32) (μ : Mem) => gd (inb a3 25) (bv (μ.1 66 a3.toNatClampNeg) (fun v45 => K10 a1 a2 v45 μ)), fun _ _ _ _ _ => rfl⟩
noncomputable def p_X12_leaveCall_b30 : (Int32 → Int32 → Int32 → Mem → Option Mem) → Int32 → Int32 → Int32 → Mem → Option Mem := Classical.choose p_X12_leaveCall_b30_ex
theorem p_X12_leaveCall_b30_eq (K10 : Int32 → Int32 → Int32 → Mem → Option Mem) (a1 : Int32) (a2 : Int32) (a3 : Int32) (μ : Mem) : p_X12_leaveCall_b30 K10 a1 a2 a3 μ = gd (inb a3 25) (bv (μ.1 66 a3.toNatClampNeg) (fun v45 => K10 a1 a2 v45 μ)) := Classical.choose_spec p_X12_leaveCall_b30_ex K10 a1 a2 a3 μ
set_option maxHeartbeats 4000000 in
set_option maxRecDepth 100000 in
theorem t_X12_leaveCall_b30 (l : Launch) (G : Gt) (ad : Nat → Nat) (av : List Value) {μz : Mem} (K10 : Int32 → Int32 → Int32 → Mem → Option Mem) (hK10 : ∀ (z1 : Int32) (z2 : Int32) (z3 : Int32) (μ1 : Mem), K10 z1 z2 z3 μ1 = some μz → Bk l cX12_leaveCall 7 RX12 none ({ frames := 6, cells := 0, slots := 0, locals := 139 } : Room) G av (eV 1 G ad μz) (wd 1 G ad μ1) 10 [(0, .ref (ad 0)), (1, .int z1), (2, .int z2), (3, .int z3)] []) (a1 : Int32) (a2 : Int32) (a3 : Int32) (μ : Mem) (h : p_X12_leaveCall_b30 K10 a1 a2 a3 μ = some μz) : Bk l cX12_leaveCall 7 RX12 none ({ frames := 6, cells := 0, slots := 0, locals := 139 } : Room) G av (eV 1 G ad μz) (wd 1 G ad μ) 30 [(0, .ref (ad 0)), (1, .int a1), (2, .int a2), (3, .int a3)] [] := by
  intro p e s m below meth c A ls H locs cx hr hlk hA hl hw
  have hx := cx.1
  have hb := cx.2.1
  rw [p_X12_leaveCall_b30_eq] at h
  refine lv_aload_n hx hb dX12_leaveCall_30 rfl (lv_at hl 0 rfl) ?_
  refine g_get cx hw inX12 (ci := 11) rfl 109 (by decide) rfl (v := .ref (ad 66)) shm_0 rfl fl_X12_214 dX12_leaveCall_31 ?_
  refine lv_iload_n hx hb dX12_leaveCall_34 rfl (lv_at hl 3 rfl) ?_
  refine g_iald cx hw shm_66 h dX12_leaveCall_35 (fun h => ?_)
  obtain ⟨v45, ev45, h⟩ := bv_ex h
  refine lv_topi (fun y9 z9 => ?_)
  obtain rfl : v45 = y9 := ev45.trans z9.symm
  refine lv_istore_n (lv' := [(3, .int v45), (0, .ref (ad 0)), (1, .int a1), (2, .int a2)]) hx hb dX12_leaveCall_36 rfl hl (by decide) rfl (fun ls hl => ?_)
  refine lv_goto (tgt := 10) hx hb dX12_leaveCall_37 (by decide) ?_
  exact hK10 a1 a2 v45 μ h p e s m below meth c A ls H locs cx hr hlk hA (lv_sub hl [1, 2, 3, 0] rfl) hw
theorem p_X12_leaveCall_b10_ex : ∃ f : Nat → Int32 → Int32 → Int32 → Mem → Option Mem, (∀ (a1 : Int32) (a2 : Int32) (a3 : Int32) (μ : Mem), f  0 a1 a2 a3 μ = none) ∧ (∀ (n : Nat) (a1 : Int32) (a2 : Int32) (a3 : Int32) (μ : Mem), f  (n + 1) a1 a2 a3 μ = (if a3 = (-1 : Int32) then bd (p_X12_variantBy a1 μ) (fun r6 μ5 => (if r6 = (-1 : Int32) then bd (p_X12_variantsOf a1 μ5) (fun r33 μ32 => gd (inb (1 : Int32) 3) ((if (μ32.1 29 (1 : Int32).toNatClampNeg) ≤ r33 then p_X12_leaveCall_b87  a1 a2 μ32 else gd (inb (2 : Int32) 3) ((if (μ32.1 29 (2 : Int32).toNatClampNeg) ≤ (μ32.1 0 89) then p_X12_leaveCall_b87  a1 a2 μ32 else bd (p_X12_starsMade μ32) (fun r42 μ41 => (if r42 ≤ (8 : Int32) then p_X12_leaveCall_b108  a1 r6 μ41 else p_X12_leaveCall_b87  a1 a2 μ41))))))) else p_X12_leaveCall_b108  a1 r6 μ5)) else gd (inb a3 25) ((if (μ.1 57 a3.toNatClampNeg) = a1 then bw (p_X12_growBy a3 μ) (fun μ46 => p_X12_leaveCall_b30 (f n) a1 a2 a3 μ46) else p_X12_leaveCall_b30 (f n) a1 a2 a3 μ)))) := ⟨fun n => Nat.rec (fun (a1 : Int32) (a2 : Int32) (a3 : Int32) (μ : Mem) => none) (fun _ ih => fun (a1 : Int32) (a2 : Int32) (a3 : Int32) (μ : Mem) => (if a3 = (-1 : Int32) then bd (p_X12_variantBy a1 μ) (fun r6 μ5 => (if r6 = (-1 : Int32) then bd (p_X12_variantsOf a1 μ5) (fun r33 μ32 => gd (inb (1 : Int32) 3) ((if (μ32.1 29 (1 : Int32).toNatClampNeg) ≤ r33 then p_X12_leaveCall_b87  a1 a2 μ32 else gd (inb (2 : Int32) 3) ((if (μ32.1 29 (2 : Int32).toNatClampNeg) ≤ (μ32.1 0 89) then p_X12_leaveCall_b87  a1 a2 μ32 else bd (p_X12_starsMade μ32) (fun r42 μ41 => (if r42 ≤ (8 : Int32) then p_X12_leaveCall_b108  a1 r6 μ41 else p_X12_leaveCall_b87  a1 a2 μ41))))))) else p_X12_leaveCall_b108  a1 r6 μ5)) else gd (inb a3 25) ((if (μ.1 57 a3.toNatClampNeg) = a1 then bw (p_X12_growBy a3 μ) (fun μ46 => p_X12_leaveCall_b30 (ih) a1 a2 a3 μ46) else p_X12_leaveCall_b30 (ih) a1 a2 a3 μ)))) n, fun  _ _ _ _ => rfl, fun  _ _ _ _ _ => rfl⟩
noncomputable def p_X12_leaveCall_b10 : Nat → Int32 → Int32 → Int32 → Mem → Option Mem := Classical.choose p_X12_leaveCall_b10_ex
theorem p_X12_leaveCall_b10_z (a1 : Int32) (a2 : Int32) (a3 : Int32) (μ : Mem) : p_X12_leaveCall_b10  0 a1 a2 a3 μ = none := (Classical.choose_spec p_X12_leaveCall_b10_ex).1  a1 a2 a3 μ
theorem p_X12_leaveCall_b10_s (n : Nat) (a1 : Int32) (a2 : Int32) (a3 : Int32) (μ : Mem) : p_X12_leaveCall_b10  (n + 1) a1 a2 a3 μ = (if a3 = (-1 : Int32) then bd (p_X12_variantBy a1 μ) (fun r6 μ5 => (if r6 = (-1 : Int32) then bd (p_X12_variantsOf a1 μ5) (fun r33 μ32 => gd (inb (1 : Int32) 3) ((if (μ32.1 29 (1 : Int32).toNatClampNeg) ≤ r33 then p_X12_leaveCall_b87  a1 a2 μ32 else gd (inb (2 : Int32) 3) ((if (μ32.1 29 (2 : Int32).toNatClampNeg) ≤ (μ32.1 0 89) then p_X12_leaveCall_b87  a1 a2 μ32 else bd (p_X12_starsMade μ32) (fun r42 μ41 => (if r42 ≤ (8 : Int32) then p_X12_leaveCall_b108  a1 r6 μ41 else p_X12_leaveCall_b87  a1 a2 μ41))))))) else p_X12_leaveCall_b108  a1 r6 μ5)) else gd (inb a3 25) ((if (μ.1 57 a3.toNatClampNeg) = a1 then bw (p_X12_growBy a3 μ) (fun μ46 => p_X12_leaveCall_b30 (p_X12_leaveCall_b10  n) a1 a2 a3 μ46) else p_X12_leaveCall_b30 (p_X12_leaveCall_b10  n) a1 a2 a3 μ))) := (Classical.choose_spec p_X12_leaveCall_b10_ex).2  n a1 a2 a3 μ
set_option maxHeartbeats 4000000 in
set_option maxRecDepth 100000 in
theorem t_X12_leaveCall_b10 (l : Launch) (G : Gt) (ad : Nat → Nat) (av : List Value) {μz : Mem} : ∀ (n : Nat) (a1 : Int32) (a2 : Int32) (a3 : Int32) (μ : Mem), p_X12_leaveCall_b10  n a1 a2 a3 μ = some μz → Bk l cX12_leaveCall 7 RX12 none ({ frames := 6, cells := 0, slots := 0, locals := 139 } : Room) G av (eV 1 G ad μz) (wd 1 G ad μ) 10 [(0, .ref (ad 0)), (1, .int a1), (2, .int a2), (3, .int a3)] [] := by
  intro n
  induction n with
  | zero => intro a1 a2 a3 μ h; rw [p_X12_leaveCall_b10_z] at h; cases h
  | succ n ih =>
    intro a1 a2 a3 μ h p e s m below meth c A ls H locs cx hr hlk hA hl hw
    have hx := cx.1
    have hb := cx.2.1
    rw [p_X12_leaveCall_b10_s] at h
    refine lv_iload_n hx hb dX12_leaveCall_10 rfl (lv_at hl 3 rfl) ?_
    refine lv_iconst (v := (-1)) hx hb dX12_leaveCall_11 (by decide) ?_
    refine lv_icmp_eq (tgt := 40) hx hb dX12_leaveCall_12 (by decide) (fun c4 => ?_) (fun c4 => ?_)
    · rw [if_pos c4] at h
      refine lv_aload_n hx hb dX12_leaveCall_40 rfl (lv_at hl 0 rfl) ?_
      refine lv_iload_n hx hb dX12_leaveCall_41 rfl (lv_at hl 1 rfl) ?_
      obtain ⟨r6, μ5, gr6, h⟩ := bd_some h
      refine g_callVI (As := [.int a1]) (rest := []) cx hw hA (t_X12_variantBy l G ad a1 μ gr6) shm_0 rfl ml_X12_748 im_X12_variantBy se_X12_variantBy in_X12 co_X12_variantBy rfl hd_X12_variantBy rfl ⟨(Nat.le_of_ble_eq_true rfl), (Nat.le_of_ble_eq_true rfl)⟩ hl.1 rfl (Nat.le_of_ble_eq_true rfl) dX12_leaveCall_42 ⟨rfl, rfl⟩ (fun H locs hw => ?_)
      refine lv_istore_n (lv' := [(3, .int r6), (0, .ref (ad 0)), (1, .int a1), (2, .int a2)]) hx hb dX12_leaveCall_45 rfl hl (by decide) rfl (fun ls hl => ?_)
      refine lv_iload_n hx hb dX12_leaveCall_46 rfl (lv_at hl 0 rfl) ?_
      refine lv_iconst (v := (-1)) hx hb dX12_leaveCall_47 (by decide) ?_
      refine lv_icmp_ne (tgt := 108) hx hb dX12_leaveCall_48 (by decide) (fun c7 => ?_) (fun c7 => ?_)
      · rw [if_neg c7] at h
        exact t_X12_leaveCall_b108 l G ad av  a1 r6 μ5 h p e s m below meth c A ls H locs cx hr hlk hA (lv_sub hl [1, 2, 0] rfl) hw
      · rw [if_pos c7] at h
        refine lv_aload_n hx hb dX12_leaveCall_51 rfl (lv_at hl 1 rfl) ?_
        refine lv_iload_n hx hb dX12_leaveCall_52 rfl (lv_at hl 2 rfl) ?_
        obtain ⟨r33, μ32, gr33, h⟩ := bd_some h
        refine g_callVI (As := [.int a1]) (rest := []) cx hw hA (t_X12_variantsOf l G ad a1 μ5 gr33) shm_0 rfl ml_X12_751 im_X12_variantsOf se_X12_variantsOf in_X12 co_X12_variantsOf rfl hd_X12_variantsOf rfl ⟨(Nat.le_of_ble_eq_true rfl), (Nat.le_of_ble_eq_true rfl)⟩ hl.1 rfl (Nat.le_of_ble_eq_true rfl) dX12_leaveCall_53 ⟨rfl, rfl⟩ (fun H locs hw => ?_)
        refine lv_aload_n hx hb dX12_leaveCall_56 rfl (lv_at hl 1 rfl) ?_
        refine g_get cx hw inX12 (ci := 11) rfl 50 (by decide) rfl (v := .ref (ad 29)) shm_0 rfl fl_X12_102 dX12_leaveCall_57 ?_
        refine lv_iconst (v := 1) hx hb dX12_leaveCall_60 (by decide) ?_
        refine g_iald cx hw shm_29 h dX12_leaveCall_61 (fun h => ?_)
        refine lv_icmp_ge (tgt := 87) hx hb dX12_leaveCall_62 (by decide) (fun c34 => ?_) (fun c34 => ?_)
        · rw [if_pos c34] at h
          exact t_X12_leaveCall_b87 l G ad av  a1 a2 μ32 h p e s m below meth c A ls H locs cx hr hlk hA (lv_sub hl [1, 2, 3] rfl) hw
        · rw [if_neg c34] at h
          refine lv_aload_n hx hb dX12_leaveCall_65 rfl (lv_at hl 1 rfl) ?_
          refine g_get cx hw inX12 (ci := 11) rfl 89 (by decide) rfl (v := .int (μ32.1 0 89)) shm_0 rfl fl_X12_688 dX12_leaveCall_66 ?_
          refine lv_aload_n hx hb dX12_leaveCall_69 rfl (lv_at hl 1 rfl) ?_
          refine g_get cx hw inX12 (ci := 11) rfl 50 (by decide) rfl (v := .ref (ad 29)) shm_0 rfl fl_X12_102 dX12_leaveCall_70 ?_
          refine lv_iconst (v := 2) hx hb dX12_leaveCall_73 (by decide) ?_
          refine g_iald cx hw shm_29 h dX12_leaveCall_74 (fun h => ?_)
          refine lv_icmp_ge (tgt := 87) hx hb dX12_leaveCall_75 (by decide) (fun c40 => ?_) (fun c40 => ?_)
          · rw [if_pos c40] at h
            exact t_X12_leaveCall_b87 l G ad av  a1 a2 μ32 h p e s m below meth c A ls H locs cx hr hlk hA (lv_sub hl [1, 2, 3] rfl) hw
          · rw [if_neg c40] at h
            refine lv_aload_n hx hb dX12_leaveCall_78 rfl (lv_at hl 1 rfl) ?_
            obtain ⟨r42, μ41, gr42, h⟩ := bd_some h
            refine g_callVI (As := []) (rest := []) cx hw hA (t_X12_starsMade l G ad μ32 gr42) shm_0 rfl ml_X12_730 im_X12_starsMade se_X12_starsMade in_X12 co_X12_starsMade rfl hd_X12_starsMade rfl ⟨(Nat.le_of_ble_eq_true rfl), (Nat.le_of_ble_eq_true rfl)⟩ hl.1 rfl (Nat.le_of_ble_eq_true rfl) dX12_leaveCall_79 ⟨rfl, rfl⟩ (fun H locs hw => ?_)
            refine lv_bipush (v := 8) hx hb dX12_leaveCall_82 (by decide) ?_
            refine lv_icmp_le (tgt := 108) hx hb dX12_leaveCall_84 (by decide) (fun c43 => ?_) (fun c43 => ?_)
            · rw [if_pos c43] at h
              exact t_X12_leaveCall_b108 l G ad av  a1 r6 μ41 h p e s m below meth c A ls H locs cx hr hlk hA (lv_sub hl [1, 2, 0] rfl) hw
            · rw [if_neg c43] at h
              exact t_X12_leaveCall_b87 l G ad av  a1 a2 μ41 h p e s m below meth c A ls H locs cx hr hlk hA (lv_sub hl [1, 2, 3] rfl) hw
    · rw [if_neg c4] at h
      refine lv_aload_n hx hb dX12_leaveCall_15 rfl (lv_at hl 0 rfl) ?_
      refine g_get cx hw inX12 (ci := 11) rfl 100 (by decide) rfl (v := .ref (ad 57)) shm_0 rfl fl_X12_187 dX12_leaveCall_16 ?_
      refine lv_iload_n hx hb dX12_leaveCall_19 rfl (lv_at hl 3 rfl) ?_
      refine g_iald cx hw shm_57 h dX12_leaveCall_20 (fun h => ?_)
      refine lv_iload_n hx hb dX12_leaveCall_21 rfl (lv_at hl 1 rfl) ?_
      refine lv_icmp_ne (tgt := 30) hx hb dX12_leaveCall_22 (by decide) (fun c44 => ?_) (fun c44 => ?_)
      · rw [if_neg c44] at h
        exact t_X12_leaveCall_b30 l G ad av _ ih a1 a2 a3 μ h p e s m below meth c A ls H locs cx hr hlk hA (lv_sub hl [0, 1, 2, 3] rfl) hw
      · rw [if_pos c44] at h
        refine lv_aload_n hx hb dX12_leaveCall_25 rfl (lv_at hl 0 rfl) ?_
        refine lv_iload_n hx hb dX12_leaveCall_26 rfl (lv_at hl 3 rfl) ?_
        obtain ⟨μ46, gμ46, h⟩ := bw_some h
        refine g_callVV (As := [.int a3]) (rest := []) cx hw hA (t_X12_growBy l G ad a3 μ gμ46) shm_0 rfl ml_X12_745 im_X12_growBy se_X12_growBy in_X12 co_X12_growBy rfl hd_X12_growBy rfl ⟨(Nat.le_of_ble_eq_true rfl), (Nat.le_of_ble_eq_true rfl)⟩ hl.1 rfl (Nat.le_of_ble_eq_true rfl) dX12_leaveCall_27 ⟨rfl, rfl⟩ (fun H locs hw => ?_)
        exact t_X12_leaveCall_b30 l G ad av _ ih a1 a2 a3 μ46 h p e s m below meth c A ls H locs cx hr hlk hA (lv_sub hl [0, 1, 2, 3] rfl) hw
theorem p_X12_leaveCall_ex : ∃ f : Int32 → Int32 → Mem → Option Mem, ∀ (a1 : Int32) (a2 : Int32) (μ : Mem), f a1 a2 μ = bw (p_X12_layMade a2 μ) (fun μ1 => bv (μ1.1 0 111) (fun v3 => p_X12_leaveCall_b10  FUEL a1 a2 v3 μ1)) := ⟨fun (a1 : Int32) (a2 : Int32) (μ : Mem) => bw (p_X12_layMade a2 μ) (fun μ1 => bv (μ1.1 0 111) (fun v3 => p_X12_leaveCall_b10  FUEL a1 a2 v3 μ1)), fun _ _ _ => rfl⟩
noncomputable def p_X12_leaveCall : Int32 → Int32 → Mem → Option Mem := Classical.choose p_X12_leaveCall_ex
theorem p_X12_leaveCall_eq (a1 : Int32) (a2 : Int32) (μ : Mem) : p_X12_leaveCall a1 a2 μ = bw (p_X12_layMade a2 μ) (fun μ1 => bv (μ1.1 0 111) (fun v3 => p_X12_leaveCall_b10  FUEL a1 a2 v3 μ1)) := Classical.choose_spec p_X12_leaveCall_ex a1 a2 μ
set_option maxHeartbeats 4000000 in
set_option maxRecDepth 100000 in
theorem t_X12_leaveCall (l : Launch) (G : Gt) (ad : Nat → Nat) (a1 : Int32) (a2 : Int32) (μ : Mem) {μz : Mem} (h : p_X12_leaveCall a1 a2 μ = some μz) : Mt l yX12_leaveCall cX12_leaveCall 7 none ({ frames := 6, cells := 0, slots := 0, locals := 139 } : Room) G [.ref (ad 0), .int a1, .int a2] (wd 1 G ad μ) (eV 1 G ad μz) := by
  refine Bk.mt (by decide) rfl (Nat.le_of_ble_eq_true rfl) ?_
  intro p e s m below meth c A ls H locs cx hr hlk hA hl hw
  have hx := cx.1
  have hb := cx.2.1
  have hl : lv_has ls 7 [(0, .ref (ad 0)), (1, .int a1), (2, .int a2)] := hl
  rw [p_X12_leaveCall_eq] at h
  refine lv_aload_n hx hb dX12_leaveCall_0 rfl (lv_at hl 0 rfl) ?_
  refine lv_iload_n hx hb dX12_leaveCall_1 rfl (lv_at hl 2 rfl) ?_
  obtain ⟨μ1, gμ1, h⟩ := bw_some h
  refine g_callVV (As := [.int a2]) (rest := []) cx hw hA (t_X12_layMade l G ad a2 μ gμ1) shm_0 rfl ml_X12_739 im_X12_layMade se_X12_layMade in_X12 co_X12_layMade rfl hd_X12_layMade rfl ⟨(Nat.le_of_ble_eq_true rfl), (Nat.le_of_ble_eq_true rfl)⟩ hl.1 rfl (Nat.le_of_ble_eq_true rfl) dX12_leaveCall_2 ⟨rfl, rfl⟩ (fun H locs hw => ?_)
  refine lv_aload_n hx hb dX12_leaveCall_5 rfl (lv_at hl 0 rfl) ?_
  refine g_get cx hw inX12 (ci := 11) rfl 111 (by decide) rfl (v := .int (μ1.1 0 111)) shm_0 rfl fl_X12_742 dX12_leaveCall_6 ?_
  obtain ⟨v3, ev3, h⟩ := bv_ex h
  refine lv_topi (fun y9 z9 => ?_)
  obtain rfl : v3 = y9 := ev3.trans z9.symm
  refine lv_istore_n (lv' := [(3, .int v3), (0, .ref (ad 0)), (1, .int a1), (2, .int a2)]) hx hb dX12_leaveCall_9 rfl hl (by decide) rfl (fun ls hl => ?_)
  exact t_X12_leaveCall_b10 l G ad _  FUEL a1 a2 v3 μ1 h p e s m below meth c A ls H locs cx hr hlk hA (lv_sub hl [1, 2, 3, 0] rfl) hw

theorem p_X12_thinkCall_ex : ∃ f : Int32 → Int32 → Mem → Option Mem, ∀ (a1 : Int32) (a2 : Int32) (μ : Mem), f a1 a2 μ = (if a1 = (-1 : Int32) then bd (p_X12_instruction (12 : Int32) (1 : Int32) μ) (fun r15 μ14 => (if (μ14.1 0 68) = (0 : Int32) then bd (p_X12_registerOf r15 μ14) (fun r18 μ17 => bw (p_X12_come r18 μ17) (fun μ19 => some μ19)) else some μ14)) else (if (μ.1 0 90) = (0 : Int32) then gd (inb (0 : Int32) 3) ((if (μ.1 29 (0 : Int32).toNatClampNeg) ≤ (μ.1 0 92) then bw (p_X12_leaveCall a1 a2 μ) (fun μ6 => some μ6) else (if (μ.1 0 91) = (200 : Int32) then bv (sF μ 0 68 (-3 : Int32)) (fun μ13 => some μ13) else bv (sF μ 0 91 ((μ.1 0 91) + (1 : Int32))) (fun μ9 => bv (sF μ9 0 92 ((μ9.1 0 92) + (1 : Int32))) (fun μ10 => bw (p_X12_enter a1 μ10) (fun μ11 => some μ11)))))) else bw (p_X12_leaveCall a1 a2 μ) (fun μ3 => some μ3))) := ⟨fun (a1 : Int32) (a2 : Int32) (μ : Mem) => (if a1 = (-1 : Int32) then bd (p_X12_instruction (12 : Int32) (1 : Int32) μ) (fun r15 μ14 => (if (μ14.1 0 68) = (0 : Int32) then bd (p_X12_registerOf r15 μ14) (fun r18 μ17 => bw (p_X12_come r18 μ17) (fun μ19 => some μ19)) else some μ14)) else (if (μ.1 0 90) = (0 : Int32) then gd (inb (0 : Int32) 3) ((if (μ.1 29 (0 : Int32).toNatClampNeg) ≤ (μ.1 0 92) then bw (p_X12_leaveCall a1 a2 μ) (fun μ6 => some μ6) else (if (μ.1 0 91) = (200 : Int32) then bv (sF μ 0 68 (-3 : Int32)) (fun μ13 => some μ13) else bv (sF μ 0 91 ((μ.1 0 91) + (1 : Int32))) (fun μ9 => bv (sF μ9 0 92 ((μ9.1 0 92) + (1 : Int32))) (fun μ10 => bw (p_X12_enter a1 μ10) (fun μ11 => some μ11)))))) else bw (p_X12_leaveCall a1 a2 μ) (fun μ3 => some μ3))), fun _ _ _ => rfl⟩
noncomputable def p_X12_thinkCall : Int32 → Int32 → Mem → Option Mem := Classical.choose p_X12_thinkCall_ex
theorem p_X12_thinkCall_eq (a1 : Int32) (a2 : Int32) (μ : Mem) : p_X12_thinkCall a1 a2 μ = (if a1 = (-1 : Int32) then bd (p_X12_instruction (12 : Int32) (1 : Int32) μ) (fun r15 μ14 => (if (μ14.1 0 68) = (0 : Int32) then bd (p_X12_registerOf r15 μ14) (fun r18 μ17 => bw (p_X12_come r18 μ17) (fun μ19 => some μ19)) else some μ14)) else (if (μ.1 0 90) = (0 : Int32) then gd (inb (0 : Int32) 3) ((if (μ.1 29 (0 : Int32).toNatClampNeg) ≤ (μ.1 0 92) then bw (p_X12_leaveCall a1 a2 μ) (fun μ6 => some μ6) else (if (μ.1 0 91) = (200 : Int32) then bv (sF μ 0 68 (-3 : Int32)) (fun μ13 => some μ13) else bv (sF μ 0 91 ((μ.1 0 91) + (1 : Int32))) (fun μ9 => bv (sF μ9 0 92 ((μ9.1 0 92) + (1 : Int32))) (fun μ10 => bw (p_X12_enter a1 μ10) (fun μ11 => some μ11)))))) else bw (p_X12_leaveCall a1 a2 μ) (fun μ3 => some μ3))) := Classical.choose_spec p_X12_thinkCall_ex a1 a2 μ
set_option maxHeartbeats 4000000 in
set_option maxRecDepth 100000 in
theorem t_X12_thinkCall (l : Launch) (G : Gt) (ad : Nat → Nat) (a1 : Int32) (a2 : Int32) (μ : Mem) {μz : Mem} (h : p_X12_thinkCall a1 a2 μ = some μz) : Mt l yX12_thinkCall cX12_thinkCall 4 none ({ frames := 7, cells := 0, slots := 0, locals := 165 } : Room) G [.ref (ad 0), .int a1, .int a2] (wd 1 G ad μ) (eV 1 G ad μz) := by
  refine Bk.mt (by decide) rfl (Nat.le_of_ble_eq_true rfl) ?_
  intro p e s m below meth c A ls H locs cx hr hlk hA hl hw
  have hx := cx.1
  have hb := cx.2.1
  have hl : lv_has ls 4 [(0, .ref (ad 0)), (1, .int a1), (2, .int a2)] := hl
  rw [p_X12_thinkCall_eq] at h
  refine lv_iload_n hx hb dX12_thinkCall_0 rfl (lv_at hl 1 rfl) ?_
  refine lv_iconst (v := (-1)) hx hb dX12_thinkCall_1 (by decide) ?_
  refine lv_icmp_ne (tgt := 32) hx hb dX12_thinkCall_2 (by decide) (fun c1 => ?_) (fun c1 => ?_)
  · rw [if_neg c1] at h
    refine lv_aload_n hx hb dX12_thinkCall_32 rfl (lv_at hl 0 rfl) ?_
    refine g_get cx hw inX12 (ci := 11) rfl 90 (by decide) rfl (v := .int (μ.1 0 90)) shm_0 rfl fl_X12_612 dX12_thinkCall_33 ?_
    refine lv_if_ne (tgt := 97) hx hb dX12_thinkCall_36 (by decide) (fun c2 => ?_) (fun c2 => ?_)
    · rw [if_neg c2] at h
      refine lv_aload_n hx hb dX12_thinkCall_97 rfl (lv_at hl 0 rfl) ?_
      refine lv_iload_n hx hb dX12_thinkCall_98 rfl (lv_at hl 1 rfl) ?_
      refine lv_iload_n hx hb dX12_thinkCall_99 rfl (lv_at hl 2 rfl) ?_
      obtain ⟨μ3, gμ3, h⟩ := bw_some h
      refine g_callVV (As := [.int a1, .int a2]) (rest := []) cx hw hA (t_X12_leaveCall l G ad a1 a2 μ gμ3) shm_0 rfl ml_X12_736 im_X12_leaveCall se_X12_leaveCall in_X12 co_X12_leaveCall rfl hd_X12_leaveCall rfl ⟨(Nat.le_of_ble_eq_true rfl), (Nat.le_of_ble_eq_true rfl)⟩ hl.1 rfl (Nat.le_of_ble_eq_true rfl) dX12_thinkCall_100 ⟨rfl, rfl⟩ (fun H locs hw => ?_)
      exact g_vret cx hr hlk hw h dX12_thinkCall_103
    · rw [if_pos c2] at h
      refine lv_aload_n hx hb dX12_thinkCall_39 rfl (lv_at hl 0 rfl) ?_
      refine g_get cx hw inX12 (ci := 11) rfl 92 (by decide) rfl (v := .int (μ.1 0 92)) shm_0 rfl fl_X12_679 dX12_thinkCall_40 ?_
      refine lv_aload_n hx hb dX12_thinkCall_43 rfl (lv_at hl 0 rfl) ?_
      refine g_get cx hw inX12 (ci := 11) rfl 50 (by decide) rfl (v := .ref (ad 29)) shm_0 rfl fl_X12_102 dX12_thinkCall_44 ?_
      refine lv_iconst (v := 0) hx hb dX12_thinkCall_47 (by decide) ?_
      refine g_iald cx hw shm_29 h dX12_thinkCall_48 (fun h => ?_)
      refine lv_icmp_ge (tgt := 97) hx hb dX12_thinkCall_49 (by decide) (fun c5 => ?_) (fun c5 => ?_)
      · rw [if_pos c5] at h
        refine lv_aload_n hx hb dX12_thinkCall_97 rfl (lv_at hl 0 rfl) ?_
        refine lv_iload_n hx hb dX12_thinkCall_98 rfl (lv_at hl 1 rfl) ?_
        refine lv_iload_n hx hb dX12_thinkCall_99 rfl (lv_at hl 2 rfl) ?_
        obtain ⟨μ6, gμ6, h⟩ := bw_some h
        refine g_callVV (As := [.int a1, .int a2]) (rest := []) cx hw hA (t_X12_leaveCall l G ad a1 a2 μ gμ6) shm_0 rfl ml_X12_736 im_X12_leaveCall se_X12_leaveCall in_X12 co_X12_leaveCall rfl hd_X12_leaveCall rfl ⟨(Nat.le_of_ble_eq_true rfl), (Nat.le_of_ble_eq_true rfl)⟩ hl.1 rfl (Nat.le_of_ble_eq_true rfl) dX12_thinkCall_100 ⟨rfl, rfl⟩ (fun H locs hw => ?_)
        exact g_vret cx hr hlk hw h dX12_thinkCall_103
      · rw [if_neg c5] at h
        refine lv_aload_n hx hb dX12_thinkCall_52 rfl (lv_at hl 0 rfl) ?_
        refine g_get cx hw inX12 (ci := 11) rfl 91 (by decide) rfl (v := .int (μ.1 0 91)) shm_0 rfl fl_X12_733 dX12_thinkCall_53 ?_
        refine lv_sipush (v := 200) hx hb dX12_thinkCall_56 (by decide) ?_
        refine lv_icmp_ne (tgt := 69) hx hb dX12_thinkCall_59 (by decide) (fun c8 => ?_) (fun c8 => ?_)
        · rw [if_neg c8] at h
          refine lv_aload_n hx hb dX12_thinkCall_69 rfl (lv_at hl 0 rfl) ?_
          refine lv_dup hx hb dX12_thinkCall_70 rfl ?_
          refine g_get cx hw inX12 (ci := 11) rfl 91 (by decide) rfl (v := .int (μ.1 0 91)) shm_0 rfl fl_X12_733 dX12_thinkCall_71 ?_
          refine lv_iconst (v := 1) hx hb dX12_thinkCall_74 (by decide) ?_
          refine lv_iadd hx hb dX12_thinkCall_75 ?_
          refine g_put cx hw inX12 (ci := 11) rfl tyX12_ok nmX12 91 (by decide) rfl rfl rfl rfl shm_0 h fl_X12_733 dX12_thinkCall_76 (fun μ9 H locs h hw => ?_)
          refine lv_aload_n hx hb dX12_thinkCall_79 rfl (lv_at hl 0 rfl) ?_
          refine lv_dup hx hb dX12_thinkCall_80 rfl ?_
          refine g_get cx hw inX12 (ci := 11) rfl 92 (by decide) rfl (v := .int (μ9.1 0 92)) shm_0 rfl fl_X12_679 dX12_thinkCall_81 ?_
          refine lv_iconst (v := 1) hx hb dX12_thinkCall_84 (by decide) ?_
          refine lv_iadd hx hb dX12_thinkCall_85 ?_
          refine g_put cx hw inX12 (ci := 11) rfl tyX12_ok nmX12 92 (by decide) rfl rfl rfl rfl shm_0 h fl_X12_679 dX12_thinkCall_86 (fun μ10 H locs h hw => ?_)
          refine lv_aload_n hx hb dX12_thinkCall_89 rfl (lv_at hl 0 rfl) ?_
          refine lv_iload_n hx hb dX12_thinkCall_90 rfl (lv_at hl 1 rfl) ?_
          obtain ⟨μ11, gμ11, h⟩ := bw_some h
          refine g_callVV (As := [.int a1]) (rest := []) cx hw hA (t_X12_enter l G ad a1 μ10 gμ11) shm_0 rfl ml_X12_676 im_X12_enter se_X12_enter in_X12 co_X12_enter rfl hd_X12_enter rfl ⟨(Nat.le_of_ble_eq_true rfl), (Nat.le_of_ble_eq_true rfl)⟩ hl.1 rfl (Nat.le_of_ble_eq_true rfl) dX12_thinkCall_91 ⟨rfl, rfl⟩ (fun H locs hw => ?_)
          refine lv_goto (tgt := 103) hx hb dX12_thinkCall_94 (by decide) ?_
          exact g_vret cx hr hlk hw h dX12_thinkCall_103
        · rw [if_pos c8] at h
          refine lv_aload_n hx hb dX12_thinkCall_62 rfl (lv_at hl 0 rfl) ?_
          refine lv_bipush (v := (-3)) hx hb dX12_thinkCall_63 (by decide) ?_
          refine g_put cx hw inX12 (ci := 11) rfl tyX12_ok nmX12 68 (by decide) rfl rfl rfl rfl shm_0 h fl_X12_557 dX12_thinkCall_65 (fun μ13 H locs h hw => ?_)
          exact g_vret cx hr hlk hw h dX12_thinkCall_68
  · rw [if_pos c1] at h
    refine lv_aload_n hx hb dX12_thinkCall_5 rfl (lv_at hl 0 rfl) ?_
    refine lv_bipush (v := 12) hx hb dX12_thinkCall_6 (by decide) ?_
    refine lv_iconst (v := 1) hx hb dX12_thinkCall_8 (by decide) ?_
    obtain ⟨r15, μ14, gr15, h⟩ := bd_some h
    refine g_callVI (As := [.int 12, .int 1]) (rest := []) cx hw hA (t_X12_instruction l G ad (12 : Int32) (1 : Int32) μ gr15) shm_0 rfl ml_X12_639 im_X12_instruction se_X12_instruction in_X12 co_X12_instruction rfl hd_X12_instruction rfl ⟨(Nat.le_of_ble_eq_true rfl), (Nat.le_of_ble_eq_true rfl)⟩ hl.1 rfl (Nat.le_of_ble_eq_true rfl) dX12_thinkCall_9 ⟨rfl, rfl⟩ (fun H locs hw => ?_)
    refine lv_istore_n (lv' := [(3, .int r15), (0, .ref (ad 0)), (1, .int a1), (2, .int a2)]) hx hb dX12_thinkCall_12 rfl hl (by decide) rfl (fun ls hl => ?_)
    refine lv_aload_n hx hb dX12_thinkCall_13 rfl (lv_at hl 1 rfl) ?_
    refine g_get cx hw inX12 (ci := 11) rfl 68 (by decide) rfl (v := .int (μ14.1 0 68)) shm_0 rfl fl_X12_557 dX12_thinkCall_14 ?_
    refine lv_if_ne (tgt := 29) hx hb dX12_thinkCall_17 (by decide) (fun c16 => ?_) (fun c16 => ?_)
    · rw [if_neg c16] at h
      refine lv_goto (tgt := 103) hx hb dX12_thinkCall_29 (by decide) ?_
      exact g_vret cx hr hlk hw h dX12_thinkCall_103
    · rw [if_pos c16] at h
      refine lv_aload_n hx hb dX12_thinkCall_20 rfl (lv_at hl 1 rfl) ?_
      refine lv_aload_n hx hb dX12_thinkCall_21 rfl (lv_at hl 1 rfl) ?_
      refine lv_iload_n hx hb dX12_thinkCall_22 rfl (lv_at hl 0 rfl) ?_
      obtain ⟨r18, μ17, gr18, h⟩ := bd_some h
      refine g_callVI (As := [.int r15]) (rest := [.ref (ad 0)]) cx hw hA (t_X12_registerOf l G ad r15 μ14 gr18) shm_0 rfl ml_X12_643 im_X12_registerOf se_X12_registerOf in_X12 co_X12_registerOf rfl hd_X12_registerOf rfl ⟨(Nat.le_of_ble_eq_true rfl), (Nat.le_of_ble_eq_true rfl)⟩ hl.1 rfl (Nat.le_of_ble_eq_true rfl) dX12_thinkCall_23 ⟨rfl, rfl⟩ (fun H locs hw => ?_)
      obtain ⟨μ19, gμ19, h⟩ := bw_some h
      refine g_callVV (As := [.int r18]) (rest := []) cx hw hA (t_X12_come l G ad r18 μ17 gμ19) shm_0 rfl ml_X12_585 im_X12_come se_X12_come in_X12 co_X12_come rfl hd_X12_come rfl ⟨(Nat.le_of_ble_eq_true rfl), (Nat.le_of_ble_eq_true rfl)⟩ hl.1 rfl (Nat.le_of_ble_eq_true rfl) dX12_thinkCall_26 ⟨rfl, rfl⟩ (fun H locs hw => ?_)
      refine lv_goto (tgt := 103) hx hb dX12_thinkCall_29 (by decide) ?_
      exact g_vret cx hr hlk hw h dX12_thinkCall_103

theorem p_X12_beginsCall_b18_ex : ∃ f : Mem → Option (Int32 × Mem), ∀  (μ : Mem), f  μ = (if (μ.1 0 75) = (100 : Int32) then bv (sF μ 0 68 (1 : Int32)) (fun μ4 => some ((0 : Int32), μ4)) else bv (sF μ 0 68 (3 : Int32)) (fun μ3 => some ((0 : Int32), μ3))) := ⟨fun  (μ : Mem) => (if (μ.1 0 75) = (100 : Int32) then bv (sF μ 0 68 (1 : Int32)) (fun μ4 => some ((0 : Int32), μ4)) else bv (sF μ 0 68 (3 : Int32)) (fun μ3 => some ((0 : Int32), μ3))), fun _ => rfl⟩
noncomputable def p_X12_beginsCall_b18 : Mem → Option (Int32 × Mem) := Classical.choose p_X12_beginsCall_b18_ex
theorem p_X12_beginsCall_b18_eq  (μ : Mem) : p_X12_beginsCall_b18  μ = (if (μ.1 0 75) = (100 : Int32) then bv (sF μ 0 68 (1 : Int32)) (fun μ4 => some ((0 : Int32), μ4)) else bv (sF μ 0 68 (3 : Int32)) (fun μ3 => some ((0 : Int32), μ3))) := Classical.choose_spec p_X12_beginsCall_b18_ex  μ
set_option maxHeartbeats 4000000 in
set_option maxRecDepth 100000 in
theorem t_X12_beginsCall_b18 (l : Launch) (G : Gt) (ad : Nat → Nat) (av : List Value) {r : Int32} {μz : Mem}  (μ : Mem) (h : p_X12_beginsCall_b18   μ = some (r, μz)) : Bk l cX12_beginsCall 1 RX12 (some .boolean) ({ frames := 0, cells := 0, slots := 0, locals := 0 } : Room) G av (eI 1 G ad r μz) (wd 1 G ad μ) 18 [(0, .ref (ad 0))] [] := by
  intro p e s m below meth c A ls H locs cx hr hlk hA hl hw
  have hx := cx.1
  have hb := cx.2.1
  rw [p_X12_beginsCall_b18_eq] at h
  refine lv_aload_n hx hb dX12_beginsCall_18 rfl (lv_at hl 0 rfl) ?_
  refine lv_aload_n hx hb dX12_beginsCall_19 rfl (lv_at hl 0 rfl) ?_
  refine g_get cx hw inX12 (ci := 11) rfl 75 (by decide) rfl (v := .int (μ.1 0 75)) shm_0 rfl fl_X12_658 dX12_beginsCall_20 ?_
  refine lv_bipush (v := 100) hx hb dX12_beginsCall_23 (by decide) ?_
  refine lv_icmp_ne (tgt := 32) hx hb dX12_beginsCall_25 (by decide) (fun c2 => ?_) (fun c2 => ?_)
  · rw [if_neg c2] at h
    refine lv_iconst (v := 3) hx hb dX12_beginsCall_32 (by decide) ?_
    refine g_put cx hw inX12 (ci := 11) rfl tyX12_ok nmX12 68 (by decide) rfl rfl rfl rfl shm_0 h fl_X12_557 dX12_beginsCall_33 (fun μ3 H locs h hw => ?_)
    refine lv_iconst (v := 0) hx hb dX12_beginsCall_36 (by decide) ?_
    exact g_zret cx hr hlk rfl hw h dX12_beginsCall_37
  · rw [if_pos c2] at h
    refine lv_iconst (v := 1) hx hb dX12_beginsCall_28 (by decide) ?_
    refine lv_goto (tgt := 33) hx hb dX12_beginsCall_29 (by decide) ?_
    refine g_put cx hw inX12 (ci := 11) rfl tyX12_ok nmX12 68 (by decide) rfl rfl rfl rfl shm_0 h fl_X12_557 dX12_beginsCall_33 (fun μ4 H locs h hw => ?_)
    refine lv_iconst (v := 0) hx hb dX12_beginsCall_36 (by decide) ?_
    exact g_zret cx hr hlk rfl hw h dX12_beginsCall_37
theorem p_X12_beginsCall_ex : ∃ f : Mem → Option (Int32 × Mem), ∀  (μ : Mem), f  μ = (if (μ.1 0 75) = (100 : Int32) then p_X12_beginsCall_b18  μ else (if (μ.1 0 76) = (30 : Int32) then p_X12_beginsCall_b18  μ else bv (sF μ 0 75 ((μ.1 0 75) + (1 : Int32))) (fun μ6 => bv (sF μ6 0 76 ((μ6.1 0 76) + (1 : Int32))) (fun μ7 => (if (μ7.1 0 76) ≤ (μ7.1 0 77) then bv (sF μ7 0 77 (μ7.1 0 77)) (fun μ9 => some ((1 : Int32), μ9)) else bv (sF μ7 0 77 (μ7.1 0 76)) (fun μ10 => some ((1 : Int32), μ10))))))) := ⟨fun  (μ : Mem) => (if (μ.1 0 75) = (100 : Int32) then p_X12_beginsCall_b18  μ else (if (μ.1 0 76) = (30 : Int32) then p_X12_beginsCall_b18  μ else bv (sF μ 0 75 ((μ.1 0 75) + (1 : Int32))) (fun μ6 => bv (sF μ6 0 76 ((μ6.1 0 76) + (1 : Int32))) (fun μ7 => (if (μ7.1 0 76) ≤ (μ7.1 0 77) then bv (sF μ7 0 77 (μ7.1 0 77)) (fun μ9 => some ((1 : Int32), μ9)) else bv (sF μ7 0 77 (μ7.1 0 76)) (fun μ10 => some ((1 : Int32), μ10))))))), fun _ => rfl⟩
noncomputable def p_X12_beginsCall : Mem → Option (Int32 × Mem) := Classical.choose p_X12_beginsCall_ex
theorem p_X12_beginsCall_eq  (μ : Mem) : p_X12_beginsCall  μ = (if (μ.1 0 75) = (100 : Int32) then p_X12_beginsCall_b18  μ else (if (μ.1 0 76) = (30 : Int32) then p_X12_beginsCall_b18  μ else bv (sF μ 0 75 ((μ.1 0 75) + (1 : Int32))) (fun μ6 => bv (sF μ6 0 76 ((μ6.1 0 76) + (1 : Int32))) (fun μ7 => (if (μ7.1 0 76) ≤ (μ7.1 0 77) then bv (sF μ7 0 77 (μ7.1 0 77)) (fun μ9 => some ((1 : Int32), μ9)) else bv (sF μ7 0 77 (μ7.1 0 76)) (fun μ10 => some ((1 : Int32), μ10))))))) := Classical.choose_spec p_X12_beginsCall_ex  μ
set_option maxHeartbeats 4000000 in
set_option maxRecDepth 100000 in
theorem t_X12_beginsCall (l : Launch) (G : Gt) (ad : Nat → Nat)  (μ : Mem) {r : Int32} {μz : Mem} (h : p_X12_beginsCall  μ = some (r, μz)) : Mt l yX12_beginsCall cX12_beginsCall 1 (some .boolean) ({ frames := 0, cells := 0, slots := 0, locals := 0 } : Room) G [.ref (ad 0)] (wd 1 G ad μ) (eI 1 G ad r μz) := by
  refine Bk.mt (by decide) rfl (Nat.le_of_ble_eq_true rfl) ?_
  intro p e s m below meth c A ls H locs cx hr hlk hA hl hw
  have hx := cx.1
  have hb := cx.2.1
  have hl : lv_has ls 1 [(0, .ref (ad 0))] := hl
  rw [p_X12_beginsCall_eq] at h
  refine lv_aload_n hx hb dX12_beginsCall_0 rfl (lv_at hl 0 rfl) ?_
  refine g_get cx hw inX12 (ci := 11) rfl 75 (by decide) rfl (v := .int (μ.1 0 75)) shm_0 rfl fl_X12_658 dX12_beginsCall_1 ?_
  refine lv_bipush (v := 100) hx hb dX12_beginsCall_4 (by decide) ?_
  refine lv_icmp_eq (tgt := 18) hx hb dX12_beginsCall_6 (by decide) (fun c1 => ?_) (fun c1 => ?_)
  · rw [if_pos c1] at h
    exact t_X12_beginsCall_b18 l G ad _  μ h p e s m below meth c A ls H locs cx hr hlk hA (lv_sub hl [0] rfl) hw
  · rw [if_neg c1] at h
    refine lv_aload_n hx hb dX12_beginsCall_9 rfl (lv_at hl 0 rfl) ?_
    refine g_get cx hw inX12 (ci := 11) rfl 76 (by decide) rfl (v := .int (μ.1 0 76)) shm_0 rfl fl_X12_661 dX12_beginsCall_10 ?_
    refine lv_bipush (v := 30) hx hb dX12_beginsCall_13 (by decide) ?_
    refine lv_icmp_ne (tgt := 38) hx hb dX12_beginsCall_15 (by decide) (fun c5 => ?_) (fun c5 => ?_)
    · rw [if_neg c5] at h
      refine lv_aload_n hx hb dX12_beginsCall_38 rfl (lv_at hl 0 rfl) ?_
      refine lv_dup hx hb dX12_beginsCall_39 rfl ?_
      refine g_get cx hw inX12 (ci := 11) rfl 75 (by decide) rfl (v := .int (μ.1 0 75)) shm_0 rfl fl_X12_658 dX12_beginsCall_40 ?_
      refine lv_iconst (v := 1) hx hb dX12_beginsCall_43 (by decide) ?_
      refine lv_iadd hx hb dX12_beginsCall_44 ?_
      refine g_put cx hw inX12 (ci := 11) rfl tyX12_ok nmX12 75 (by decide) rfl rfl rfl rfl shm_0 h fl_X12_658 dX12_beginsCall_45 (fun μ6 H locs h hw => ?_)
      refine lv_aload_n hx hb dX12_beginsCall_48 rfl (lv_at hl 0 rfl) ?_
      refine lv_dup hx hb dX12_beginsCall_49 rfl ?_
      refine g_get cx hw inX12 (ci := 11) rfl 76 (by decide) rfl (v := .int (μ6.1 0 76)) shm_0 rfl fl_X12_661 dX12_beginsCall_50 ?_
      refine lv_iconst (v := 1) hx hb dX12_beginsCall_53 (by decide) ?_
      refine lv_iadd hx hb dX12_beginsCall_54 ?_
      refine g_put cx hw inX12 (ci := 11) rfl tyX12_ok nmX12 76 (by decide) rfl rfl rfl rfl shm_0 h fl_X12_661 dX12_beginsCall_55 (fun μ7 H locs h hw => ?_)
      refine lv_aload_n hx hb dX12_beginsCall_58 rfl (lv_at hl 0 rfl) ?_
      refine lv_aload_n hx hb dX12_beginsCall_59 rfl (lv_at hl 0 rfl) ?_
      refine g_get cx hw inX12 (ci := 11) rfl 76 (by decide) rfl (v := .int (μ7.1 0 76)) shm_0 rfl fl_X12_661 dX12_beginsCall_60 ?_
      refine lv_aload_n hx hb dX12_beginsCall_63 rfl (lv_at hl 0 rfl) ?_
      refine g_get cx hw inX12 (ci := 11) rfl 77 (by decide) rfl (v := .int (μ7.1 0 77)) shm_0 rfl fl_X12_664 dX12_beginsCall_64 ?_
      refine lv_icmp_le (tgt := 77) hx hb dX12_beginsCall_67 (by decide) (fun c8 => ?_) (fun c8 => ?_)
      · rw [if_pos c8] at h
        refine lv_aload_n hx hb dX12_beginsCall_77 rfl (lv_at hl 0 rfl) ?_
        refine g_get cx hw inX12 (ci := 11) rfl 77 (by decide) rfl (v := .int (μ7.1 0 77)) shm_0 rfl fl_X12_664 dX12_beginsCall_78 ?_
        refine g_put cx hw inX12 (ci := 11) rfl tyX12_ok nmX12 77 (by decide) rfl rfl rfl rfl shm_0 h fl_X12_664 dX12_beginsCall_81 (fun μ9 H locs h hw => ?_)
        refine lv_iconst (v := 1) hx hb dX12_beginsCall_84 (by decide) ?_
        exact g_zret cx hr hlk rfl hw h dX12_beginsCall_85
      · rw [if_neg c8] at h
        refine lv_aload_n hx hb dX12_beginsCall_70 rfl (lv_at hl 0 rfl) ?_
        refine g_get cx hw inX12 (ci := 11) rfl 76 (by decide) rfl (v := .int (μ7.1 0 76)) shm_0 rfl fl_X12_661 dX12_beginsCall_71 ?_
        refine lv_goto (tgt := 81) hx hb dX12_beginsCall_74 (by decide) ?_
        refine g_put cx hw inX12 (ci := 11) rfl tyX12_ok nmX12 77 (by decide) rfl rfl rfl rfl shm_0 h fl_X12_664 dX12_beginsCall_81 (fun μ10 H locs h hw => ?_)
        refine lv_iconst (v := 1) hx hb dX12_beginsCall_84 (by decide) ?_
        exact g_zret cx hr hlk rfl hw h dX12_beginsCall_85
    · rw [if_pos c5] at h
      exact t_X12_beginsCall_b18 l G ad _  μ h p e s m below meth c A ls H locs cx hr hlk hA (lv_sub hl [0] rfl) hw

theorem p_X12_doCall_b4_ex : ∃ f : Nat → Int32 → Int32 → Int32 → Mem → Option Mem, (∀ (a1 : Int32) (a2 : Int32) (a3 : Int32) (μ : Mem), f  0 a1 a2 a3 μ = none) ∧ (∀ (n : Nat) (a1 : Int32) (a2 : Int32) (a3 : Int32) (μ : Mem), f  (n + 1) a1 a2 a3 μ = (if a3 < (0 : Int32) then bd (p_X12_functionOf a1 a2 μ) (fun r4 μ3 => (if (μ3.1 0 69) = (0 : Int32) then (if r4 = (-1 : Int32) then bv (sF μ3 0 68 (4 : Int32)) (fun μ12 => some μ12) else bd (p_X12_beginsCall μ3) (fun r8 μ7 => (if r8 = (0 : Int32) then some μ7 else bw (p_X12_enter r4 μ7) (fun μ10 => some μ10)))) else bw (p_X12_thinkCall r4 a2 μ3) (fun μ13 => some μ13))) else bd (p_X12_gone μ) (fun r16 μ15 => gd (inb a3 5) (bv (sF μ15 45 a3.toNatClampNeg r16) (fun μ17 => bv (a3 + (-1)) (fun v18 => f n a1 a2 v18 μ17)))))) := ⟨fun n => Nat.rec (fun (a1 : Int32) (a2 : Int32) (a3 : Int32) (μ : Mem) => none) (fun _ ih => fun (a1 : Int32) (a2 : Int32) (a3 : Int32) (μ : Mem) => (if a3 < (0 : Int32) then bd (p_X12_functionOf a1 a2 μ) (fun r4 μ3 => (if (μ3.1 0 69) = (0 : Int32) then (if r4 = (-1 : Int32) then bv (sF μ3 0 68 (4 : Int32)) (fun μ12 => some μ12) else bd (p_X12_beginsCall μ3) (fun r8 μ7 => (if r8 = (0 : Int32) then some μ7 else bw (p_X12_enter r4 μ7) (fun μ10 => some μ10)))) else bw (p_X12_thinkCall r4 a2 μ3) (fun μ13 => some μ13))) else bd (p_X12_gone μ) (fun r16 μ15 => gd (inb a3 5) (bv (sF μ15 45 a3.toNatClampNeg r16) (fun μ17 => bv (a3 + (-1)) (fun v18 => ih a1 a2 v18 μ17)))))) n, fun  _ _ _ _ => rfl, fun  _ _ _ _ _ => rfl⟩
noncomputable def p_X12_doCall_b4 : Nat → Int32 → Int32 → Int32 → Mem → Option Mem := Classical.choose p_X12_doCall_b4_ex
theorem p_X12_doCall_b4_z (a1 : Int32) (a2 : Int32) (a3 : Int32) (μ : Mem) : p_X12_doCall_b4  0 a1 a2 a3 μ = none := (Classical.choose_spec p_X12_doCall_b4_ex).1  a1 a2 a3 μ
theorem p_X12_doCall_b4_s (n : Nat) (a1 : Int32) (a2 : Int32) (a3 : Int32) (μ : Mem) : p_X12_doCall_b4  (n + 1) a1 a2 a3 μ = (if a3 < (0 : Int32) then bd (p_X12_functionOf a1 a2 μ) (fun r4 μ3 => (if (μ3.1 0 69) = (0 : Int32) then (if r4 = (-1 : Int32) then bv (sF μ3 0 68 (4 : Int32)) (fun μ12 => some μ12) else bd (p_X12_beginsCall μ3) (fun r8 μ7 => (if r8 = (0 : Int32) then some μ7 else bw (p_X12_enter r4 μ7) (fun μ10 => some μ10)))) else bw (p_X12_thinkCall r4 a2 μ3) (fun μ13 => some μ13))) else bd (p_X12_gone μ) (fun r16 μ15 => gd (inb a3 5) (bv (sF μ15 45 a3.toNatClampNeg r16) (fun μ17 => bv (a3 + (-1)) (fun v18 => p_X12_doCall_b4  n a1 a2 v18 μ17))))) := (Classical.choose_spec p_X12_doCall_b4_ex).2  n a1 a2 a3 μ
set_option maxHeartbeats 4000000 in
set_option maxRecDepth 100000 in
theorem t_X12_doCall_b4 (l : Launch) (G : Gt) (ad : Nat → Nat) (av : List Value) {μz : Mem} : ∀ (n : Nat) (a1 : Int32) (a2 : Int32) (a3 : Int32) (μ : Mem), p_X12_doCall_b4  n a1 a2 a3 μ = some μz → Bk l cX12_doCall 4 RX12 none ({ frames := 8, cells := 0, slots := 0, locals := 188 } : Room) G av (eV 1 G ad μz) (wd 1 G ad μ) 4 [(0, .ref (ad 0)), (1, .int a1), (2, .int a2), (3, .int a3)] [] := by
  intro n
  induction n with
  | zero => intro a1 a2 a3 μ h; rw [p_X12_doCall_b4_z] at h; cases h
  | succ n ih =>
    intro a1 a2 a3 μ h p e s m below meth c A ls H locs cx hr hlk hA hl hw
    have hx := cx.1
    have hb := cx.2.1
    rw [p_X12_doCall_b4_s] at h
    refine lv_iload_n hx hb dX12_doCall_4 rfl (lv_at hl 3 rfl) ?_
    refine lv_if_lt (tgt := 24) hx hb dX12_doCall_5 (by decide) (fun c2 => ?_) (fun c2 => ?_)
    · rw [if_pos c2] at h
      refine lv_aload_n hx hb dX12_doCall_24 rfl (lv_at hl 0 rfl) ?_
      refine lv_iload_n hx hb dX12_doCall_25 rfl (lv_at hl 1 rfl) ?_
      refine lv_iload_n hx hb dX12_doCall_26 rfl (lv_at hl 2 rfl) ?_
      obtain ⟨r4, μ3, gr4, h⟩ := bd_some h
      refine g_callVI (As := [.int a1, .int a2]) (rest := []) cx hw hA (t_X12_functionOf l G ad a1 a2 μ gr4) shm_0 rfl ml_X12_667 im_X12_functionOf se_X12_functionOf in_X12 co_X12_functionOf rfl hd_X12_functionOf rfl ⟨(Nat.le_of_ble_eq_true rfl), (Nat.le_of_ble_eq_true rfl)⟩ hl.1 rfl (Nat.le_of_ble_eq_true rfl) dX12_doCall_27 ⟨rfl, rfl⟩ (fun H locs hw => ?_)
      refine lv_istore_n (lv' := [(3, .int r4), (0, .ref (ad 0)), (1, .int a1), (2, .int a2)]) hx hb dX12_doCall_30 rfl hl (by decide) rfl (fun ls hl => ?_)
      refine lv_aload_n hx hb dX12_doCall_31 rfl (lv_at hl 1 rfl) ?_
      refine g_get cx hw inX12 (ci := 11) rfl 69 (by decide) rfl (v := .int (μ3.1 0 69)) shm_0 rfl fl_X12_551 dX12_doCall_32 ?_
      refine lv_if_eq (tgt := 45) hx hb dX12_doCall_35 (by decide) (fun c5 => ?_) (fun c5 => ?_)
      · rw [if_pos c5] at h
        refine lv_iload_n hx hb dX12_doCall_45 rfl (lv_at hl 0 rfl) ?_
        refine lv_iconst (v := (-1)) hx hb dX12_doCall_46 (by decide) ?_
        refine lv_icmp_ne (tgt := 58) hx hb dX12_doCall_47 (by decide) (fun c6 => ?_) (fun c6 => ?_)
        · rw [if_neg c6] at h
          refine lv_aload_n hx hb dX12_doCall_58 rfl (lv_at hl 1 rfl) ?_
          obtain ⟨r8, μ7, gr8, h⟩ := bd_some h
          refine g_callVI (As := []) (rest := []) cx hw hA (t_X12_beginsCall l G ad μ3 gr8) shm_0 rfl ml_X12_673 im_X12_beginsCall se_X12_beginsCall in_X12 co_X12_beginsCall rfl hd_X12_beginsCall rfl ⟨(Nat.le_of_ble_eq_true rfl), (Nat.le_of_ble_eq_true rfl)⟩ hl.1 rfl (Nat.le_of_ble_eq_true rfl) dX12_doCall_59 ⟨rfl, rfl⟩ (fun H locs hw => ?_)
          refine lv_if_eq (tgt := 70) hx hb dX12_doCall_62 (by decide) (fun c9 => ?_) (fun c9 => ?_)
          · rw [if_pos c9] at h
            exact g_vret cx hr hlk hw h dX12_doCall_70
          · rw [if_neg c9] at h
            refine lv_aload_n hx hb dX12_doCall_65 rfl (lv_at hl 1 rfl) ?_
            refine lv_iload_n hx hb dX12_doCall_66 rfl (lv_at hl 0 rfl) ?_
            obtain ⟨μ10, gμ10, h⟩ := bw_some h
            refine g_callVV (As := [.int r4]) (rest := []) cx hw hA (t_X12_enter l G ad r4 μ7 gμ10) shm_0 rfl ml_X12_676 im_X12_enter se_X12_enter in_X12 co_X12_enter rfl hd_X12_enter rfl ⟨(Nat.le_of_ble_eq_true rfl), (Nat.le_of_ble_eq_true rfl)⟩ hl.1 rfl (Nat.le_of_ble_eq_true rfl) dX12_doCall_67 ⟨rfl, rfl⟩ (fun H locs hw => ?_)
            exact g_vret cx hr hlk hw h dX12_doCall_70
        · rw [if_pos c6] at h
          refine lv_aload_n hx hb dX12_doCall_50 rfl (lv_at hl 1 rfl) ?_
          refine lv_iconst (v := 4) hx hb dX12_doCall_51 (by decide) ?_
          refine g_put cx hw inX12 (ci := 11) rfl tyX12_ok nmX12 68 (by decide) rfl rfl rfl rfl shm_0 h fl_X12_557 dX12_doCall_52 (fun μ12 H locs h hw => ?_)
          refine lv_goto (tgt := 70) hx hb dX12_doCall_55 (by decide) ?_
          exact g_vret cx hr hlk hw h dX12_doCall_70
      · rw [if_neg c5] at h
        refine lv_aload_n hx hb dX12_doCall_38 rfl (lv_at hl 1 rfl) ?_
        refine lv_iload_n hx hb dX12_doCall_39 rfl (lv_at hl 0 rfl) ?_
        refine lv_iload_n hx hb dX12_doCall_40 rfl (lv_at hl 3 rfl) ?_
        obtain ⟨μ13, gμ13, h⟩ := bw_some h
        refine g_callVV (As := [.int r4, .int a2]) (rest := []) cx hw hA (t_X12_thinkCall l G ad r4 a2 μ3 gμ13) shm_0 rfl ml_X12_670 im_X12_thinkCall se_X12_thinkCall in_X12 co_X12_thinkCall rfl hd_X12_thinkCall rfl ⟨(Nat.le_of_ble_eq_true rfl), (Nat.le_of_ble_eq_true rfl)⟩ hl.1 rfl (Nat.le_of_ble_eq_true rfl) dX12_doCall_41 ⟨rfl, rfl⟩ (fun H locs hw => ?_)
        exact g_vret cx hr hlk hw h dX12_doCall_44
    · rw [if_neg c2] at h
      refine lv_aload_n hx hb dX12_doCall_8 rfl (lv_at hl 0 rfl) ?_
      refine g_get cx hw inX12 (ci := 11) rfl 74 (by decide) rfl (v := .ref (ad 45)) shm_0 rfl fl_X12_151 dX12_doCall_9 ?_
      refine lv_iload_n hx hb dX12_doCall_12 rfl (lv_at hl 3 rfl) ?_
      refine lv_aload_n hx hb dX12_doCall_13 rfl (lv_at hl 0 rfl) ?_
      obtain ⟨r16, μ15, gr16, h⟩ := bd_some h
      refine g_callVI (As := []) (rest := [.int a3, .ref (ad 45)]) cx hw hA (t_X12_gone l G ad μ gr16) shm_0 rfl ml_X12_594 im_X12_gone se_X12_gone in_X12 co_X12_gone rfl hd_X12_gone rfl ⟨(Nat.le_of_ble_eq_true rfl), (Nat.le_of_ble_eq_true rfl)⟩ hl.1 rfl (Nat.le_of_ble_eq_true rfl) dX12_doCall_14 ⟨rfl, rfl⟩ (fun H locs hw => ?_)
      refine g_iast cx hw shm_45 h dX12_doCall_17 (fun μ17 H locs h hw => ?_)
      obtain ⟨v18, ev18, h⟩ := bv_ex h
      refine lv_iinc (v := v18) (lv' := [(3, .int v18), (0, .ref (ad 0)), (1, .int a1), (2, .int a2)]) hx hb dX12_doCall_18 hl (k := 3) rfl (by rw [ev18]; rfl) (by decide) rfl (fun ls hl => ?_)
      refine lv_goto (tgt := 4) hx hb dX12_doCall_21 (by decide) ?_
      exact ih a1 a2 v18 μ17 h p e s m below meth c A ls H locs cx hr hlk hA (lv_sub hl [1, 2, 3, 0] rfl) hw
theorem p_X12_doCall_ex : ∃ f : Int32 → Int32 → Mem → Option Mem, ∀ (a1 : Int32) (a2 : Int32) (μ : Mem), f a1 a2 μ = bv (a2 - (1 : Int32)) (fun v1 => p_X12_doCall_b4  FUEL a1 a2 v1 μ) := ⟨fun (a1 : Int32) (a2 : Int32) (μ : Mem) => bv (a2 - (1 : Int32)) (fun v1 => p_X12_doCall_b4  FUEL a1 a2 v1 μ), fun _ _ _ => rfl⟩
noncomputable def p_X12_doCall : Int32 → Int32 → Mem → Option Mem := Classical.choose p_X12_doCall_ex
theorem p_X12_doCall_eq (a1 : Int32) (a2 : Int32) (μ : Mem) : p_X12_doCall a1 a2 μ = bv (a2 - (1 : Int32)) (fun v1 => p_X12_doCall_b4  FUEL a1 a2 v1 μ) := Classical.choose_spec p_X12_doCall_ex a1 a2 μ
set_option maxHeartbeats 4000000 in
set_option maxRecDepth 100000 in
theorem t_X12_doCall (l : Launch) (G : Gt) (ad : Nat → Nat) (a1 : Int32) (a2 : Int32) (μ : Mem) {μz : Mem} (h : p_X12_doCall a1 a2 μ = some μz) : Mt l yX12_doCall cX12_doCall 4 none ({ frames := 8, cells := 0, slots := 0, locals := 188 } : Room) G [.ref (ad 0), .int a1, .int a2] (wd 1 G ad μ) (eV 1 G ad μz) := by
  refine Bk.mt (by decide) rfl (Nat.le_of_ble_eq_true rfl) ?_
  intro p e s m below meth c A ls H locs cx hr hlk hA hl hw
  have hx := cx.1
  have hb := cx.2.1
  have hl : lv_has ls 4 [(0, .ref (ad 0)), (1, .int a1), (2, .int a2)] := hl
  rw [p_X12_doCall_eq] at h
  refine lv_iload_n hx hb dX12_doCall_0 rfl (lv_at hl 2 rfl) ?_
  refine lv_iconst (v := 1) hx hb dX12_doCall_1 (by decide) ?_
  refine lv_isub hx hb dX12_doCall_2 ?_
  obtain ⟨v1, ev1, h⟩ := bv_ex h
  refine lv_topi (fun y9 z9 => ?_)
  obtain rfl : v1 = y9 := ev1.trans z9.symm
  refine lv_istore_n (lv' := [(3, .int v1), (0, .ref (ad 0)), (1, .int a1), (2, .int a2)]) hx hb dX12_doCall_3 rfl hl (by decide) rfl (fun ls hl => ?_)
  exact t_X12_doCall_b4 l G ad _  FUEL a1 a2 v1 μ h p e s m below meth c A ls H locs cx hr hlk hA (lv_sub hl [1, 2, 3, 0] rfl) hw

theorem p_X12_doThing_ex : ∃ f : Int32 → Mem → Option Mem, ∀ (a1 : Int32) (μ : Mem), f a1 μ = gd (inb a1 800) ((if (μ.1 7 a1.toNatClampNeg) = (2 : Int32) then bw (p_X12_doPair μ) (fun μ3 => some μ3) else (if (μ.1 7 a1.toNatClampNeg) = (3 : Int32) then gd (inb a1 800) (gd (inb a1 800) (bw (p_X12_doCall (μ.1 8 a1.toNatClampNeg) (μ.1 9 a1.toNatClampNeg) μ) (fun μ6 => some μ6))) else (if (μ.1 7 a1.toNatClampNeg) = (4 : Int32) then gd (inb a1 800) (gd (inb a1 800) (bw (p_X12_doCall (μ.1 8 a1.toNatClampNeg) (μ.1 9 a1.toNatClampNeg) μ) (fun μ9 => some μ9))) else (if (μ.1 7 a1.toNatClampNeg) = (5 : Int32) then gd (inb a1 800) (bw (p_X12_doSign (μ.1 8 a1.toNatClampNeg) μ) (fun μ12 => some μ12)) else (if (μ.1 7 a1.toNatClampNeg) = (6 : Int32) then gd (inb a1 800) (bw (p_X12_doOne (μ.1 8 a1.toNatClampNeg) μ) (fun μ15 => some μ15)) else (if (μ.1 7 a1.toNatClampNeg) = (7 : Int32) then gd (inb a1 800) (gd (inb a1 800) (bw (p_X12_doCall (μ.1 8 a1.toNatClampNeg) (μ.1 9 a1.toNatClampNeg) μ) (fun μ18 => some μ18))) else (if (μ.1 7 a1.toNatClampNeg) = (8 : Int32) then bw (p_X12_doOut μ) (fun μ21 => some μ21) else (if (μ.1 7 a1.toNatClampNeg) = (9 : Int32) then gd (inb a1 800) (bw (p_X12_doPut (μ.1 8 a1.toNatClampNeg) μ) (fun μ24 => some μ24)) else (if (μ.1 7 a1.toNatClampNeg) = (10 : Int32) then gd (inb a1 800) (bw (p_X12_doGet (μ.1 8 a1.toNatClampNeg) μ) (fun μ27 => some μ27)) else gd (inb a1 800) (gd (inb a1 800) (bw (p_X12_doCall (μ.1 8 a1.toNatClampNeg) (μ.1 9 a1.toNatClampNeg) μ) (fun μ29 => some μ29))))))))))))) := ⟨fun (a1 : Int32) (μ : Mem) => gd (inb a1 800) ((if (μ.1 7 a1.toNatClampNeg) = (2 : Int32) then bw (p_X12_doPair μ) (fun μ3 => some μ3) else (if (μ.1 7 a1.toNatClampNeg) = (3 : Int32) then gd (inb a1 800) (gd (inb a1 800) (bw (p_X12_doCall (μ.1 8 a1.toNatClampNeg) (μ.1 9 a1.toNatClampNeg) μ) (fun μ6 => some μ6))) else (if (μ.1 7 a1.toNatClampNeg) = (4 : Int32) then gd (inb a1 800) (gd (inb a1 800) (bw (p_X12_doCall (μ.1 8 a1.toNatClampNeg) (μ.1 9 a1.toNatClampNeg) μ) (fun μ9 => some μ9))) else (if (μ.1 7 a1.toNatClampNeg) = (5 : Int32) then gd (inb a1 800) (bw (p_X12_doSign (μ.1 8 a1.toNatClampNeg) μ) (fun μ12 => some μ12)) else (if (μ.1 7 a1.toNatClampNeg) = (6 : Int32) then gd (inb a1 800) (bw (p_X12_doOne (μ.1 8 a1.toNatClampNeg) μ) (fun μ15 => some μ15)) else (if (μ.1 7 a1.toNatClampNeg) = (7 : Int32) then gd (inb a1 800) (gd (inb a1 800) (bw (p_X12_doCall (μ.1 8 a1.toNatClampNeg) (μ.1 9 a1.toNatClampNeg) μ) (fun μ18 => some μ18))) else (if (μ.1 7 a1.toNatClampNeg) = (8 : Int32) then bw (p_X12_doOut μ) (fun μ21 => some μ21) else (if (μ.1 7 a1.toNatClampNeg) = (9 : Int32) then gd (inb a1 800) (bw (p_X12_doPut (μ.1 8 a1.toNatClampNeg) μ) (fun μ24 => some μ24)) else (if (μ.1 7 a1.toNatClampNeg) = (10 : Int32) then gd (inb a1 800) (bw (p_X12_doGet (μ.1 8 a1.toNatClampNeg) μ) (fun μ27 => some μ27)) else gd (inb a1 800) (gd (inb a1 800) (bw (p_X12_doCall (μ.1 8 a1.toNatClampNeg) (μ.1 9 a1.toNatClampNeg) μ) (fun μ29 => some μ29))))))))))))), fun _ _ => rfl⟩
noncomputable def p_X12_doThing : Int32 → Mem → Option Mem := Classical.choose p_X12_doThing_ex
theorem p_X12_doThing_eq (a1 : Int32) (μ : Mem) : p_X12_doThing a1 μ = gd (inb a1 800) ((if (μ.1 7 a1.toNatClampNeg) = (2 : Int32) then bw (p_X12_doPair μ) (fun μ3 => some μ3) else (if (μ.1 7 a1.toNatClampNeg) = (3 : Int32) then gd (inb a1 800) (gd (inb a1 800) (bw (p_X12_doCall (μ.1 8 a1.toNatClampNeg) (μ.1 9 a1.toNatClampNeg) μ) (fun μ6 => some μ6))) else (if (μ.1 7 a1.toNatClampNeg) = (4 : Int32) then gd (inb a1 800) (gd (inb a1 800) (bw (p_X12_doCall (μ.1 8 a1.toNatClampNeg) (μ.1 9 a1.toNatClampNeg) μ) (fun μ9 => some μ9))) else (if (μ.1 7 a1.toNatClampNeg) = (5 : Int32) then gd (inb a1 800) (bw (p_X12_doSign (μ.1 8 a1.toNatClampNeg) μ) (fun μ12 => some μ12)) else (if (μ.1 7 a1.toNatClampNeg) = (6 : Int32) then gd (inb a1 800) (bw (p_X12_doOne (μ.1 8 a1.toNatClampNeg) μ) (fun μ15 => some μ15)) else (if (μ.1 7 a1.toNatClampNeg) = (7 : Int32) then gd (inb a1 800) (gd (inb a1 800) (bw (p_X12_doCall (μ.1 8 a1.toNatClampNeg) (μ.1 9 a1.toNatClampNeg) μ) (fun μ18 => some μ18))) else (if (μ.1 7 a1.toNatClampNeg) = (8 : Int32) then bw (p_X12_doOut μ) (fun μ21 => some μ21) else (if (μ.1 7 a1.toNatClampNeg) = (9 : Int32) then gd (inb a1 800) (bw (p_X12_doPut (μ.1 8 a1.toNatClampNeg) μ) (fun μ24 => some μ24)) else (if (μ.1 7 a1.toNatClampNeg) = (10 : Int32) then gd (inb a1 800) (bw (p_X12_doGet (μ.1 8 a1.toNatClampNeg) μ) (fun μ27 => some μ27)) else gd (inb a1 800) (gd (inb a1 800) (bw (p_X12_doCall (μ.1 8 a1.toNatClampNeg) (μ.1 9 a1.toNatClampNeg) μ) (fun μ29 => some μ29))))))))))))) := Classical.choose_spec p_X12_doThing_ex a1 μ
set_option maxHeartbeats 4000000 in
set_option maxRecDepth 100000 in
theorem t_X12_doThing (l : Launch) (G : Gt) (ad : Nat → Nat) (a1 : Int32) (μ : Mem) {μz : Mem} (h : p_X12_doThing a1 μ = some μz) : Mt l yX12_doThing cX12_doThing 2 none ({ frames := 9, cells := 0, slots := 0, locals := 211 } : Room) G [.ref (ad 0), .int a1] (wd 1 G ad μ) (eV 1 G ad μz) := by
  refine Bk.mt (by decide) rfl (Nat.le_of_ble_eq_true rfl) ?_
  intro p e s m below meth c A ls H locs cx hr hlk hA hl hw
  have hx := cx.1
  have hb := cx.2.1
  have hl : lv_has ls 2 [(0, .ref (ad 0)), (1, .int a1)] := hl
  rw [p_X12_doThing_eq] at h
  refine lv_aload_n hx hb dX12_doThing_0 rfl (lv_at hl 0 rfl) ?_
  refine g_get cx hw inX12 (ci := 11) rfl 13 (by decide) rfl (v := .ref (ad 7)) shm_0 rfl fl_X12_33 dX12_doThing_1 ?_
  refine lv_iload_n hx hb dX12_doThing_4 rfl (lv_at hl 1 rfl) ?_
  refine g_iald cx hw shm_7 h dX12_doThing_5 (fun h => ?_)
  refine lv_topi (fun v1 ev1 => ?_)
  by_cases c2 : (μ.1 7 a1.toNatClampNeg) = (2 : Int32)
  · rw [if_pos c2] at h
    have z9 := ev1.trans c2
    subst z9
    refine lv_tableIn (tgt := 82) hx hb dX12_doThing_6 (by decide +kernel) (by decide +kernel) rfl (by decide) ?_
    refine lv_aload_n hx hb dX12_doThing_82 rfl (lv_at hl 0 rfl) ?_
    obtain ⟨μ3, gμ3, h⟩ := bw_some h
    refine g_callVV (As := []) (rest := []) cx hw hA (t_X12_doPair l G ad μ gμ3) shm_0 rfl ml_X12_621 im_X12_doPair se_X12_doPair in_X12 co_X12_doPair rfl hd_X12_doPair rfl ⟨(Nat.le_of_ble_eq_true rfl), (Nat.le_of_ble_eq_true rfl)⟩ hl.1 rfl (Nat.le_of_ble_eq_true rfl) dX12_doThing_83 ⟨rfl, rfl⟩ (fun H locs hw => ?_)
    refine lv_goto (tgt := 138) hx hb dX12_doThing_86 (by decide) ?_
    exact g_vret cx hr hlk hw h dX12_doThing_138
  rw [if_neg c2] at h
  by_cases c5 : (μ.1 7 a1.toNatClampNeg) = (3 : Int32)
  · rw [if_pos c5] at h
    have z9 := ev1.trans c5
    subst z9
    refine lv_tableIn (tgt := 122) hx hb dX12_doThing_6 (by decide +kernel) (by decide +kernel) rfl (by decide) ?_
    refine lv_aload_n hx hb dX12_doThing_122 rfl (lv_at hl 0 rfl) ?_
    refine lv_aload_n hx hb dX12_doThing_123 rfl (lv_at hl 0 rfl) ?_
    refine g_get cx hw inX12 (ci := 11) rfl 14 (by decide) rfl (v := .ref (ad 8)) shm_0 rfl fl_X12_36 dX12_doThing_124 ?_
    refine lv_iload_n hx hb dX12_doThing_127 rfl (lv_at hl 1 rfl) ?_
    refine g_iald cx hw shm_8 h dX12_doThing_128 (fun h => ?_)
    refine lv_aload_n hx hb dX12_doThing_129 rfl (lv_at hl 0 rfl) ?_
    refine g_get cx hw inX12 (ci := 11) rfl 15 (by decide) rfl (v := .ref (ad 9)) shm_0 rfl fl_X12_39 dX12_doThing_130 ?_
    refine lv_iload_n hx hb dX12_doThing_133 rfl (lv_at hl 1 rfl) ?_
    refine g_iald cx hw shm_9 h dX12_doThing_134 (fun h => ?_)
    obtain ⟨μ6, gμ6, h⟩ := bw_some h
    refine g_callVV (As := [.int (μ.1 8 a1.toNatClampNeg), .int (μ.1 9 a1.toNatClampNeg)]) (rest := []) cx hw hA (t_X12_doCall l G ad (μ.1 8 a1.toNatClampNeg) (μ.1 9 a1.toNatClampNeg) μ gμ6) shm_0 rfl ml_X12_633 im_X12_doCall se_X12_doCall in_X12 co_X12_doCall rfl hd_X12_doCall rfl ⟨(Nat.le_of_ble_eq_true rfl), (Nat.le_of_ble_eq_true rfl)⟩ hl.1 rfl (Nat.le_of_ble_eq_true rfl) dX12_doThing_135 ⟨rfl, rfl⟩ (fun H locs hw => ?_)
    exact g_vret cx hr hlk hw h dX12_doThing_138
  rw [if_neg c5] at h
  by_cases c8 : (μ.1 7 a1.toNatClampNeg) = (4 : Int32)
  · rw [if_pos c8] at h
    have z9 := ev1.trans c8
    subst z9
    refine lv_tableIn (tgt := 122) hx hb dX12_doThing_6 (by decide +kernel) (by decide +kernel) rfl (by decide) ?_
    refine lv_aload_n hx hb dX12_doThing_122 rfl (lv_at hl 0 rfl) ?_
    refine lv_aload_n hx hb dX12_doThing_123 rfl (lv_at hl 0 rfl) ?_
    refine g_get cx hw inX12 (ci := 11) rfl 14 (by decide) rfl (v := .ref (ad 8)) shm_0 rfl fl_X12_36 dX12_doThing_124 ?_
    refine lv_iload_n hx hb dX12_doThing_127 rfl (lv_at hl 1 rfl) ?_
    refine g_iald cx hw shm_8 h dX12_doThing_128 (fun h => ?_)
    refine lv_aload_n hx hb dX12_doThing_129 rfl (lv_at hl 0 rfl) ?_
    refine g_get cx hw inX12 (ci := 11) rfl 15 (by decide) rfl (v := .ref (ad 9)) shm_0 rfl fl_X12_39 dX12_doThing_130 ?_
    refine lv_iload_n hx hb dX12_doThing_133 rfl (lv_at hl 1 rfl) ?_
    refine g_iald cx hw shm_9 h dX12_doThing_134 (fun h => ?_)
    obtain ⟨μ9, gμ9, h⟩ := bw_some h
    refine g_callVV (As := [.int (μ.1 8 a1.toNatClampNeg), .int (μ.1 9 a1.toNatClampNeg)]) (rest := []) cx hw hA (t_X12_doCall l G ad (μ.1 8 a1.toNatClampNeg) (μ.1 9 a1.toNatClampNeg) μ gμ9) shm_0 rfl ml_X12_633 im_X12_doCall se_X12_doCall in_X12 co_X12_doCall rfl hd_X12_doCall rfl ⟨(Nat.le_of_ble_eq_true rfl), (Nat.le_of_ble_eq_true rfl)⟩ hl.1 rfl (Nat.le_of_ble_eq_true rfl) dX12_doThing_135 ⟨rfl, rfl⟩ (fun H locs hw => ?_)
    exact g_vret cx hr hlk hw h dX12_doThing_138
  rw [if_neg c8] at h
  by_cases c11 : (μ.1 7 a1.toNatClampNeg) = (5 : Int32)
  · rw [if_pos c11] at h
    have z9 := ev1.trans c11
    subst z9
    refine lv_tableIn (tgt := 56) hx hb dX12_doThing_6 (by decide +kernel) (by decide +kernel) rfl (by decide) ?_
    refine lv_aload_n hx hb dX12_doThing_56 rfl (lv_at hl 0 rfl) ?_
    refine lv_aload_n hx hb dX12_doThing_57 rfl (lv_at hl 0 rfl) ?_
    refine g_get cx hw inX12 (ci := 11) rfl 14 (by decide) rfl (v := .ref (ad 8)) shm_0 rfl fl_X12_36 dX12_doThing_58 ?_
    refine lv_iload_n hx hb dX12_doThing_61 rfl (lv_at hl 1 rfl) ?_
    refine g_iald cx hw shm_8 h dX12_doThing_62 (fun h => ?_)
    obtain ⟨μ12, gμ12, h⟩ := bw_some h
    refine g_callVV (As := [.int (μ.1 8 a1.toNatClampNeg)]) (rest := []) cx hw hA (t_X12_doSign l G ad (μ.1 8 a1.toNatClampNeg) μ gμ12) shm_0 rfl ml_X12_615 im_X12_doSign se_X12_doSign in_X12 co_X12_doSign rfl hd_X12_doSign rfl ⟨(Nat.le_of_ble_eq_true rfl), (Nat.le_of_ble_eq_true rfl)⟩ hl.1 rfl (Nat.le_of_ble_eq_true rfl) dX12_doThing_63 ⟨rfl, rfl⟩ (fun H locs hw => ?_)
    refine lv_goto (tgt := 138) hx hb dX12_doThing_66 (by decide) ?_
    exact g_vret cx hr hlk hw h dX12_doThing_138
  rw [if_neg c11] at h
  by_cases c14 : (μ.1 7 a1.toNatClampNeg) = (6 : Int32)
  · rw [if_pos c14] at h
    have z9 := ev1.trans c14
    subst z9
    refine lv_tableIn (tgt := 69) hx hb dX12_doThing_6 (by decide +kernel) (by decide +kernel) rfl (by decide) ?_
    refine lv_aload_n hx hb dX12_doThing_69 rfl (lv_at hl 0 rfl) ?_
    refine lv_aload_n hx hb dX12_doThing_70 rfl (lv_at hl 0 rfl) ?_
    refine g_get cx hw inX12 (ci := 11) rfl 14 (by decide) rfl (v := .ref (ad 8)) shm_0 rfl fl_X12_36 dX12_doThing_71 ?_
    refine lv_iload_n hx hb dX12_doThing_74 rfl (lv_at hl 1 rfl) ?_
    refine g_iald cx hw shm_8 h dX12_doThing_75 (fun h => ?_)
    obtain ⟨μ15, gμ15, h⟩ := bw_some h
    refine g_callVV (As := [.int (μ.1 8 a1.toNatClampNeg)]) (rest := []) cx hw hA (t_X12_doOne l G ad (μ.1 8 a1.toNatClampNeg) μ gμ15) shm_0 rfl ml_X12_618 im_X12_doOne se_X12_doOne in_X12 co_X12_doOne rfl hd_X12_doOne rfl ⟨(Nat.le_of_ble_eq_true rfl), (Nat.le_of_ble_eq_true rfl)⟩ hl.1 rfl (Nat.le_of_ble_eq_true rfl) dX12_doThing_76 ⟨rfl, rfl⟩ (fun H locs hw => ?_)
    refine lv_goto (tgt := 138) hx hb dX12_doThing_79 (by decide) ?_
    exact g_vret cx hr hlk hw h dX12_doThing_138
  rw [if_neg c14] at h
  by_cases c17 : (μ.1 7 a1.toNatClampNeg) = (7 : Int32)
  · rw [if_pos c17] at h
    have z9 := ev1.trans c17
    subst z9
    refine lv_tableIn (tgt := 122) hx hb dX12_doThing_6 (by decide +kernel) (by decide +kernel) rfl (by decide) ?_
    refine lv_aload_n hx hb dX12_doThing_122 rfl (lv_at hl 0 rfl) ?_
    refine lv_aload_n hx hb dX12_doThing_123 rfl (lv_at hl 0 rfl) ?_
    refine g_get cx hw inX12 (ci := 11) rfl 14 (by decide) rfl (v := .ref (ad 8)) shm_0 rfl fl_X12_36 dX12_doThing_124 ?_
    refine lv_iload_n hx hb dX12_doThing_127 rfl (lv_at hl 1 rfl) ?_
    refine g_iald cx hw shm_8 h dX12_doThing_128 (fun h => ?_)
    refine lv_aload_n hx hb dX12_doThing_129 rfl (lv_at hl 0 rfl) ?_
    refine g_get cx hw inX12 (ci := 11) rfl 15 (by decide) rfl (v := .ref (ad 9)) shm_0 rfl fl_X12_39 dX12_doThing_130 ?_
    refine lv_iload_n hx hb dX12_doThing_133 rfl (lv_at hl 1 rfl) ?_
    refine g_iald cx hw shm_9 h dX12_doThing_134 (fun h => ?_)
    obtain ⟨μ18, gμ18, h⟩ := bw_some h
    refine g_callVV (As := [.int (μ.1 8 a1.toNatClampNeg), .int (μ.1 9 a1.toNatClampNeg)]) (rest := []) cx hw hA (t_X12_doCall l G ad (μ.1 8 a1.toNatClampNeg) (μ.1 9 a1.toNatClampNeg) μ gμ18) shm_0 rfl ml_X12_633 im_X12_doCall se_X12_doCall in_X12 co_X12_doCall rfl hd_X12_doCall rfl ⟨(Nat.le_of_ble_eq_true rfl), (Nat.le_of_ble_eq_true rfl)⟩ hl.1 rfl (Nat.le_of_ble_eq_true rfl) dX12_doThing_135 ⟨rfl, rfl⟩ (fun H locs hw => ?_)
    exact g_vret cx hr hlk hw h dX12_doThing_138
  rw [if_neg c17] at h
  by_cases c20 : (μ.1 7 a1.toNatClampNeg) = (8 : Int32)
  · rw [if_pos c20] at h
    have z9 := ev1.trans c20
    subst z9
    refine lv_tableIn (tgt := 89) hx hb dX12_doThing_6 (by decide +kernel) (by decide +kernel) rfl (by decide) ?_
    refine lv_aload_n hx hb dX12_doThing_89 rfl (lv_at hl 0 rfl) ?_
    obtain ⟨μ21, gμ21, h⟩ := bw_some h
    refine g_callVV (As := []) (rest := []) cx hw hA (t_X12_doOut l G ad μ gμ21) shm_0 rfl ml_X12_624 im_X12_doOut se_X12_doOut in_X12 co_X12_doOut rfl hd_X12_doOut rfl ⟨(Nat.le_of_ble_eq_true rfl), (Nat.le_of_ble_eq_true rfl)⟩ hl.1 rfl (Nat.le_of_ble_eq_true rfl) dX12_doThing_90 ⟨rfl, rfl⟩ (fun H locs hw => ?_)
    refine lv_goto (tgt := 138) hx hb dX12_doThing_93 (by decide) ?_
    exact g_vret cx hr hlk hw h dX12_doThing_138
  rw [if_neg c20] at h
  by_cases c23 : (μ.1 7 a1.toNatClampNeg) = (9 : Int32)
  · rw [if_pos c23] at h
    have z9 := ev1.trans c23
    subst z9
    refine lv_tableIn (tgt := 96) hx hb dX12_doThing_6 (by decide +kernel) (by decide +kernel) rfl (by decide) ?_
    refine lv_aload_n hx hb dX12_doThing_96 rfl (lv_at hl 0 rfl) ?_
    refine lv_aload_n hx hb dX12_doThing_97 rfl (lv_at hl 0 rfl) ?_
    refine g_get cx hw inX12 (ci := 11) rfl 14 (by decide) rfl (v := .ref (ad 8)) shm_0 rfl fl_X12_36 dX12_doThing_98 ?_
    refine lv_iload_n hx hb dX12_doThing_101 rfl (lv_at hl 1 rfl) ?_
    refine g_iald cx hw shm_8 h dX12_doThing_102 (fun h => ?_)
    obtain ⟨μ24, gμ24, h⟩ := bw_some h
    refine g_callVV (As := [.int (μ.1 8 a1.toNatClampNeg)]) (rest := []) cx hw hA (t_X12_doPut l G ad (μ.1 8 a1.toNatClampNeg) μ gμ24) shm_0 rfl ml_X12_627 im_X12_doPut se_X12_doPut in_X12 co_X12_doPut rfl hd_X12_doPut rfl ⟨(Nat.le_of_ble_eq_true rfl), (Nat.le_of_ble_eq_true rfl)⟩ hl.1 rfl (Nat.le_of_ble_eq_true rfl) dX12_doThing_103 ⟨rfl, rfl⟩ (fun H locs hw => ?_)
    refine lv_goto (tgt := 138) hx hb dX12_doThing_106 (by decide) ?_
    exact g_vret cx hr hlk hw h dX12_doThing_138
  rw [if_neg c23] at h
  by_cases c26 : (μ.1 7 a1.toNatClampNeg) = (10 : Int32)
  · rw [if_pos c26] at h
    have z9 := ev1.trans c26
    subst z9
    refine lv_tableIn (tgt := 109) hx hb dX12_doThing_6 (by decide +kernel) (by decide +kernel) rfl (by decide) ?_
    refine lv_aload_n hx hb dX12_doThing_109 rfl (lv_at hl 0 rfl) ?_
    refine lv_aload_n hx hb dX12_doThing_110 rfl (lv_at hl 0 rfl) ?_
    refine g_get cx hw inX12 (ci := 11) rfl 14 (by decide) rfl (v := .ref (ad 8)) shm_0 rfl fl_X12_36 dX12_doThing_111 ?_
    refine lv_iload_n hx hb dX12_doThing_114 rfl (lv_at hl 1 rfl) ?_
    refine g_iald cx hw shm_8 h dX12_doThing_115 (fun h => ?_)
    obtain ⟨μ27, gμ27, h⟩ := bw_some h
    refine g_callVV (As := [.int (μ.1 8 a1.toNatClampNeg)]) (rest := []) cx hw hA (t_X12_doGet l G ad (μ.1 8 a1.toNatClampNeg) μ gμ27) shm_0 rfl ml_X12_630 im_X12_doGet se_X12_doGet in_X12 co_X12_doGet rfl hd_X12_doGet rfl ⟨(Nat.le_of_ble_eq_true rfl), (Nat.le_of_ble_eq_true rfl)⟩ hl.1 rfl (Nat.le_of_ble_eq_true rfl) dX12_doThing_116 ⟨rfl, rfl⟩ (fun H locs hw => ?_)
    refine lv_goto (tgt := 138) hx hb dX12_doThing_119 (by decide) ?_
    exact g_vret cx hr hlk hw h dX12_doThing_138
  rw [if_neg c26] at h
  rw [ev1]
  refine lv_tableOut (tgt := 122) hx hb dX12_doThing_6 (sw_out (L := [(2 : Int32), (3 : Int32), (4 : Int32), (5 : Int32), (6 : Int32), (7 : Int32), (8 : Int32), (9 : Int32), (10 : Int32)]) (by decide +kernel) (by simp only [List.forall_mem_cons]; exact ⟨c2, c5, c8, c11, c14, c17, c20, c23, c26, fun _ q => absurd q List.not_mem_nil⟩)) (by decide) ?_
  refine lv_aload_n hx hb dX12_doThing_122 rfl (lv_at hl 0 rfl) ?_
  refine lv_aload_n hx hb dX12_doThing_123 rfl (lv_at hl 0 rfl) ?_
  refine g_get cx hw inX12 (ci := 11) rfl 14 (by decide) rfl (v := .ref (ad 8)) shm_0 rfl fl_X12_36 dX12_doThing_124 ?_
  refine lv_iload_n hx hb dX12_doThing_127 rfl (lv_at hl 1 rfl) ?_
  refine g_iald cx hw shm_8 h dX12_doThing_128 (fun h => ?_)
  refine lv_aload_n hx hb dX12_doThing_129 rfl (lv_at hl 0 rfl) ?_
  refine g_get cx hw inX12 (ci := 11) rfl 15 (by decide) rfl (v := .ref (ad 9)) shm_0 rfl fl_X12_39 dX12_doThing_130 ?_
  refine lv_iload_n hx hb dX12_doThing_133 rfl (lv_at hl 1 rfl) ?_
  refine g_iald cx hw shm_9 h dX12_doThing_134 (fun h => ?_)
  obtain ⟨μ29, gμ29, h⟩ := bw_some h
  refine g_callVV (As := [.int (μ.1 8 a1.toNatClampNeg), .int (μ.1 9 a1.toNatClampNeg)]) (rest := []) cx hw hA (t_X12_doCall l G ad (μ.1 8 a1.toNatClampNeg) (μ.1 9 a1.toNatClampNeg) μ gμ29) shm_0 rfl ml_X12_633 im_X12_doCall se_X12_doCall in_X12 co_X12_doCall rfl hd_X12_doCall rfl ⟨(Nat.le_of_ble_eq_true rfl), (Nat.le_of_ble_eq_true rfl)⟩ hl.1 rfl (Nat.le_of_ble_eq_true rfl) dX12_doThing_135 ⟨rfl, rfl⟩ (fun H locs hw => ?_)
  exact g_vret cx hr hlk hw h dX12_doThing_138

theorem p_X12_choose_ex : ∃ f : Int32 → Mem → Option Mem, ∀ (a1 : Int32) (μ : Mem), f a1 μ = bd (p_X12_gone μ) (fun r2 μ1 => bd (p_X12_num r2 μ1) (fun r4 μ3 => gd (inb (a1 + (1 : Int32)) 800) (bv (μ3.1 10 (a1 + (1 : Int32)).toNatClampNeg) (fun v5 => bd (p_X12_isKnown r4 μ3) (fun r7 μ6 => (if r7 = (0 : Int32) then bd (p_X12_item (6 : Int32) μ6) (fun r10 μ9 => bw (p_X12_operand r10 r4 μ9) (fun μ11 => bv (sF μ11 0 90 ((μ11.1 0 90) + (1 : Int32))) (fun μ13 => gd (inb v5 800) (bw (p_X12_push (6 : Int32) r10 (μ13.1 10 v5.toNatClampNeg) μ13) (fun μ14 => bw (p_X12_push (0 : Int32) v5 (0 : Int32) μ14) (fun μ16 => some μ16)))))) else gd (inb r4 100000) (gd (inb r4 100000) ((if (s_X12_isTrue (μ6.1 30 r4.toNatClampNeg) (μ6.1 31 r4.toNatClampNeg)) = (0 : Int32) then gd (inb v5 800) (bw (p_X12_push (0 : Int32) (μ6.1 10 v5.toNatClampNeg) (0 : Int32) μ6) (fun μ19 => some μ19)) else bw (p_X12_push (0 : Int32) v5 (0 : Int32) μ6) (fun μ21 => some μ21)))))))))) := ⟨fun (a1 : Int32) (μ : Mem) => bd (p_X12_gone μ) (fun r2 μ1 => bd (p_X12_num r2 μ1) (fun r4 μ3 => gd (inb (a1 + (1 : Int32)) 800) (bv (μ3.1 10 (a1 + (1 : Int32)).toNatClampNeg) (fun v5 => bd (p_X12_isKnown r4 μ3) (fun r7 μ6 => (if r7 = (0 : Int32) then bd (p_X12_item (6 : Int32) μ6) (fun r10 μ9 => bw (p_X12_operand r10 r4 μ9) (fun μ11 => bv (sF μ11 0 90 ((μ11.1 0 90) + (1 : Int32))) (fun μ13 => gd (inb v5 800) (bw (p_X12_push (6 : Int32) r10 (μ13.1 10 v5.toNatClampNeg) μ13) (fun μ14 => bw (p_X12_push (0 : Int32) v5 (0 : Int32) μ14) (fun μ16 => some μ16)))))) else gd (inb r4 100000) (gd (inb r4 100000) ((if (s_X12_isTrue (μ6.1 30 r4.toNatClampNeg) (μ6.1 31 r4.toNatClampNeg)) = (0 : Int32) then gd (inb v5 800) (bw (p_X12_push (0 : Int32) (μ6.1 10 v5.toNatClampNeg) (0 : Int32) μ6) (fun μ19 => some μ19)) else bw (p_X12_push (0 : Int32) v5 (0 : Int32) μ6) (fun μ21 => some μ21)))))))))), fun _ _ => rfl⟩
noncomputable def p_X12_choose : Int32 → Mem → Option Mem := Classical.choose p_X12_choose_ex
theorem p_X12_choose_eq (a1 : Int32) (μ : Mem) : p_X12_choose a1 μ = bd (p_X12_gone μ) (fun r2 μ1 => bd (p_X12_num r2 μ1) (fun r4 μ3 => gd (inb (a1 + (1 : Int32)) 800) (bv (μ3.1 10 (a1 + (1 : Int32)).toNatClampNeg) (fun v5 => bd (p_X12_isKnown r4 μ3) (fun r7 μ6 => (if r7 = (0 : Int32) then bd (p_X12_item (6 : Int32) μ6) (fun r10 μ9 => bw (p_X12_operand r10 r4 μ9) (fun μ11 => bv (sF μ11 0 90 ((μ11.1 0 90) + (1 : Int32))) (fun μ13 => gd (inb v5 800) (bw (p_X12_push (6 : Int32) r10 (μ13.1 10 v5.toNatClampNeg) μ13) (fun μ14 => bw (p_X12_push (0 : Int32) v5 (0 : Int32) μ14) (fun μ16 => some μ16)))))) else gd (inb r4 100000) (gd (inb r4 100000) ((if (s_X12_isTrue (μ6.1 30 r4.toNatClampNeg) (μ6.1 31 r4.toNatClampNeg)) = (0 : Int32) then gd (inb v5 800) (bw (p_X12_push (0 : Int32) (μ6.1 10 v5.toNatClampNeg) (0 : Int32) μ6) (fun μ19 => some μ19)) else bw (p_X12_push (0 : Int32) v5 (0 : Int32) μ6) (fun μ21 => some μ21)))))))))) := Classical.choose_spec p_X12_choose_ex a1 μ
set_option maxHeartbeats 4000000 in
set_option maxRecDepth 100000 in
theorem t_X12_choose (l : Launch) (G : Gt) (ad : Nat → Nat) (a1 : Int32) (μ : Mem) {μz : Mem} (h : p_X12_choose a1 μ = some μz) : Mt l yX12_choose cX12_choose 5 none ({ frames := 1, cells := 0, slots := 0, locals := 23 } : Room) G [.ref (ad 0), .int a1] (wd 1 G ad μ) (eV 1 G ad μz) := by
  refine Bk.mt (by decide) rfl (Nat.le_of_ble_eq_true rfl) ?_
  intro p e s m below meth c A ls H locs cx hr hlk hA hl hw
  have hx := cx.1
  have hb := cx.2.1
  have hl : lv_has ls 5 [(0, .ref (ad 0)), (1, .int a1)] := hl
  rw [p_X12_choose_eq] at h
  refine lv_aload_n hx hb dX12_choose_0 rfl (lv_at hl 0 rfl) ?_
  refine lv_aload_n hx hb dX12_choose_1 rfl (lv_at hl 0 rfl) ?_
  obtain ⟨r2, μ1, gr2, h⟩ := bd_some h
  refine g_callVI (As := []) (rest := [.ref (ad 0)]) cx hw hA (t_X12_gone l G ad μ gr2) shm_0 rfl ml_X12_594 im_X12_gone se_X12_gone in_X12 co_X12_gone rfl hd_X12_gone rfl ⟨(Nat.le_of_ble_eq_true rfl), (Nat.le_of_ble_eq_true rfl)⟩ hl.1 rfl (Nat.le_of_ble_eq_true rfl) dX12_choose_2 ⟨rfl, rfl⟩ (fun H locs hw => ?_)
  obtain ⟨r4, μ3, gr4, h⟩ := bd_some h
  refine g_callVI (As := [.int r2]) (rest := []) cx hw hA (t_X12_num l G ad r2 μ1 gr4) shm_0 rfl ml_X12_597 im_X12_num se_X12_num in_X12 co_X12_num rfl hd_X12_num rfl ⟨(Nat.le_of_ble_eq_true rfl), (Nat.le_of_ble_eq_true rfl)⟩ hl.1 rfl (Nat.le_of_ble_eq_true rfl) dX12_choose_5 ⟨rfl, rfl⟩ (fun H locs hw => ?_)
  refine lv_istore_n (lv' := [(2, .int r4), (0, .ref (ad 0)), (1, .int a1)]) hx hb dX12_choose_8 rfl hl (by decide) rfl (fun ls hl => ?_)
  refine lv_aload_n hx hb dX12_choose_9 rfl (lv_at hl 1 rfl) ?_
  refine g_get cx hw inX12 (ci := 11) rfl 16 (by decide) rfl (v := .ref (ad 10)) shm_0 rfl fl_X12_42 dX12_choose_10 ?_
  refine lv_iload_n hx hb dX12_choose_13 rfl (lv_at hl 2 rfl) ?_
  refine lv_iconst (v := 1) hx hb dX12_choose_14 (by decide) ?_
  refine lv_iadd hx hb dX12_choose_15 ?_
  refine g_iald cx hw shm_10 h dX12_choose_16 (fun h => ?_)
  obtain ⟨v5, ev5, h⟩ := bv_ex h
  refine lv_topi (fun y9 z9 => ?_)
  obtain rfl : v5 = y9 := ev5.trans z9.symm
  refine lv_istore_n (lv' := [(3, .int v5), (2, .int r4), (0, .ref (ad 0)), (1, .int a1)]) hx hb dX12_choose_17 rfl hl (by decide) rfl (fun ls hl => ?_)
  refine lv_aload_n hx hb dX12_choose_18 rfl (lv_at hl 2 rfl) ?_
  refine lv_iload_n hx hb dX12_choose_19 rfl (lv_at hl 1 rfl) ?_
  obtain ⟨r7, μ6, gr7, h⟩ := bd_some h
  refine g_callVI (As := [.int r4]) (rest := []) cx hw hA (t_X12_isKnown l G ad r4 μ3 gr7) shm_0 rfl ml_X12_600 im_X12_isKnown se_X12_isKnown in_X12 co_X12_isKnown rfl hd_X12_isKnown rfl ⟨(Nat.le_of_ble_eq_true rfl), (Nat.le_of_ble_eq_true rfl)⟩ hl.1 rfl (Nat.le_of_ble_eq_true rfl) dX12_choose_20 ⟨rfl, rfl⟩ (fun H locs hw => ?_)
  refine lv_if_eq (tgt := 61) hx hb dX12_choose_23 (by decide) (fun c8 => ?_) (fun c8 => ?_)
  · rw [if_pos c8] at h
    refine lv_aload_n hx hb dX12_choose_61 rfl (lv_at hl 2 rfl) ?_
    refine lv_bipush (v := 6) hx hb dX12_choose_62 (by decide) ?_
    obtain ⟨r10, μ9, gr10, h⟩ := bd_some h
    refine g_callVI (As := [.int 6]) (rest := []) cx hw hA (t_X12_item l G ad (6 : Int32) μ6 gr10) shm_0 rfl ml_X12_606 im_X12_item se_X12_item in_X12 co_X12_item rfl hd_X12_item rfl ⟨(Nat.le_of_ble_eq_true rfl), (Nat.le_of_ble_eq_true rfl)⟩ hl.1 rfl (Nat.le_of_ble_eq_true rfl) dX12_choose_64 ⟨rfl, rfl⟩ (fun H locs hw => ?_)
    refine lv_istore (lv' := [(4, .int r10), (3, .int v5), (2, .int r4), (0, .ref (ad 0)), (1, .int a1)]) hx hb dX12_choose_67 hl (by decide) rfl (fun ls hl => ?_)
    refine lv_aload_n hx hb dX12_choose_69 rfl (lv_at hl 3 rfl) ?_
    refine lv_iload hx hb dX12_choose_70 (lv_at hl 0 rfl) ?_
    refine lv_iload_n hx hb dX12_choose_72 rfl (lv_at hl 2 rfl) ?_
    obtain ⟨μ11, gμ11, h⟩ := bw_some h
    refine g_callVV (As := [.int r10, .int r4]) (rest := []) cx hw hA (t_X12_operand l G ad r10 r4 μ9 gμ11) shm_0 rfl ml_X12_609 im_X12_operand se_X12_operand in_X12 co_X12_operand rfl hd_X12_operand rfl ⟨(Nat.le_of_ble_eq_true rfl), (Nat.le_of_ble_eq_true rfl)⟩ hl.1 rfl (Nat.le_of_ble_eq_true rfl) dX12_choose_73 ⟨rfl, rfl⟩ (fun H locs hw => ?_)
    refine lv_aload_n hx hb dX12_choose_76 rfl (lv_at hl 3 rfl) ?_
    refine lv_dup hx hb dX12_choose_77 rfl ?_
    refine g_get cx hw inX12 (ci := 11) rfl 90 (by decide) rfl (v := .int (μ11.1 0 90)) shm_0 rfl fl_X12_612 dX12_choose_78 ?_
    refine lv_iconst (v := 1) hx hb dX12_choose_81 (by decide) ?_
    refine lv_iadd hx hb dX12_choose_82 ?_
    refine g_put cx hw inX12 (ci := 11) rfl tyX12_ok nmX12 90 (by decide) rfl rfl rfl rfl shm_0 h fl_X12_612 dX12_choose_83 (fun μ13 H locs h hw => ?_)
    refine lv_aload_n hx hb dX12_choose_86 rfl (lv_at hl 3 rfl) ?_
    refine lv_bipush (v := 6) hx hb dX12_choose_87 (by decide) ?_
    refine lv_iload hx hb dX12_choose_89 (lv_at hl 0 rfl) ?_
    refine lv_aload_n hx hb dX12_choose_91 rfl (lv_at hl 3 rfl) ?_
    refine g_get cx hw inX12 (ci := 11) rfl 16 (by decide) rfl (v := .ref (ad 10)) shm_0 rfl fl_X12_42 dX12_choose_92 ?_
    refine lv_iload_n hx hb dX12_choose_95 rfl (lv_at hl 1 rfl) ?_
    refine g_iald cx hw shm_10 h dX12_choose_96 (fun h => ?_)
    obtain ⟨μ14, gμ14, h⟩ := bw_some h
    refine g_callVV (As := [.int 6, .int r10, .int (μ13.1 10 v5.toNatClampNeg)]) (rest := []) cx hw hA (t_X12_push l G ad (6 : Int32) r10 (μ13.1 10 v5.toNatClampNeg) μ13 gμ14) shm_0 rfl ml_X12_588 im_X12_push se_X12_push in_X12 co_X12_push rfl hd_X12_push rfl ⟨(Nat.le_of_ble_eq_true rfl), (Nat.le_of_ble_eq_true rfl)⟩ hl.1 rfl (Nat.le_of_ble_eq_true rfl) dX12_choose_97 ⟨rfl, rfl⟩ (fun H locs hw => ?_)
    refine lv_aload_n hx hb dX12_choose_100 rfl (lv_at hl 3 rfl) ?_
    refine lv_iconst (v := 0) hx hb dX12_choose_101 (by decide) ?_
    refine lv_iload_n hx hb dX12_choose_102 rfl (lv_at hl 1 rfl) ?_
    refine lv_iconst (v := 0) hx hb dX12_choose_103 (by decide) ?_
    obtain ⟨μ16, gμ16, h⟩ := bw_some h
    refine g_callVV (As := [.int 0, .int v5, .int 0]) (rest := []) cx hw hA (t_X12_push l G ad (0 : Int32) v5 (0 : Int32) μ14 gμ16) shm_0 rfl ml_X12_588 im_X12_push se_X12_push in_X12 co_X12_push rfl hd_X12_push rfl ⟨(Nat.le_of_ble_eq_true rfl), (Nat.le_of_ble_eq_true rfl)⟩ hl.1 rfl (Nat.le_of_ble_eq_true rfl) dX12_choose_104 ⟨rfl, rfl⟩ (fun H locs hw => ?_)
    exact g_vret cx hr hlk hw h dX12_choose_107
  · rw [if_neg c8] at h
    refine lv_aload_n hx hb dX12_choose_26 rfl (lv_at hl 2 rfl) ?_
    refine lv_iconst (v := 0) hx hb dX12_choose_27 (by decide) ?_
    refine lv_aload_n hx hb dX12_choose_28 rfl (lv_at hl 2 rfl) ?_
    refine g_get cx hw inX12 (ci := 11) rfl 51 (by decide) rfl (v := .ref (ad 30)) shm_0 rfl fl_X12_106 dX12_choose_29 ?_
    refine lv_iload_n hx hb dX12_choose_32 rfl (lv_at hl 1 rfl) ?_
    refine g_iald cx hw shm_30 h dX12_choose_33 (fun h => ?_)
    refine lv_aload_n hx hb dX12_choose_34 rfl (lv_at hl 2 rfl) ?_
    refine g_get cx hw inX12 (ci := 11) rfl 52 (by decide) rfl (v := .ref (ad 31)) shm_0 rfl fl_X12_109 dX12_choose_35 ?_
    refine lv_iload_n hx hb dX12_choose_38 rfl (lv_at hl 1 rfl) ?_
    refine g_iald cx hw shm_31 h dX12_choose_39 (fun h => ?_)
    refine s_callI (As := [.int (μ6.1 30 r4.toNatClampNeg), .int (μ6.1 31 r4.toNatClampNeg)]) (rest := [.int 0, .ref (ad 0)]) cx hw hA (t_X12_isTrue l G (μ6.1 30 r4.toNatClampNeg) (μ6.1 31 r4.toNatClampNeg)) ml_X12_603 st_X12_isTrue in_X12 co_X12_isTrue hd_X12_isTrue rfl ⟨(Nat.le_of_ble_eq_true rfl), (Nat.le_of_ble_eq_true rfl)⟩ hl.1 rfl (Nat.le_of_ble_eq_true rfl) dX12_choose_40 rfl (fun H locs hw => ?_)
    refine lv_if_eq (tgt := 50) hx hb dX12_choose_43 (by decide) (fun c18 => ?_) (fun c18 => ?_)
    · rw [if_pos c18] at h
      refine lv_aload_n hx hb dX12_choose_50 rfl (lv_at hl 2 rfl) ?_
      refine g_get cx hw inX12 (ci := 11) rfl 16 (by decide) rfl (v := .ref (ad 10)) shm_0 rfl fl_X12_42 dX12_choose_51 ?_
      refine lv_iload_n hx hb dX12_choose_54 rfl (lv_at hl 0 rfl) ?_
      refine g_iald cx hw shm_10 h dX12_choose_55 (fun h => ?_)
      refine lv_iconst (v := 0) hx hb dX12_choose_56 (by decide) ?_
      obtain ⟨μ19, gμ19, h⟩ := bw_some h
      refine g_callVV (As := [.int 0, .int (μ6.1 10 v5.toNatClampNeg), .int 0]) (rest := []) cx hw hA (t_X12_push l G ad (0 : Int32) (μ6.1 10 v5.toNatClampNeg) (0 : Int32) μ6 gμ19) shm_0 rfl ml_X12_588 im_X12_push se_X12_push in_X12 co_X12_push rfl hd_X12_push rfl ⟨(Nat.le_of_ble_eq_true rfl), (Nat.le_of_ble_eq_true rfl)⟩ hl.1 rfl (Nat.le_of_ble_eq_true rfl) dX12_choose_57 ⟨rfl, rfl⟩ (fun H locs hw => ?_)
      exact g_vret cx hr hlk hw h dX12_choose_60
    · rw [if_neg c18] at h
      refine lv_iload_n hx hb dX12_choose_46 rfl (lv_at hl 0 rfl) ?_
      refine lv_goto (tgt := 56) hx hb dX12_choose_47 (by decide) ?_
      refine lv_iconst (v := 0) hx hb dX12_choose_56 (by decide) ?_
      obtain ⟨μ21, gμ21, h⟩ := bw_some h
      refine g_callVV (As := [.int 0, .int v5, .int 0]) (rest := []) cx hw hA (t_X12_push l G ad (0 : Int32) v5 (0 : Int32) μ6 gμ21) shm_0 rfl ml_X12_588 im_X12_push se_X12_push in_X12 co_X12_push rfl hd_X12_push rfl ⟨(Nat.le_of_ble_eq_true rfl), (Nat.le_of_ble_eq_true rfl)⟩ hl.1 rfl (Nat.le_of_ble_eq_true rfl) dX12_choose_57 ⟨rfl, rfl⟩ (fun H locs hw => ?_)
      exact g_vret cx hr hlk hw h dX12_choose_60

theorem p_X12_bindVar_ex : ∃ f : Int32 → Mem → Option Mem, ∀ (a1 : Int32) (μ : Mem), f a1 μ = bd (p_X12_gone μ) (fun r2 μ1 => gd (inb a1 800) (gd (inb a1 800) (gd (inb ((μ1.1 0 67) + (μ1.1 8 a1.toNatClampNeg)) 500) (bw (p_X12_push (4 : Int32) (μ1.1 8 a1.toNatClampNeg) (μ1.1 41 ((μ1.1 0 67) + (μ1.1 8 a1.toNatClampNeg)).toNatClampNeg) μ1) (fun μ3 => gd (inb a1 800) (gd (inb ((μ3.1 0 67) + (μ3.1 8 a1.toNatClampNeg)) 500) (bv (sF μ3 41 ((μ3.1 0 67) + (μ3.1 8 a1.toNatClampNeg)).toNatClampNeg r2) (fun μ5 => gd (inb (a1 + (1 : Int32)) 800) (bw (p_X12_push (0 : Int32) (μ5.1 10 (a1 + (1 : Int32)).toNatClampNeg) (0 : Int32) μ5) (fun μ6 => some μ6)))))))))) := ⟨fun (a1 : Int32) (μ : Mem) => bd (p_X12_gone μ) (fun r2 μ1 => gd (inb a1 800) (gd (inb a1 800) (gd (inb ((μ1.1 0 67) + (μ1.1 8 a1.toNatClampNeg)) 500) (bw (p_X12_push (4 : Int32) (μ1.1 8 a1.toNatClampNeg) (μ1.1 41 ((μ1.1 0 67) + (μ1.1 8 a1.toNatClampNeg)).toNatClampNeg) μ1) (fun μ3 => gd (inb a1 800) (gd (inb ((μ3.1 0 67) + (μ3.1 8 a1.toNatClampNeg)) 500) (bv (sF μ3 41 ((μ3.1 0 67) + (μ3.1 8 a1.toNatClampNeg)).toNatClampNeg r2) (fun μ5 => gd (inb (a1 + (1 : Int32)) 800) (bw (p_X12_push (0 : Int32) (μ5.1 10 (a1 + (1 : Int32)).toNatClampNeg) (0 : Int32) μ5) (fun μ6 => some μ6)))))))))), fun _ _ => rfl⟩
noncomputable def p_X12_bindVar : Int32 → Mem → Option Mem := Classical.choose p_X12_bindVar_ex
theorem p_X12_bindVar_eq (a1 : Int32) (μ : Mem) : p_X12_bindVar a1 μ = bd (p_X12_gone μ) (fun r2 μ1 => gd (inb a1 800) (gd (inb a1 800) (gd (inb ((μ1.1 0 67) + (μ1.1 8 a1.toNatClampNeg)) 500) (bw (p_X12_push (4 : Int32) (μ1.1 8 a1.toNatClampNeg) (μ1.1 41 ((μ1.1 0 67) + (μ1.1 8 a1.toNatClampNeg)).toNatClampNeg) μ1) (fun μ3 => gd (inb a1 800) (gd (inb ((μ3.1 0 67) + (μ3.1 8 a1.toNatClampNeg)) 500) (bv (sF μ3 41 ((μ3.1 0 67) + (μ3.1 8 a1.toNatClampNeg)).toNatClampNeg r2) (fun μ5 => gd (inb (a1 + (1 : Int32)) 800) (bw (p_X12_push (0 : Int32) (μ5.1 10 (a1 + (1 : Int32)).toNatClampNeg) (0 : Int32) μ5) (fun μ6 => some μ6)))))))))) := Classical.choose_spec p_X12_bindVar_ex a1 μ
set_option maxHeartbeats 4000000 in
set_option maxRecDepth 100000 in
theorem t_X12_bindVar (l : Launch) (G : Gt) (ad : Nat → Nat) (a1 : Int32) (μ : Mem) {μz : Mem} (h : p_X12_bindVar a1 μ = some μz) : Mt l yX12_bindVar cX12_bindVar 3 none ({ frames := 1, cells := 0, slots := 0, locals := 23 } : Room) G [.ref (ad 0), .int a1] (wd 1 G ad μ) (eV 1 G ad μz) := by
  refine Bk.mt (by decide) rfl (Nat.le_of_ble_eq_true rfl) ?_
  intro p e s m below meth c A ls H locs cx hr hlk hA hl hw
  have hx := cx.1
  have hb := cx.2.1
  have hl : lv_has ls 3 [(0, .ref (ad 0)), (1, .int a1)] := hl
  rw [p_X12_bindVar_eq] at h
  refine lv_aload_n hx hb dX12_bindVar_0 rfl (lv_at hl 0 rfl) ?_
  obtain ⟨r2, μ1, gr2, h⟩ := bd_some h
  refine g_callVI (As := []) (rest := []) cx hw hA (t_X12_gone l G ad μ gr2) shm_0 rfl ml_X12_594 im_X12_gone se_X12_gone in_X12 co_X12_gone rfl hd_X12_gone rfl ⟨(Nat.le_of_ble_eq_true rfl), (Nat.le_of_ble_eq_true rfl)⟩ hl.1 rfl (Nat.le_of_ble_eq_true rfl) dX12_bindVar_1 ⟨rfl, rfl⟩ (fun H locs hw => ?_)
  refine lv_istore_n (lv' := [(2, .int r2), (0, .ref (ad 0)), (1, .int a1)]) hx hb dX12_bindVar_4 rfl hl (by decide) rfl (fun ls hl => ?_)
  refine lv_aload_n hx hb dX12_bindVar_5 rfl (lv_at hl 1 rfl) ?_
  refine lv_iconst (v := 4) hx hb dX12_bindVar_6 (by decide) ?_
  refine lv_aload_n hx hb dX12_bindVar_7 rfl (lv_at hl 1 rfl) ?_
  refine g_get cx hw inX12 (ci := 11) rfl 14 (by decide) rfl (v := .ref (ad 8)) shm_0 rfl fl_X12_36 dX12_bindVar_8 ?_
  refine lv_iload_n hx hb dX12_bindVar_11 rfl (lv_at hl 2 rfl) ?_
  refine g_iald cx hw shm_8 h dX12_bindVar_12 (fun h => ?_)
  refine lv_aload_n hx hb dX12_bindVar_13 rfl (lv_at hl 1 rfl) ?_
  refine g_get cx hw inX12 (ci := 11) rfl 64 (by decide) rfl (v := .ref (ad 41)) shm_0 rfl fl_X12_139 dX12_bindVar_14 ?_
  refine lv_aload_n hx hb dX12_bindVar_17 rfl (lv_at hl 1 rfl) ?_
  refine g_get cx hw inX12 (ci := 11) rfl 67 (by decide) rfl (v := .int (μ1.1 0 67)) shm_0 rfl fl_X12_554 dX12_bindVar_18 ?_
  refine lv_aload_n hx hb dX12_bindVar_21 rfl (lv_at hl 1 rfl) ?_
  refine g_get cx hw inX12 (ci := 11) rfl 14 (by decide) rfl (v := .ref (ad 8)) shm_0 rfl fl_X12_36 dX12_bindVar_22 ?_
  refine lv_iload_n hx hb dX12_bindVar_25 rfl (lv_at hl 2 rfl) ?_
  refine g_iald cx hw shm_8 h dX12_bindVar_26 (fun h => ?_)
  refine lv_iadd hx hb dX12_bindVar_27 ?_
  refine g_iald cx hw shm_41 h dX12_bindVar_28 (fun h => ?_)
  obtain ⟨μ3, gμ3, h⟩ := bw_some h
  refine g_callVV (As := [.int 4, .int (μ1.1 8 a1.toNatClampNeg), .int (μ1.1 41 ((μ1.1 0 67) + (μ1.1 8 a1.toNatClampNeg)).toNatClampNeg)]) (rest := []) cx hw hA (t_X12_push l G ad (4 : Int32) (μ1.1 8 a1.toNatClampNeg) (μ1.1 41 ((μ1.1 0 67) + (μ1.1 8 a1.toNatClampNeg)).toNatClampNeg) μ1 gμ3) shm_0 rfl ml_X12_588 im_X12_push se_X12_push in_X12 co_X12_push rfl hd_X12_push rfl ⟨(Nat.le_of_ble_eq_true rfl), (Nat.le_of_ble_eq_true rfl)⟩ hl.1 rfl (Nat.le_of_ble_eq_true rfl) dX12_bindVar_29 ⟨rfl, rfl⟩ (fun H locs hw => ?_)
  refine lv_aload_n hx hb dX12_bindVar_32 rfl (lv_at hl 1 rfl) ?_
  refine g_get cx hw inX12 (ci := 11) rfl 64 (by decide) rfl (v := .ref (ad 41)) shm_0 rfl fl_X12_139 dX12_bindVar_33 ?_
  refine lv_aload_n hx hb dX12_bindVar_36 rfl (lv_at hl 1 rfl) ?_
  refine g_get cx hw inX12 (ci := 11) rfl 67 (by decide) rfl (v := .int (μ3.1 0 67)) shm_0 rfl fl_X12_554 dX12_bindVar_37 ?_
  refine lv_aload_n hx hb dX12_bindVar_40 rfl (lv_at hl 1 rfl) ?_
  refine g_get cx hw inX12 (ci := 11) rfl 14 (by decide) rfl (v := .ref (ad 8)) shm_0 rfl fl_X12_36 dX12_bindVar_41 ?_
  refine lv_iload_n hx hb dX12_bindVar_44 rfl (lv_at hl 2 rfl) ?_
  refine g_iald cx hw shm_8 h dX12_bindVar_45 (fun h => ?_)
  refine lv_iadd hx hb dX12_bindVar_46 ?_
  refine lv_iload_n hx hb dX12_bindVar_47 rfl (lv_at hl 0 rfl) ?_
  refine g_iast cx hw shm_41 h dX12_bindVar_48 (fun μ5 H locs h hw => ?_)
  refine lv_aload_n hx hb dX12_bindVar_49 rfl (lv_at hl 1 rfl) ?_
  refine lv_iconst (v := 0) hx hb dX12_bindVar_50 (by decide) ?_
  refine lv_aload_n hx hb dX12_bindVar_51 rfl (lv_at hl 1 rfl) ?_
  refine g_get cx hw inX12 (ci := 11) rfl 16 (by decide) rfl (v := .ref (ad 10)) shm_0 rfl fl_X12_42 dX12_bindVar_52 ?_
  refine lv_iload_n hx hb dX12_bindVar_55 rfl (lv_at hl 2 rfl) ?_
  refine lv_iconst (v := 1) hx hb dX12_bindVar_56 (by decide) ?_
  refine lv_iadd hx hb dX12_bindVar_57 ?_
  refine g_iald cx hw shm_10 h dX12_bindVar_58 (fun h => ?_)
  refine lv_iconst (v := 0) hx hb dX12_bindVar_59 (by decide) ?_
  obtain ⟨μ6, gμ6, h⟩ := bw_some h
  refine g_callVV (As := [.int 0, .int (μ5.1 10 (a1 + (1 : Int32)).toNatClampNeg), .int 0]) (rest := []) cx hw hA (t_X12_push l G ad (0 : Int32) (μ5.1 10 (a1 + (1 : Int32)).toNatClampNeg) (0 : Int32) μ5 gμ6) shm_0 rfl ml_X12_588 im_X12_push se_X12_push in_X12 co_X12_push rfl hd_X12_push rfl ⟨(Nat.le_of_ble_eq_true rfl), (Nat.le_of_ble_eq_true rfl)⟩ hl.1 rfl (Nat.le_of_ble_eq_true rfl) dX12_bindVar_60 ⟨rfl, rfl⟩ (fun H locs hw => ?_)
  exact g_vret cx hr hlk hw h dX12_bindVar_63

theorem p_X12_leave_ex : ∃ f : Mem → Option Mem, ∀  (μ : Mem), f  μ = bv (sF μ 0 67 ((μ.1 0 67) - (14 : Int32))) (fun μ1 => (if (μ1.1 0 69) = (0 : Int32) then bv (sF μ1 0 76 ((μ1.1 0 76) - (1 : Int32))) (fun μ3 => some μ3) else bv (sF μ1 0 92 ((μ1.1 0 92) - (1 : Int32))) (fun μ4 => some μ4))) := ⟨fun  (μ : Mem) => bv (sF μ 0 67 ((μ.1 0 67) - (14 : Int32))) (fun μ1 => (if (μ1.1 0 69) = (0 : Int32) then bv (sF μ1 0 76 ((μ1.1 0 76) - (1 : Int32))) (fun μ3 => some μ3) else bv (sF μ1 0 92 ((μ1.1 0 92) - (1 : Int32))) (fun μ4 => some μ4))), fun _ => rfl⟩
noncomputable def p_X12_leave : Mem → Option Mem := Classical.choose p_X12_leave_ex
theorem p_X12_leave_eq  (μ : Mem) : p_X12_leave  μ = bv (sF μ 0 67 ((μ.1 0 67) - (14 : Int32))) (fun μ1 => (if (μ1.1 0 69) = (0 : Int32) then bv (sF μ1 0 76 ((μ1.1 0 76) - (1 : Int32))) (fun μ3 => some μ3) else bv (sF μ1 0 92 ((μ1.1 0 92) - (1 : Int32))) (fun μ4 => some μ4))) := Classical.choose_spec p_X12_leave_ex  μ
set_option maxHeartbeats 4000000 in
set_option maxRecDepth 100000 in
theorem t_X12_leave (l : Launch) (G : Gt) (ad : Nat → Nat)  (μ : Mem) {μz : Mem} (h : p_X12_leave  μ = some μz) : Mt l yX12_leave cX12_leave 1 none ({ frames := 0, cells := 0, slots := 0, locals := 0 } : Room) G [.ref (ad 0)] (wd 1 G ad μ) (eV 1 G ad μz) := by
  refine Bk.mt (by decide) rfl (Nat.le_of_ble_eq_true rfl) ?_
  intro p e s m below meth c A ls H locs cx hr hlk hA hl hw
  have hx := cx.1
  have hb := cx.2.1
  have hl : lv_has ls 1 [(0, .ref (ad 0))] := hl
  rw [p_X12_leave_eq] at h
  refine lv_aload_n hx hb dX12_leave_0 rfl (lv_at hl 0 rfl) ?_
  refine lv_dup hx hb dX12_leave_1 rfl ?_
  refine g_get cx hw inX12 (ci := 11) rfl 67 (by decide) rfl (v := .int (μ.1 0 67)) shm_0 rfl fl_X12_554 dX12_leave_2 ?_
  refine lv_bipush (v := 14) hx hb dX12_leave_5 (by decide) ?_
  refine lv_isub hx hb dX12_leave_7 ?_
  refine g_put cx hw inX12 (ci := 11) rfl tyX12_ok nmX12 67 (by decide) rfl rfl rfl rfl shm_0 h fl_X12_554 dX12_leave_8 (fun μ1 H locs h hw => ?_)
  refine lv_aload_n hx hb dX12_leave_11 rfl (lv_at hl 0 rfl) ?_
  refine g_get cx hw inX12 (ci := 11) rfl 69 (by decide) rfl (v := .int (μ1.1 0 69)) shm_0 rfl fl_X12_551 dX12_leave_12 ?_
  refine lv_if_eq (tgt := 31) hx hb dX12_leave_15 (by decide) (fun c2 => ?_) (fun c2 => ?_)
  · rw [if_pos c2] at h
    refine lv_aload_n hx hb dX12_leave_31 rfl (lv_at hl 0 rfl) ?_
    refine lv_dup hx hb dX12_leave_32 rfl ?_
    refine g_get cx hw inX12 (ci := 11) rfl 76 (by decide) rfl (v := .int (μ1.1 0 76)) shm_0 rfl fl_X12_661 dX12_leave_33 ?_
    refine lv_iconst (v := 1) hx hb dX12_leave_36 (by decide) ?_
    refine lv_isub hx hb dX12_leave_37 ?_
    refine g_put cx hw inX12 (ci := 11) rfl tyX12_ok nmX12 76 (by decide) rfl rfl rfl rfl shm_0 h fl_X12_661 dX12_leave_38 (fun μ3 H locs h hw => ?_)
    exact g_vret cx hr hlk hw h dX12_leave_41
  · rw [if_neg c2] at h
    refine lv_aload_n hx hb dX12_leave_18 rfl (lv_at hl 0 rfl) ?_
    refine lv_dup hx hb dX12_leave_19 rfl ?_
    refine g_get cx hw inX12 (ci := 11) rfl 92 (by decide) rfl (v := .int (μ1.1 0 92)) shm_0 rfl fl_X12_679 dX12_leave_20 ?_
    refine lv_iconst (v := 1) hx hb dX12_leave_23 (by decide) ?_
    refine lv_isub hx hb dX12_leave_24 ?_
    refine g_put cx hw inX12 (ci := 11) rfl tyX12_ok nmX12 92 (by decide) rfl rfl rfl rfl shm_0 h fl_X12_679 dX12_leave_25 (fun μ4 H locs h hw => ?_)
    refine lv_goto (tgt := 41) hx hb dX12_leave_28 (by decide) ?_
    exact g_vret cx hr hlk hw h dX12_leave_41

theorem p_X12_mark_ex : ∃ f : Int32 → Int32 → Mem → Option (Int32 × Mem), ∀ (a1 : Int32) (a2 : Int32) (μ : Mem), f a1 a2 μ = bd (p_X12_gone μ) (fun r2 μ1 => bd (p_X12_lift r2 μ1) (fun r4 μ3 => (if (μ3.1 0 68) = (0 : Int32) then bd (p_X12_item a1 μ3) (fun r7 μ6 => gd (inb r7 960) (bv (sF μ6 48 r7.toNatClampNeg a2) (fun μ8 => bw (p_X12_operand r7 r4 μ8) (fun μ9 => some (r4, μ9))))) else some (r4, μ3)))) := ⟨fun (a1 : Int32) (a2 : Int32) (μ : Mem) => bd (p_X12_gone μ) (fun r2 μ1 => bd (p_X12_lift r2 μ1) (fun r4 μ3 => (if (μ3.1 0 68) = (0 : Int32) then bd (p_X12_item a1 μ3) (fun r7 μ6 => gd (inb r7 960) (bv (sF μ6 48 r7.toNatClampNeg a2) (fun μ8 => bw (p_X12_operand r7 r4 μ8) (fun μ9 => some (r4, μ9))))) else some (r4, μ3)))), fun _ _ _ => rfl⟩
noncomputable def p_X12_mark : Int32 → Int32 → Mem → Option (Int32 × Mem) := Classical.choose p_X12_mark_ex
theorem p_X12_mark_eq (a1 : Int32) (a2 : Int32) (μ : Mem) : p_X12_mark a1 a2 μ = bd (p_X12_gone μ) (fun r2 μ1 => bd (p_X12_lift r2 μ1) (fun r4 μ3 => (if (μ3.1 0 68) = (0 : Int32) then bd (p_X12_item a1 μ3) (fun r7 μ6 => gd (inb r7 960) (bv (sF μ6 48 r7.toNatClampNeg a2) (fun μ8 => bw (p_X12_operand r7 r4 μ8) (fun μ9 => some (r4, μ9))))) else some (r4, μ3)))) := Classical.choose_spec p_X12_mark_ex a1 a2 μ
set_option maxHeartbeats 4000000 in
set_option maxRecDepth 100000 in
theorem t_X12_mark (l : Launch) (G : Gt) (ad : Nat → Nat) (a1 : Int32) (a2 : Int32) (μ : Mem) {r : Int32} {μz : Mem} (h : p_X12_mark a1 a2 μ = some (r, μz)) : Mt l yX12_mark cX12_mark 5 (some .int) ({ frames := 4, cells := 0, slots := 0, locals := 92 } : Room) G [.ref (ad 0), .int a1, .int a2] (wd 1 G ad μ) (eI 1 G ad r μz) := by
  refine Bk.mt (by decide) rfl (Nat.le_of_ble_eq_true rfl) ?_
  intro p e s m below meth c A ls H locs cx hr hlk hA hl hw
  have hx := cx.1
  have hb := cx.2.1
  have hl : lv_has ls 5 [(0, .ref (ad 0)), (1, .int a1), (2, .int a2)] := hl
  rw [p_X12_mark_eq] at h
  refine lv_aload_n hx hb dX12_mark_0 rfl (lv_at hl 0 rfl) ?_
  refine lv_aload_n hx hb dX12_mark_1 rfl (lv_at hl 0 rfl) ?_
  obtain ⟨r2, μ1, gr2, h⟩ := bd_some h
  refine g_callVI (As := []) (rest := [.ref (ad 0)]) cx hw hA (t_X12_gone l G ad μ gr2) shm_0 rfl ml_X12_594 im_X12_gone se_X12_gone in_X12 co_X12_gone rfl hd_X12_gone rfl ⟨(Nat.le_of_ble_eq_true rfl), (Nat.le_of_ble_eq_true rfl)⟩ hl.1 rfl (Nat.le_of_ble_eq_true rfl) dX12_mark_2 ⟨rfl, rfl⟩ (fun H locs hw => ?_)
  obtain ⟨r4, μ3, gr4, h⟩ := bd_some h
  refine g_callVI (As := [.int r2]) (rest := []) cx hw hA (t_X12_lift l G ad r2 μ1 gr4) shm_0 rfl ml_X12_701 im_X12_lift se_X12_lift in_X12 co_X12_lift rfl hd_X12_lift rfl ⟨(Nat.le_of_ble_eq_true rfl), (Nat.le_of_ble_eq_true rfl)⟩ hl.1 rfl (Nat.le_of_ble_eq_true rfl) dX12_mark_5 ⟨rfl, rfl⟩ (fun H locs hw => ?_)
  refine lv_istore_n (lv' := [(3, .int r4), (0, .ref (ad 0)), (1, .int a1), (2, .int a2)]) hx hb dX12_mark_8 rfl hl (by decide) rfl (fun ls hl => ?_)
  refine lv_aload_n hx hb dX12_mark_9 rfl (lv_at hl 1 rfl) ?_
  refine g_get cx hw inX12 (ci := 11) rfl 68 (by decide) rfl (v := .int (μ3.1 0 68)) shm_0 rfl fl_X12_557 dX12_mark_10 ?_
  refine lv_if_eq (tgt := 18) hx hb dX12_mark_13 (by decide) (fun c5 => ?_) (fun c5 => ?_)
  · rw [if_pos c5] at h
    refine lv_aload_n hx hb dX12_mark_18 rfl (lv_at hl 1 rfl) ?_
    refine lv_iload_n hx hb dX12_mark_19 rfl (lv_at hl 2 rfl) ?_
    obtain ⟨r7, μ6, gr7, h⟩ := bd_some h
    refine g_callVI (As := [.int a1]) (rest := []) cx hw hA (t_X12_item l G ad a1 μ3 gr7) shm_0 rfl ml_X12_606 im_X12_item se_X12_item in_X12 co_X12_item rfl hd_X12_item rfl ⟨(Nat.le_of_ble_eq_true rfl), (Nat.le_of_ble_eq_true rfl)⟩ hl.1 rfl (Nat.le_of_ble_eq_true rfl) dX12_mark_20 ⟨rfl, rfl⟩ (fun H locs hw => ?_)
    refine lv_istore (lv' := [(4, .int r7), (3, .int r4), (0, .ref (ad 0)), (1, .int a1), (2, .int a2)]) hx hb dX12_mark_23 hl (by decide) rfl (fun ls hl => ?_)
    refine lv_aload_n hx hb dX12_mark_25 rfl (lv_at hl 2 rfl) ?_
    refine g_get cx hw inX12 (ci := 11) rfl 80 (by decide) rfl (v := .ref (ad 48)) shm_0 rfl fl_X12_160 dX12_mark_26 ?_
    refine lv_iload hx hb dX12_mark_29 (lv_at hl 0 rfl) ?_
    refine lv_iload_n hx hb dX12_mark_31 rfl (lv_at hl 4 rfl) ?_
    refine g_iast cx hw shm_48 h dX12_mark_32 (fun μ8 H locs h hw => ?_)
    refine lv_aload_n hx hb dX12_mark_33 rfl (lv_at hl 2 rfl) ?_
    refine lv_iload hx hb dX12_mark_34 (lv_at hl 0 rfl) ?_
    refine lv_iload_n hx hb dX12_mark_36 rfl (lv_at hl 1 rfl) ?_
    obtain ⟨μ9, gμ9, h⟩ := bw_some h
    refine g_callVV (As := [.int r7, .int r4]) (rest := []) cx hw hA (t_X12_operand l G ad r7 r4 μ8 gμ9) shm_0 rfl ml_X12_609 im_X12_operand se_X12_operand in_X12 co_X12_operand rfl hd_X12_operand rfl ⟨(Nat.le_of_ble_eq_true rfl), (Nat.le_of_ble_eq_true rfl)⟩ hl.1 rfl (Nat.le_of_ble_eq_true rfl) dX12_mark_37 ⟨rfl, rfl⟩ (fun H locs hw => ?_)
    refine lv_iload_n hx hb dX12_mark_40 rfl (lv_at hl 1 rfl) ?_
    exact g_iret cx hr hlk hw h dX12_mark_41
  · rw [if_neg c5] at h
    refine lv_iload_n hx hb dX12_mark_16 rfl (lv_at hl 0 rfl) ?_
    exact g_iret cx hr hlk hw h dX12_mark_17

theorem p_X12_otherwise_ex : ∃ f : Int32 → Int32 → Mem → Option Mem, ∀ (a1 : Int32) (a2 : Int32) (μ : Mem), f a1 a2 μ = bd (p_X12_mark (13 : Int32) a1 μ) (fun r2 μ1 => (if (μ1.1 0 68) = (0 : Int32) then gd (inb a1 960) (bv (sF μ1 49 a1.toNatClampNeg ((μ1.1 0 87) - (1 : Int32))) (fun μ4 => bw (p_X12_push (7 : Int32) a1 r2 μ4) (fun μ5 => bw (p_X12_push (0 : Int32) a2 (0 : Int32) μ5) (fun μ7 => some μ7)))) else some μ1)) := ⟨fun (a1 : Int32) (a2 : Int32) (μ : Mem) => bd (p_X12_mark (13 : Int32) a1 μ) (fun r2 μ1 => (if (μ1.1 0 68) = (0 : Int32) then gd (inb a1 960) (bv (sF μ1 49 a1.toNatClampNeg ((μ1.1 0 87) - (1 : Int32))) (fun μ4 => bw (p_X12_push (7 : Int32) a1 r2 μ4) (fun μ5 => bw (p_X12_push (0 : Int32) a2 (0 : Int32) μ5) (fun μ7 => some μ7)))) else some μ1)), fun _ _ _ => rfl⟩
noncomputable def p_X12_otherwise : Int32 → Int32 → Mem → Option Mem := Classical.choose p_X12_otherwise_ex
theorem p_X12_otherwise_eq (a1 : Int32) (a2 : Int32) (μ : Mem) : p_X12_otherwise a1 a2 μ = bd (p_X12_mark (13 : Int32) a1 μ) (fun r2 μ1 => (if (μ1.1 0 68) = (0 : Int32) then gd (inb a1 960) (bv (sF μ1 49 a1.toNatClampNeg ((μ1.1 0 87) - (1 : Int32))) (fun μ4 => bw (p_X12_push (7 : Int32) a1 r2 μ4) (fun μ5 => bw (p_X12_push (0 : Int32) a2 (0 : Int32) μ5) (fun μ7 => some μ7)))) else some μ1)) := Classical.choose_spec p_X12_otherwise_ex a1 a2 μ
set_option maxHeartbeats 4000000 in
set_option maxRecDepth 100000 in
theorem t_X12_otherwise (l : Launch) (G : Gt) (ad : Nat → Nat) (a1 : Int32) (a2 : Int32) (μ : Mem) {μz : Mem} (h : p_X12_otherwise a1 a2 μ = some μz) : Mt l yX12_otherwise cX12_otherwise 4 none ({ frames := 5, cells := 0, slots := 0, locals := 116 } : Room) G [.ref (ad 0), .int a1, .int a2] (wd 1 G ad μ) (eV 1 G ad μz) := by
  refine Bk.mt (by decide) rfl (Nat.le_of_ble_eq_true rfl) ?_
  intro p e s m below meth c A ls H locs cx hr hlk hA hl hw
  have hx := cx.1
  have hb := cx.2.1
  have hl : lv_has ls 4 [(0, .ref (ad 0)), (1, .int a1), (2, .int a2)] := hl
  rw [p_X12_otherwise_eq] at h
  refine lv_aload_n hx hb dX12_otherwise_0 rfl (lv_at hl 0 rfl) ?_
  refine lv_bipush (v := 13) hx hb dX12_otherwise_1 (by decide) ?_
  refine lv_iload_n hx hb dX12_otherwise_3 rfl (lv_at hl 1 rfl) ?_
  obtain ⟨r2, μ1, gr2, h⟩ := bd_some h
  refine g_callVI (As := [.int 13, .int a1]) (rest := []) cx hw hA (t_X12_mark l G ad (13 : Int32) a1 μ gr2) shm_0 rfl ml_X12_704 im_X12_mark se_X12_mark in_X12 co_X12_mark rfl hd_X12_mark rfl ⟨(Nat.le_of_ble_eq_true rfl), (Nat.le_of_ble_eq_true rfl)⟩ hl.1 rfl (Nat.le_of_ble_eq_true rfl) dX12_otherwise_4 ⟨rfl, rfl⟩ (fun H locs hw => ?_)
  refine lv_istore_n (lv' := [(3, .int r2), (0, .ref (ad 0)), (1, .int a1), (2, .int a2)]) hx hb dX12_otherwise_7 rfl hl (by decide) rfl (fun ls hl => ?_)
  refine lv_aload_n hx hb dX12_otherwise_8 rfl (lv_at hl 1 rfl) ?_
  refine g_get cx hw inX12 (ci := 11) rfl 68 (by decide) rfl (v := .int (μ1.1 0 68)) shm_0 rfl fl_X12_557 dX12_otherwise_9 ?_
  refine lv_if_eq (tgt := 16) hx hb dX12_otherwise_12 (by decide) (fun c3 => ?_) (fun c3 => ?_)
  · rw [if_pos c3] at h
    refine lv_aload_n hx hb dX12_otherwise_16 rfl (lv_at hl 1 rfl) ?_
    refine g_get cx hw inX12 (ci := 11) rfl 81 (by decide) rfl (v := .ref (ad 49)) shm_0 rfl fl_X12_163 dX12_otherwise_17 ?_
    refine lv_iload_n hx hb dX12_otherwise_20 rfl (lv_at hl 2 rfl) ?_
    refine lv_aload_n hx hb dX12_otherwise_21 rfl (lv_at hl 1 rfl) ?_
    refine g_get cx hw inX12 (ci := 11) rfl 87 (by decide) rfl (v := .int (μ1.1 0 87)) shm_0 rfl fl_X12_682 dX12_otherwise_22 ?_
    refine lv_iconst (v := 1) hx hb dX12_otherwise_25 (by decide) ?_
    refine lv_isub hx hb dX12_otherwise_26 ?_
    refine g_iast cx hw shm_49 h dX12_otherwise_27 (fun μ4 H locs h hw => ?_)
    refine lv_aload_n hx hb dX12_otherwise_28 rfl (lv_at hl 1 rfl) ?_
    refine lv_bipush (v := 7) hx hb dX12_otherwise_29 (by decide) ?_
    refine lv_iload_n hx hb dX12_otherwise_31 rfl (lv_at hl 2 rfl) ?_
    refine lv_iload_n hx hb dX12_otherwise_32 rfl (lv_at hl 0 rfl) ?_
    obtain ⟨μ5, gμ5, h⟩ := bw_some h
    refine g_callVV (As := [.int 7, .int a1, .int r2]) (rest := []) cx hw hA (t_X12_push l G ad (7 : Int32) a1 r2 μ4 gμ5) shm_0 rfl ml_X12_588 im_X12_push se_X12_push in_X12 co_X12_push rfl hd_X12_push rfl ⟨(Nat.le_of_ble_eq_true rfl), (Nat.le_of_ble_eq_true rfl)⟩ hl.1 rfl (Nat.le_of_ble_eq_true rfl) dX12_otherwise_33 ⟨rfl, rfl⟩ (fun H locs hw => ?_)
    refine lv_aload_n hx hb dX12_otherwise_36 rfl (lv_at hl 1 rfl) ?_
    refine lv_iconst (v := 0) hx hb dX12_otherwise_37 (by decide) ?_
    refine lv_iload_n hx hb dX12_otherwise_38 rfl (lv_at hl 3 rfl) ?_
    refine lv_iconst (v := 0) hx hb dX12_otherwise_39 (by decide) ?_
    obtain ⟨μ7, gμ7, h⟩ := bw_some h
    refine g_callVV (As := [.int 0, .int a2, .int 0]) (rest := []) cx hw hA (t_X12_push l G ad (0 : Int32) a2 (0 : Int32) μ5 gμ7) shm_0 rfl ml_X12_588 im_X12_push se_X12_push in_X12 co_X12_push rfl hd_X12_push rfl ⟨(Nat.le_of_ble_eq_true rfl), (Nat.le_of_ble_eq_true rfl)⟩ hl.1 rfl (Nat.le_of_ble_eq_true rfl) dX12_otherwise_40 ⟨rfl, rfl⟩ (fun H locs hw => ?_)
    exact g_vret cx hr hlk hw h dX12_otherwise_43
  · rw [if_neg c3] at h
    exact g_vret cx hr hlk hw h dX12_otherwise_15

theorem p_X12_whole_b104_ex : ∃ f : Int32 → Int32 → Int32 → Mem → Option Mem, ∀ (a1 : Int32) (a2 : Int32) (k0 : Int32) (μ : Mem), f a1 a2 k0 μ = (if k0 = (0 : Int32) then bd (p_X12_registerOf a1 μ) (fun r13 μ12 => bw (p_X12_come r13 μ12) (fun μ14 => some μ14)) else bw (p_X12_come a2 μ) (fun μ16 => some μ16)) := ⟨fun (a1 : Int32) (a2 : Int32) (k0 : Int32) (μ : Mem) => (if k0 = (0 : Int32) then bd (p_X12_registerOf a1 μ) (fun r13 μ12 => bw (p_X12_come r13 μ12) (fun μ14 => some μ14)) else bw (p_X12_come a2 μ) (fun μ16 => some μ16)), fun _ _ _ _ => rfl⟩
noncomputable def p_X12_whole_b104 : Int32 → Int32 → Int32 → Mem → Option Mem := Classical.choose p_X12_whole_b104_ex
theorem p_X12_whole_b104_eq (a1 : Int32) (a2 : Int32) (k0 : Int32) (μ : Mem) : p_X12_whole_b104 a1 a2 k0 μ = (if k0 = (0 : Int32) then bd (p_X12_registerOf a1 μ) (fun r13 μ12 => bw (p_X12_come r13 μ12) (fun μ14 => some μ14)) else bw (p_X12_come a2 μ) (fun μ16 => some μ16)) := Classical.choose_spec p_X12_whole_b104_ex a1 a2 k0 μ
set_option maxHeartbeats 4000000 in
set_option maxRecDepth 100000 in
theorem t_X12_whole_b104 (l : Launch) (G : Gt) (ad : Nat → Nat) (av : List Value) {μz : Mem} (a1 : Int32) (a2 : Int32) (k0 : Int32) (μ : Mem) (h : p_X12_whole_b104  a1 a2 k0 μ = some μz) : Bk l cX12_whole 5 RX12 none ({ frames := 5, cells := 0, slots := 0, locals := 116 } : Room) G av (eV 1 G ad μz) (wd 1 G ad μ) 104 [(0, .ref (ad 0)), (1, .int a1), (2, .int a2)] [.int k0] := by
  intro p e s m below meth c A ls H locs cx hr hlk hA hl hw
  have hx := cx.1
  have hb := cx.2.1
  rw [p_X12_whole_b104_eq] at h
  refine lv_istore (lv' := [(4, .int k0), (0, .ref (ad 0)), (1, .int a1), (2, .int a2)]) hx hb dX12_whole_104 hl (by decide) rfl (fun ls hl => ?_)
  refine lv_aload_n hx hb dX12_whole_106 rfl (lv_at hl 1 rfl) ?_
  refine lv_iload hx hb dX12_whole_107 (lv_at hl 0 rfl) ?_
  refine lv_if_eq (tgt := 116) hx hb dX12_whole_109 (by decide) (fun c11 => ?_) (fun c11 => ?_)
  · rw [if_pos c11] at h
    refine lv_aload_n hx hb dX12_whole_116 rfl (lv_at hl 1 rfl) ?_
    refine lv_iload_n hx hb dX12_whole_117 rfl (lv_at hl 2 rfl) ?_
    obtain ⟨r13, μ12, gr13, h⟩ := bd_some h
    refine g_callVI (As := [.int a1]) (rest := [.ref (ad 0)]) cx hw hA (t_X12_registerOf l G ad a1 μ gr13) shm_0 rfl ml_X12_643 im_X12_registerOf se_X12_registerOf in_X12 co_X12_registerOf rfl hd_X12_registerOf rfl ⟨(Nat.le_of_ble_eq_true rfl), (Nat.le_of_ble_eq_true rfl)⟩ hl.1 rfl (Nat.le_of_ble_eq_true rfl) dX12_whole_118 ⟨rfl, rfl⟩ (fun H locs hw => ?_)
    obtain ⟨μ14, gμ14, h⟩ := bw_some h
    refine g_callVV (As := [.int r13]) (rest := []) cx hw hA (t_X12_come l G ad r13 μ12 gμ14) shm_0 rfl ml_X12_585 im_X12_come se_X12_come in_X12 co_X12_come rfl hd_X12_come rfl ⟨(Nat.le_of_ble_eq_true rfl), (Nat.le_of_ble_eq_true rfl)⟩ hl.1 rfl (Nat.le_of_ble_eq_true rfl) dX12_whole_121 ⟨rfl, rfl⟩ (fun H locs hw => ?_)
    exact g_vret cx hr hlk hw h dX12_whole_124
  · rw [if_neg c11] at h
    refine lv_iload_n hx hb dX12_whole_112 rfl (lv_at hl 3 rfl) ?_
    refine lv_goto (tgt := 121) hx hb dX12_whole_113 (by decide) ?_
    obtain ⟨μ16, gμ16, h⟩ := bw_some h
    refine g_callVV (As := [.int a2]) (rest := []) cx hw hA (t_X12_come l G ad a2 μ gμ16) shm_0 rfl ml_X12_585 im_X12_come se_X12_come in_X12 co_X12_come rfl hd_X12_come rfl ⟨(Nat.le_of_ble_eq_true rfl), (Nat.le_of_ble_eq_true rfl)⟩ hl.1 rfl (Nat.le_of_ble_eq_true rfl) dX12_whole_121 ⟨rfl, rfl⟩ (fun H locs hw => ?_)
    exact g_vret cx hr hlk hw h dX12_whole_124
theorem p_X12_whole_b103_ex : ∃ f : Int32 → Int32 → Mem → Option Mem, ∀ (a1 : Int32) (a2 : Int32) (μ : Mem), f a1 a2 μ = p_X12_whole_b104  a1 a2 (0 : Int32) μ := ⟨fun (a1 : Int32) (a2 : Int32) (μ : Mem) => p_X12_whole_b104  a1 a2 (0 : Int32) μ, fun _ _ _ => rfl⟩
noncomputable def p_X12_whole_b103 : Int32 → Int32 → Mem → Option Mem := Classical.choose p_X12_whole_b103_ex
theorem p_X12_whole_b103_eq (a1 : Int32) (a2 : Int32) (μ : Mem) : p_X12_whole_b103 a1 a2 μ = p_X12_whole_b104  a1 a2 (0 : Int32) μ := Classical.choose_spec p_X12_whole_b103_ex a1 a2 μ
set_option maxHeartbeats 4000000 in
set_option maxRecDepth 100000 in
theorem t_X12_whole_b103 (l : Launch) (G : Gt) (ad : Nat → Nat) (av : List Value) {μz : Mem} (a1 : Int32) (a2 : Int32) (μ : Mem) (h : p_X12_whole_b103  a1 a2 μ = some μz) : Bk l cX12_whole 5 RX12 none ({ frames := 5, cells := 0, slots := 0, locals := 116 } : Room) G av (eV 1 G ad μz) (wd 1 G ad μ) 103 [(0, .ref (ad 0)), (1, .int a1), (2, .int a2)] [] := by
  intro p e s m below meth c A ls H locs cx hr hlk hA hl hw
  have hx := cx.1
  have hb := cx.2.1
  rw [p_X12_whole_b103_eq] at h
  refine lv_iconst (v := 0) hx hb dX12_whole_103 (by decide) ?_
  exact t_X12_whole_b104 l G ad av  a1 a2 (0 : Int32) μ h p e s m below meth c A ls H locs cx hr hlk hA (lv_sub hl [0, 1, 2] rfl) hw
theorem p_X12_whole_b31_ex : ∃ f : Int32 → Int32 → Int32 → Mem → Option Mem, ∀ (a1 : Int32) (a2 : Int32) (a3 : Int32) (μ : Mem), f a1 a2 a3 μ = (if (μ.1 0 68) = (0 : Int32) then gd (inb a1 960) (bv (sF μ 50 a1.toNatClampNeg ((μ.1 0 87) - (1 : Int32))) (fun μ6 => bv (sF μ6 0 90 ((μ6.1 0 90) - (1 : Int32))) (fun μ7 => bd (p_X12_isKnown a2 μ7) (fun r9 μ8 => (if r9 = (0 : Int32) then p_X12_whole_b103  a1 a2 μ8 else gd (inb a2 100000) (gd (inb a3 100000) ((if (μ8.1 30 a2.toNatClampNeg) = (μ8.1 30 a3.toNatClampNeg) then gd (inb a2 100000) (gd (inb a3 100000) ((if (μ8.1 31 a2.toNatClampNeg) = (μ8.1 31 a3.toNatClampNeg) then p_X12_whole_b104  a1 a2 (1 : Int32) μ8 else p_X12_whole_b103  a1 a2 μ8))) else p_X12_whole_b103  a1 a2 μ8)))))))) else some μ) := ⟨fun (a1 : Int32) (a2 : Int32) (a3 : Int32) (μ : Mem) => (if (μ.1 0 68) = (0 : Int32) then gd (inb a1 960) (bv (sF μ 50 a1.toNatClampNeg ((μ.1 0 87) - (1 : Int32))) (fun μ6 => bv (sF μ6 0 90 ((μ6.1 0 90) - (1 : Int32))) (fun μ7 => bd (p_X12_isKnown a2 μ7) (fun r9 μ8 => (if r9 = (0 : Int32) then p_X12_whole_b103  a1 a2 μ8 else gd (inb a2 100000) (gd (inb a3 100000) ((if (μ8.1 30 a2.toNatClampNeg) = (μ8.1 30 a3.toNatClampNeg) then gd (inb a2 100000) (gd (inb a3 100000) ((if (μ8.1 31 a2.toNatClampNeg) = (μ8.1 31 a3.toNatClampNeg) then p_X12_whole_b104  a1 a2 (1 : Int32) μ8 else p_X12_whole_b103  a1 a2 μ8))) else p_X12_whole_b103  a1 a2 μ8)))))))) else some μ), fun _ _ _ _ => rfl⟩
noncomputable def p_X12_whole_b31 : Int32 → Int32 → Int32 → Mem → Option Mem := Classical.choose p_X12_whole_b31_ex
theorem p_X12_whole_b31_eq (a1 : Int32) (a2 : Int32) (a3 : Int32) (μ : Mem) : p_X12_whole_b31 a1 a2 a3 μ = (if (μ.1 0 68) = (0 : Int32) then gd (inb a1 960) (bv (sF μ 50 a1.toNatClampNeg ((μ.1 0 87) - (1 : Int32))) (fun μ6 => bv (sF μ6 0 90 ((μ6.1 0 90) - (1 : Int32))) (fun μ7 => bd (p_X12_isKnown a2 μ7) (fun r9 μ8 => (if r9 = (0 : Int32) then p_X12_whole_b103  a1 a2 μ8 else gd (inb a2 100000) (gd (inb a3 100000) ((if (μ8.1 30 a2.toNatClampNeg) = (μ8.1 30 a3.toNatClampNeg) then gd (inb a2 100000) (gd (inb a3 100000) ((if (μ8.1 31 a2.toNatClampNeg) = (μ8.1 31 a3.toNatClampNeg) then p_X12_whole_b104  a1 a2 (1 : Int32) μ8 else p_X12_whole_b103  a1 a2 μ8))) else p_X12_whole_b103  a1 a2 μ8)))))))) else some μ) := Classical.choose_spec p_X12_whole_b31_ex a1 a2 a3 μ
set_option maxHeartbeats 4000000 in
set_option maxRecDepth 100000 in
theorem t_X12_whole_b31 (l : Launch) (G : Gt) (ad : Nat → Nat) (av : List Value) {μz : Mem} (a1 : Int32) (a2 : Int32) (a3 : Int32) (μ : Mem) (h : p_X12_whole_b31  a1 a2 a3 μ = some μz) : Bk l cX12_whole 5 RX12 none ({ frames := 5, cells := 0, slots := 0, locals := 116 } : Room) G av (eV 1 G ad μz) (wd 1 G ad μ) 31 [(0, .ref (ad 0)), (1, .int a1), (2, .int a2), (3, .int a3)] [] := by
  intro p e s m below meth c A ls H locs cx hr hlk hA hl hw
  have hx := cx.1
  have hb := cx.2.1
  rw [p_X12_whole_b31_eq] at h
  refine lv_aload_n hx hb dX12_whole_31 rfl (lv_at hl 0 rfl) ?_
  refine g_get cx hw inX12 (ci := 11) rfl 68 (by decide) rfl (v := .int (μ.1 0 68)) shm_0 rfl fl_X12_557 dX12_whole_32 ?_
  refine lv_if_eq (tgt := 39) hx hb dX12_whole_35 (by decide) (fun c5 => ?_) (fun c5 => ?_)
  · rw [if_pos c5] at h
    refine lv_aload_n hx hb dX12_whole_39 rfl (lv_at hl 0 rfl) ?_
    refine g_get cx hw inX12 (ci := 11) rfl 82 (by decide) rfl (v := .ref (ad 50)) shm_0 rfl fl_X12_166 dX12_whole_40 ?_
    refine lv_iload_n hx hb dX12_whole_43 rfl (lv_at hl 1 rfl) ?_
    refine lv_aload_n hx hb dX12_whole_44 rfl (lv_at hl 0 rfl) ?_
    refine g_get cx hw inX12 (ci := 11) rfl 87 (by decide) rfl (v := .int (μ.1 0 87)) shm_0 rfl fl_X12_682 dX12_whole_45 ?_
    refine lv_iconst (v := 1) hx hb dX12_whole_48 (by decide) ?_
    refine lv_isub hx hb dX12_whole_49 ?_
    refine g_iast cx hw shm_50 h dX12_whole_50 (fun μ6 H locs h hw => ?_)
    refine lv_aload_n hx hb dX12_whole_51 rfl (lv_at hl 0 rfl) ?_
    refine lv_dup hx hb dX12_whole_52 rfl ?_
    refine g_get cx hw inX12 (ci := 11) rfl 90 (by decide) rfl (v := .int (μ6.1 0 90)) shm_0 rfl fl_X12_612 dX12_whole_53 ?_
    refine lv_iconst (v := 1) hx hb dX12_whole_56 (by decide) ?_
    refine lv_isub hx hb dX12_whole_57 ?_
    refine g_put cx hw inX12 (ci := 11) rfl tyX12_ok nmX12 90 (by decide) rfl rfl rfl rfl shm_0 h fl_X12_612 dX12_whole_58 (fun μ7 H locs h hw => ?_)
    refine lv_aload_n hx hb dX12_whole_61 rfl (lv_at hl 0 rfl) ?_
    refine lv_iload_n hx hb dX12_whole_62 rfl (lv_at hl 2 rfl) ?_
    obtain ⟨r9, μ8, gr9, h⟩ := bd_some h
    refine g_callVI (As := [.int a2]) (rest := []) cx hw hA (t_X12_isKnown l G ad a2 μ7 gr9) shm_0 rfl ml_X12_600 im_X12_isKnown se_X12_isKnown in_X12 co_X12_isKnown rfl hd_X12_isKnown rfl ⟨(Nat.le_of_ble_eq_true rfl), (Nat.le_of_ble_eq_true rfl)⟩ hl.1 rfl (Nat.le_of_ble_eq_true rfl) dX12_whole_63 ⟨rfl, rfl⟩ (fun H locs hw => ?_)
    refine lv_if_eq (tgt := 103) hx hb dX12_whole_66 (by decide) (fun c10 => ?_) (fun c10 => ?_)
    · rw [if_pos c10] at h
      exact t_X12_whole_b103 l G ad av  a1 a2 μ8 h p e s m below meth c A ls H locs cx hr hlk hA (lv_sub hl [0, 1, 2] rfl) hw
    · rw [if_neg c10] at h
      refine lv_aload_n hx hb dX12_whole_69 rfl (lv_at hl 0 rfl) ?_
      refine g_get cx hw inX12 (ci := 11) rfl 51 (by decide) rfl (v := .ref (ad 30)) shm_0 rfl fl_X12_106 dX12_whole_70 ?_
      refine lv_iload_n hx hb dX12_whole_73 rfl (lv_at hl 2 rfl) ?_
      refine g_iald cx hw shm_30 h dX12_whole_74 (fun h => ?_)
      refine lv_aload_n hx hb dX12_whole_75 rfl (lv_at hl 0 rfl) ?_
      refine g_get cx hw inX12 (ci := 11) rfl 51 (by decide) rfl (v := .ref (ad 30)) shm_0 rfl fl_X12_106 dX12_whole_76 ?_
      refine lv_iload_n hx hb dX12_whole_79 rfl (lv_at hl 3 rfl) ?_
      refine g_iald cx hw shm_30 h dX12_whole_80 (fun h => ?_)
      refine lv_icmp_ne (tgt := 103) hx hb dX12_whole_81 (by decide) (fun c18 => ?_) (fun c18 => ?_)
      · rw [if_neg c18] at h
        exact t_X12_whole_b103 l G ad av  a1 a2 μ8 h p e s m below meth c A ls H locs cx hr hlk hA (lv_sub hl [0, 1, 2] rfl) hw
      · rw [if_pos c18] at h
        refine lv_aload_n hx hb dX12_whole_84 rfl (lv_at hl 0 rfl) ?_
        refine g_get cx hw inX12 (ci := 11) rfl 52 (by decide) rfl (v := .ref (ad 31)) shm_0 rfl fl_X12_109 dX12_whole_85 ?_
        refine lv_iload_n hx hb dX12_whole_88 rfl (lv_at hl 2 rfl) ?_
        refine g_iald cx hw shm_31 h dX12_whole_89 (fun h => ?_)
        refine lv_aload_n hx hb dX12_whole_90 rfl (lv_at hl 0 rfl) ?_
        refine g_get cx hw inX12 (ci := 11) rfl 52 (by decide) rfl (v := .ref (ad 31)) shm_0 rfl fl_X12_109 dX12_whole_91 ?_
        refine lv_iload_n hx hb dX12_whole_94 rfl (lv_at hl 3 rfl) ?_
        refine g_iald cx hw shm_31 h dX12_whole_95 (fun h => ?_)
        refine lv_icmp_ne (tgt := 103) hx hb dX12_whole_96 (by decide) (fun c19 => ?_) (fun c19 => ?_)
        · rw [if_neg c19] at h
          exact t_X12_whole_b103 l G ad av  a1 a2 μ8 h p e s m below meth c A ls H locs cx hr hlk hA (lv_sub hl [0, 1, 2] rfl) hw
        · rw [if_pos c19] at h
          refine lv_iconst (v := 1) hx hb dX12_whole_99 (by decide) ?_
          refine lv_goto (tgt := 104) hx hb dX12_whole_100 (by decide) ?_
          exact t_X12_whole_b104 l G ad av  a1 a2 (1 : Int32) μ8 h p e s m below meth c A ls H locs cx hr hlk hA (lv_sub hl [0, 1, 2] rfl) hw
  · rw [if_neg c5] at h
    exact g_vret cx hr hlk hw h dX12_whole_38
theorem p_X12_whole_ex : ∃ f : Int32 → Mem → Option Mem, ∀ (a1 : Int32) (μ : Mem), f a1 μ = gd (inb (μ.1 0 65) 6000) (bv (μ.1 39 (μ.1 0 65).toNatClampNeg) (fun v1 => bd (p_X12_mark (14 : Int32) a1 μ) (fun r3 μ2 => (if (μ2.1 0 68) = (0 : Int32) then bw (p_X12_countInstruction a1 (1 : Int32) μ2) (fun μ20 => p_X12_whole_b31  a1 v1 r3 μ20) else p_X12_whole_b31  a1 v1 r3 μ2)))) := ⟨fun (a1 : Int32) (μ : Mem) => gd (inb (μ.1 0 65) 6000) (bv (μ.1 39 (μ.1 0 65).toNatClampNeg) (fun v1 => bd (p_X12_mark (14 : Int32) a1 μ) (fun r3 μ2 => (if (μ2.1 0 68) = (0 : Int32) then bw (p_X12_countInstruction a1 (1 : Int32) μ2) (fun μ20 => p_X12_whole_b31  a1 v1 r3 μ20) else p_X12_whole_b31  a1 v1 r3 μ2)))), fun _ _ => rfl⟩
noncomputable def p_X12_whole : Int32 → Mem → Option Mem := Classical.choose p_X12_whole_ex
theorem p_X12_whole_eq (a1 : Int32) (μ : Mem) : p_X12_whole a1 μ = gd (inb (μ.1 0 65) 6000) (bv (μ.1 39 (μ.1 0 65).toNatClampNeg) (fun v1 => bd (p_X12_mark (14 : Int32) a1 μ) (fun r3 μ2 => (if (μ2.1 0 68) = (0 : Int32) then bw (p_X12_countInstruction a1 (1 : Int32) μ2) (fun μ20 => p_X12_whole_b31  a1 v1 r3 μ20) else p_X12_whole_b31  a1 v1 r3 μ2)))) := Classical.choose_spec p_X12_whole_ex a1 μ
set_option maxHeartbeats 4000000 in
set_option maxRecDepth 100000 in
theorem t_X12_whole (l : Launch) (G : Gt) (ad : Nat → Nat) (a1 : Int32) (μ : Mem) {μz : Mem} (h : p_X12_whole a1 μ = some μz) : Mt l yX12_whole cX12_whole 5 none ({ frames := 5, cells := 0, slots := 0, locals := 116 } : Room) G [.ref (ad 0), .int a1] (wd 1 G ad μ) (eV 1 G ad μz) := by
  refine Bk.mt (by decide) rfl (Nat.le_of_ble_eq_true rfl) ?_
  intro p e s m below meth c A ls H locs cx hr hlk hA hl hw
  have hx := cx.1
  have hb := cx.2.1
  have hl : lv_has ls 5 [(0, .ref (ad 0)), (1, .int a1)] := hl
  rw [p_X12_whole_eq] at h
  refine lv_aload_n hx hb dX12_whole_0 rfl (lv_at hl 0 rfl) ?_
  refine g_get cx hw inX12 (ci := 11) rfl 62 (by decide) rfl (v := .ref (ad 39)) shm_0 rfl fl_X12_133 dX12_whole_1 ?_
  refine lv_aload_n hx hb dX12_whole_4 rfl (lv_at hl 0 rfl) ?_
  refine g_get cx hw inX12 (ci := 11) rfl 65 (by decide) rfl (v := .int (μ.1 0 65)) shm_0 rfl fl_X12_545 dX12_whole_5 ?_
  refine g_iald cx hw shm_39 h dX12_whole_8 (fun h => ?_)
  obtain ⟨v1, ev1, h⟩ := bv_ex h
  refine lv_topi (fun y9 z9 => ?_)
  obtain rfl : v1 = y9 := ev1.trans z9.symm
  refine lv_istore_n (lv' := [(2, .int v1), (0, .ref (ad 0)), (1, .int a1)]) hx hb dX12_whole_9 rfl hl (by decide) rfl (fun ls hl => ?_)
  refine lv_aload_n hx hb dX12_whole_10 rfl (lv_at hl 1 rfl) ?_
  refine lv_bipush (v := 14) hx hb dX12_whole_11 (by decide) ?_
  refine lv_iload_n hx hb dX12_whole_13 rfl (lv_at hl 2 rfl) ?_
  obtain ⟨r3, μ2, gr3, h⟩ := bd_some h
  refine g_callVI (As := [.int 14, .int a1]) (rest := []) cx hw hA (t_X12_mark l G ad (14 : Int32) a1 μ gr3) shm_0 rfl ml_X12_704 im_X12_mark se_X12_mark in_X12 co_X12_mark rfl hd_X12_mark rfl ⟨(Nat.le_of_ble_eq_true rfl), (Nat.le_of_ble_eq_true rfl)⟩ hl.1 rfl (Nat.le_of_ble_eq_true rfl) dX12_whole_14 ⟨rfl, rfl⟩ (fun H locs hw => ?_)
  refine lv_istore_n (lv' := [(3, .int r3), (2, .int v1), (0, .ref (ad 0)), (1, .int a1)]) hx hb dX12_whole_17 rfl hl (by decide) rfl (fun ls hl => ?_)
  refine lv_aload_n hx hb dX12_whole_18 rfl (lv_at hl 2 rfl) ?_
  refine g_get cx hw inX12 (ci := 11) rfl 68 (by decide) rfl (v := .int (μ2.1 0 68)) shm_0 rfl fl_X12_557 dX12_whole_19 ?_
  refine lv_if_ne (tgt := 31) hx hb dX12_whole_22 (by decide) (fun c4 => ?_) (fun c4 => ?_)
  · rw [if_neg c4] at h
    exact t_X12_whole_b31 l G ad _  a1 v1 r3 μ2 h p e s m below meth c A ls H locs cx hr hlk hA (lv_sub hl [2, 3, 1, 0] rfl) hw
  · rw [if_pos c4] at h
    refine lv_aload_n hx hb dX12_whole_25 rfl (lv_at hl 2 rfl) ?_
    refine lv_iload_n hx hb dX12_whole_26 rfl (lv_at hl 3 rfl) ?_
    refine lv_iconst (v := 1) hx hb dX12_whole_27 (by decide) ?_
    obtain ⟨μ20, gμ20, h⟩ := bw_some h
    refine g_callVV (As := [.int a1, .int 1]) (rest := []) cx hw hA (t_X12_countInstruction l G ad a1 (1 : Int32) μ2 gμ20) shm_0 rfl ml_X12_694 im_X12_countInstruction se_X12_countInstruction in_X12 co_X12_countInstruction rfl hd_X12_countInstruction rfl ⟨(Nat.le_of_ble_eq_true rfl), (Nat.le_of_ble_eq_true rfl)⟩ hl.1 rfl (Nat.le_of_ble_eq_true rfl) dX12_whole_28 ⟨rfl, rfl⟩ (fun H locs hw => ?_)
    exact t_X12_whole_b31 l G ad _  a1 v1 r3 μ20 h p e s m below meth c A ls H locs cx hr hlk hA (lv_sub hl [2, 3, 1, 0] rfl) hw
