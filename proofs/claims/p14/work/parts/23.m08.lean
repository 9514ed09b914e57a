theorem p_X8_flatten_b145_ex : ∃ f : (Nat → Int32 → Int32 → Mem → Option Mem) → Nat → Int32 → Int32 → Mem → Option Mem, ∀ (K13 : Nat → Int32 → Int32 → Mem → Option Mem) (a3 : Nat) (a4 : Int32) (a5 : Int32) (μ : Mem), f K13 a3 a4 a5 μ = bv (a5 + 1) (fun v13 => K13 a3 a4 v13 μ) := ⟨fun (K13 : Nat → Int32 → Int32 → Mem → Option Mem) (a3 : Nat) (a4 : Int32) (a5 : Int32) (μ : Mem) => bv (a5 + 1) (fun v13 => K13 a3 a4 v13 μ), fun _ _ _ _ _ => rfl⟩
noncomputable def p_X8_flatten_b145 : (Nat → Int32 → Int32 → Mem → Option Mem) → Nat → Int32 → Int32 → Mem → Option Mem := Classical.choose p_X8_flatten_b145_ex
theorem p_X8_flatten_b145_eq (K13 : Nat → Int32 → Int32 → Mem → Option Mem) (a3 : Nat) (a4 : Int32) (a5 : Int32) (μ : Mem) : p_X8_flatten_b145 K13 a3 a4 a5 μ = bv (a5 + 1) (fun v13 => K13 a3 a4 v13 μ) := Classical.choose_spec p_X8_flatten_b145_ex K13 a3 a4 a5 μ
set_option maxHeartbeats 4000000 in
set_option maxRecDepth 100000 in
theorem t_X8_flatten_b145 (l : Launch) (G : Gt) (ad : Nat → Nat) (av : List Value) {μz : Mem} (K13 : Nat → Int32 → Int32 → Mem → Option Mem) (hK13 : ∀ (z3 : Nat) (w3 : sh 0 z3 = (0, 1)) (z4 : Int32) (z5 : Int32) (μ1 : Mem), K13 z3 z4 z5 μ1 = some μz → Bk l cX8_flatten 9 RX8 none ({ frames := 1, cells := 0, slots := 0, locals := 24 } : Room) G av (eV 0 G ad μz) (wd 0 G ad μ1) 13 [(0, .ref (ad 30)), (3, .ref (ad z3)), (4, .int z4), (5, .int z5)] []) (a3 : Nat) (q3 : sh 0 a3 = (0, 1)) (a4 : Int32) (a5 : Int32) (μ : Mem) (h : p_X8_flatten_b145 K13 a3 a4 a5 μ = some μz) : Bk l cX8_flatten 9 RX8 none ({ frames := 1, cells := 0, slots := 0, locals := 24 } : Room) G av (eV 0 G ad μz) (wd 0 G ad μ) 145 [(0, .ref (ad 30)), (3, .ref (ad a3)), (4, .int a4), (5, .int a5)] [] := by
  intro p e s m below meth c A ls H locs cx hr hlk hA hl hw
  have hx := cx.1
  have hb := cx.2.1
  rw [p_X8_flatten_b145_eq] at h
  obtain ⟨v13, ev13, h⟩ := bv_ex h
  refine lv_iinc (v := v13) (lv' := [(5, .int v13), (0, .ref (ad 30)), (3, .ref (ad a3)), (4, .int a4)]) hx hb dX8_flatten_145 hl (k := 3) rfl (by rw [ev13]; rfl) (by decide) rfl (fun ls hl => ?_)
  refine lv_goto (tgt := 13) hx hb dX8_flatten_148 (by decide) ?_
  exact hK13 a3 q3 a4 v13 μ h p e s m below meth c A ls H locs cx hr hlk hA (lv_sub hl [1, 2, 3, 0] rfl) hw
theorem p_X8_flatten_b140_ex : ∃ f : (Nat → Int32 → Int32 → Mem → Option Mem) → Nat → Int32 → Int32 → Int64 → Int64 → Nat → Mem → Option Mem, ∀ (K13 : Nat → Int32 → Int32 → Mem → Option Mem) (a3 : Nat) (a4 : Int32) (a5 : Int32) (a6 : Int64) (k0 : Int64) (k1 : Nat) (μ : Mem), f K13 a3 a4 a5 a6 k0 k1 μ = bw (p_X2_add k1 k0 a6 μ) (fun μ11 => p_X8_flatten_b145 K13 a3 a4 a5 μ11) := ⟨fun (K13 : Nat → Int32 → Int32 → Mem → Option Mem) (a3 : Nat) (a4 : Int32) (a5 : Int32) (a6 : Int64) (k0 : Int64) (k1 : Nat) (μ : Mem) => bw (p_X2_add k1 k0 a6 μ) (fun μ11 => p_X8_flatten_b145 K13 a3 a4 a5 μ11), fun _ _ _ _ _ _ _ _ => rfl⟩
noncomputable def p_X8_flatten_b140 : (Nat → Int32 → Int32 → Mem → Option Mem) → Nat → Int32 → Int32 → Int64 → Int64 → Nat → Mem → Option Mem := Classical.choose p_X8_flatten_b140_ex
theorem p_X8_flatten_b140_eq (K13 : Nat → Int32 → Int32 → Mem → Option Mem) (a3 : Nat) (a4 : Int32) (a5 : Int32) (a6 : Int64) (k0 : Int64) (k1 : Nat) (μ : Mem) : p_X8_flatten_b140 K13 a3 a4 a5 a6 k0 k1 μ = bw (p_X2_add k1 k0 a6 μ) (fun μ11 => p_X8_flatten_b145 K13 a3 a4 a5 μ11) := Classical.choose_spec p_X8_flatten_b140_ex K13 a3 a4 a5 a6 k0 k1 μ
set_option maxHeartbeats 4000000 in
set_option maxRecDepth 100000 in
theorem t_X8_flatten_b140 (l : Launch) (G : Gt) (ad : Nat → Nat) (av : List Value) {μz : Mem} (K13 : Nat → Int32 → Int32 → Mem → Option Mem) (hK13 : ∀ (z3 : Nat) (w3 : sh 0 z3 = (0, 1)) (z4 : Int32) (z5 : Int32) (μ1 : Mem), K13 z3 z4 z5 μ1 = some μz → Bk l cX8_flatten 9 RX8 none ({ frames := 1, cells := 0, slots := 0, locals := 24 } : Room) G av (eV 0 G ad μz) (wd 0 G ad μ1) 13 [(0, .ref (ad 30)), (3, .ref (ad z3)), (4, .int z4), (5, .int z5)] []) (a3 : Nat) (q3 : sh 0 a3 = (0, 1)) (a4 : Int32) (a5 : Int32) (a6 : Int64) (k0 : Int64) (k1 : Nat) (qk1 : sh 0 k1 = (0, 1)) (μ : Mem) (h : p_X8_flatten_b140 K13 a3 a4 a5 a6 k0 k1 μ = some μz) : Bk l cX8_flatten 9 RX8 none ({ frames := 1, cells := 0, slots := 0, locals := 24 } : Room) G av (eV 0 G ad μz) (wd 0 G ad μ) 140 [(0, .ref (ad 30)), (3, .ref (ad a3)), (4, .int a4), (5, .int a5), (6, .long a6)] [.long k0, .ref (ad k1)] := by
  intro p e s m below meth c A ls H locs cx hr hlk hA hl hw
  have hx := cx.1
  have hb := cx.2.1
  rw [p_X8_flatten_b140_eq] at h
  refine lv_lload hx hb dX8_flatten_140 (lv_at hl 4 rfl) ?_
  obtain ⟨μ11, gμ11, h⟩ := bw_some h
  refine g_callVV (As := [.long k0, .long a6]) (rest := []) cx hw hA (t_X2_add l G ad k1 qk1 k0 a6 μ gμ11) qk1 rfl ml_X8_118 im_X2_add se_X2_add in_X2 co_X2_add rfl hd_X2_add rfl ⟨(Nat.le_of_ble_eq_true rfl), (Nat.le_of_ble_eq_true rfl)⟩ hl.1 rfl (Nat.le_of_ble_eq_true rfl) dX8_flatten_142 ⟨rfl, rfl⟩ (fun H locs hw => ?_)
  exact t_X8_flatten_b145 l G ad av K13 hK13 a3 q3 a4 a5 μ11 h p e s m below meth c A ls H locs cx hr hlk hA (lv_sub hl [0, 1, 2, 3] rfl) hw
theorem p_X8_flatten_b124_ex : ∃ f : (Nat → Int32 → Int32 → Mem → Option Mem) → Nat → Int32 → Int32 → Int64 → Int32 → Mem → Option Mem, ∀ (K13 : Nat → Int32 → Int32 → Mem → Option Mem) (a3 : Nat) (a4 : Int32) (a5 : Int32) (a6 : Int64) (k0 : Int32) (μ : Mem), f K13 a3 a4 a5 a6 k0 μ = (if k0 = (0 : Int32) then p_X8_flatten_b140 K13 a3 a4 a5 a6 a6 a3 μ else p_X8_flatten_b140 K13 a3 a4 a5 a6 (17179869184 : Int64) a3 μ) := ⟨fun (K13 : Nat → Int32 → Int32 → Mem → Option Mem) (a3 : Nat) (a4 : Int32) (a5 : Int32) (a6 : Int64) (k0 : Int32) (μ : Mem) => (if k0 = (0 : Int32) then p_X8_flatten_b140 K13 a3 a4 a5 a6 a6 a3 μ else p_X8_flatten_b140 K13 a3 a4 a5 a6 (17179869184 : Int64) a3 μ), fun _ _ _ _ _ _ _ => rfl⟩
noncomputable def p_X8_flatten_b124 : (Nat → Int32 → Int32 → Mem → Option Mem) → Nat → Int32 → Int32 → Int64 → Int32 → Mem → Option Mem := Classical.choose p_X8_flatten_b124_ex
theorem p_X8_flatten_b124_eq (K13 : Nat → Int32 → Int32 → Mem → Option Mem) (a3 : Nat) (a4 : Int32) (a5 : Int32) (a6 : Int64) (k0 : Int32) (μ : Mem) : p_X8_flatten_b124 K13 a3 a4 a5 a6 k0 μ = (if k0 = (0 : Int32) then p_X8_flatten_b140 K13 a3 a4 a5 a6 a6 a3 μ else p_X8_flatten_b140 K13 a3 a4 a5 a6 (17179869184 : Int64) a3 μ) := Classical.choose_spec p_X8_flatten_b124_ex K13 a3 a4 a5 a6 k0 μ
set_option maxHeartbeats 4000000 in
set_option maxRecDepth 100000 in
theorem t_X8_flatten_b124 (l : Launch) (G : Gt) (ad : Nat → Nat) (av : List Value) {μz : Mem} (K13 : Nat → Int32 → Int32 → Mem → Option Mem) (hK13 : ∀ (z3 : Nat) (w3 : sh 0 z3 = (0, 1)) (z4 : Int32) (z5 : Int32) (μ1 : Mem), K13 z3 z4 z5 μ1 = some μz → Bk l cX8_flatten 9 RX8 none ({ frames := 1, cells := 0, slots := 0, locals := 24 } : Room) G av (eV 0 G ad μz) (wd 0 G ad μ1) 13 [(0, .ref (ad 30)), (3, .ref (ad z3)), (4, .int z4), (5, .int z5)] []) (a3 : Nat) (q3 : sh 0 a3 = (0, 1)) (a4 : Int32) (a5 : Int32) (a6 : Int64) (k0 : Int32) (μ : Mem) (h : p_X8_flatten_b124 K13 a3 a4 a5 a6 k0 μ = some μz) : Bk l cX8_flatten 9 RX8 none ({ frames := 1, cells := 0, slots := 0, locals := 24 } : Room) G av (eV 0 G ad μz) (wd 0 G ad μ) 124 [(0, .ref (ad 30)), (3, .ref (ad a3)), (4, .int a4), (5, .int a5), (6, .long a6)] [.int k0] := by
  intro p e s m below meth c A ls H locs cx hr hlk hA hl hw
  have hx := cx.1
  have hb := cx.2.1
  rw [p_X8_flatten_b124_eq] at h
  refine lv_istore (lv' := [(8, .int k0), (0, .ref (ad 30)), (3, .ref (ad a3)), (4, .int a4), (5, .int a5), (6, .long a6)]) hx hb dX8_flatten_124 hl (by decide) rfl (fun ls hl => ?_)
  refine lv_aload_n hx hb dX8_flatten_126 rfl (lv_at hl 2 rfl) ?_
  refine lv_iload hx hb dX8_flatten_127 (lv_at hl 0 rfl) ?_
  refine lv_if_eq (tgt := 138) hx hb dX8_flatten_129 (by decide) (fun c10 => ?_) (fun c10 => ?_)
  · rw [if_pos c10] at h
    refine lv_lload hx hb dX8_flatten_138 (lv_at hl 5 rfl) ?_
    exact t_X8_flatten_b140 l G ad av K13 hK13 a3 q3 a4 a5 a6 a6 a3 q3 μ h p e s m below meth c A ls H locs cx hr hlk hA (lv_sub hl [1, 2, 3, 4, 5] rfl) hw
  · rw [if_neg c10] at h
    refine lv_ldc2 hx hb cx.2.2.2.1 (cx.2.2.2.2.1 _ cs_X8_122) dX8_flatten_132 ?_
    refine lv_goto (tgt := 140) hx hb dX8_flatten_135 (by decide) ?_
    exact t_X8_flatten_b140 l G ad av K13 hK13 a3 q3 a4 a5 a6 (17179869184 : Int64) a3 q3 μ h p e s m below meth c A ls H locs cx hr hlk hA (lv_sub hl [1, 2, 3, 4, 5] rfl) hw
theorem p_X8_flatten_b110_ex : ∃ f : (Nat → Int32 → Int32 → Mem → Option Mem) → Nat → Int32 → Int32 → Int64 → Mem → Option Mem, ∀ (K13 : Nat → Int32 → Int32 → Mem → Option Mem) (a3 : Nat) (a4 : Int32) (a5 : Int32) (a6 : Int64) (μ : Mem), f K13 a3 a4 a5 a6 μ = (if (s_X0_kind a6) = (3 : Int32) then p_X8_flatten_b124 K13 a3 a4 a5 a6 (1 : Int32) μ else p_X8_flatten_b124 K13 a3 a4 a5 a6 (0 : Int32) μ) := ⟨fun (K13 : Nat → Int32 → Int32 → Mem → Option Mem) (a3 : Nat) (a4 : Int32) (a5 : Int32) (a6 : Int64) (μ : Mem) => (if (s_X0_kind a6) = (3 : Int32) then p_X8_flatten_b124 K13 a3 a4 a5 a6 (1 : Int32) μ else p_X8_flatten_b124 K13 a3 a4 a5 a6 (0 : Int32) μ), fun _ _ _ _ _ _ => rfl⟩
noncomputable def p_X8_flatten_b110 : (Nat → Int32 → Int32 → Mem → Option Mem) → Nat → Int32 → Int32 → Int64 → Mem → Option Mem := Classical.choose p_X8_flatten_b110_ex
theorem p_X8_flatten_b110_eq (K13 : Nat → Int32 → Int32 → Mem → Option Mem) (a3 : Nat) (a4 : Int32) (a5 : Int32) (a6 : Int64) (μ : Mem) : p_X8_flatten_b110 K13 a3 a4 a5 a6 μ = (if (s_X0_kind a6) = (3 : Int32) then p_X8_flatten_b124 K13 a3 a4 a5 a6 (1 : Int32) μ else p_X8_flatten_b124 K13 a3 a4 a5 a6 (0 : Int32) μ) := Classical.choose_spec p_X8_flatten_b110_ex K13 a3 a4 a5 a6 μ
set_option maxHeartbeats 4000000 in
set_option maxRecDepth 100000 in
theorem t_X8_flatten_b110 (l : Launch) (G : Gt) (ad : Nat → Nat) (av : List Value) {μz : Mem} (K13 : Nat → Int32 → Int32 → Mem → Option Mem) (hK13 : ∀ (z3 : Nat) (w3 : sh 0 z3 = (0, 1)) (z4 : Int32) (z5 : Int32) (μ1 : Mem), K13 z3 z4 z5 μ1 = some μz → Bk l cX8_flatten 9 RX8 none ({ frames := 1, cells := 0, slots := 0, locals := 24 } : Room) G av (eV 0 G ad μz) (wd 0 G ad μ1) 13 [(0, .ref (ad 30)), (3, .ref (ad z3)), (4, .int z4), (5, .int z5)] []) (a3 : Nat) (q3 : sh 0 a3 = (0, 1)) (a4 : Int32) (a5 : Int32) (a6 : Int64) (μ : Mem) (h : p_X8_flatten_b110 K13 a3 a4 a5 a6 μ = some μz) : Bk l cX8_flatten 9 RX8 none ({ frames := 1, cells := 0, slots := 0, locals := 24 } : Room) G av (eV 0 G ad μz) (wd 0 G ad μ) 110 [(0, .ref (ad 30)), (3, .ref (ad a3)), (4, .int a4), (5, .int a5), (6, .long a6)] [] := by
  intro p e s m below meth c A ls H locs cx hr hlk hA hl hw
  have hx := cx.1
  have hb := cx.2.1
  rw [p_X8_flatten_b110_eq] at h
  refine lv_lload hx hb dX8_flatten_110 (lv_at hl 4 rfl) ?_
  refine s_callI (As := [.long a6]) (rest := []) cx hw hA (t_X0_kind l G a6) ml_X8_106 st_X0_kind in_X0 co_X0_kind hd_X0_kind rfl ⟨(Nat.le_of_ble_eq_true rfl), (Nat.le_of_ble_eq_true rfl)⟩ hl.1 rfl (Nat.le_of_ble_eq_true rfl) dX8_flatten_112 rfl (fun H locs hw => ?_)
  refine lv_iconst (v := 3) hx hb dX8_flatten_115 (by decide) ?_
  refine lv_icmp_ne (tgt := 123) hx hb dX8_flatten_116 (by decide) (fun c9 => ?_) (fun c9 => ?_)
  · rw [if_neg c9] at h
    refine lv_iconst (v := 0) hx hb dX8_flatten_123 (by decide) ?_
    exact t_X8_flatten_b124 l G ad av K13 hK13 a3 q3 a4 a5 a6 (0 : Int32) μ h p e s m below meth c A ls H locs cx hr hlk hA (lv_sub hl [0, 1, 2, 3, 4] rfl) hw
  · rw [if_pos c9] at h
    refine lv_iconst (v := 1) hx hb dX8_flatten_119 (by decide) ?_
    refine lv_goto (tgt := 124) hx hb dX8_flatten_120 (by decide) ?_
    exact t_X8_flatten_b124 l G ad av K13 hK13 a3 q3 a4 a5 a6 (1 : Int32) μ h p e s m below meth c A ls H locs cx hr hlk hA (lv_sub hl [0, 1, 2, 3, 4] rfl) hw
theorem p_X8_flatten_b13_ex : ∃ f : Nat → Nat → Int32 → Int32 → Mem → Option Mem, (∀ (a3 : Nat) (a4 : Int32) (a5 : Int32) (μ : Mem), f  0 a3 a4 a5 μ = none) ∧ (∀ (n : Nat) (a3 : Nat) (a4 : Int32) (a5 : Int32) (μ : Mem), f  (n + 1) a3 a4 a5 μ = (if (30200 : Int32) ≤ a5 then some μ else (if a4 ≤ (0 : Int32) then some μ else bv (a4 + (-1)) (fun v4 => gd (inb v4 264) (bv (μ.2.1 35 v4.toNatClampNeg) (fun v5 => bd (p_X8_isPair v5 μ) (fun r7 μ6 => (if r7 = (0 : Int32) then p_X8_flatten_b110 (f n) a3 v4 a5 v5 μ6 else (if (264 : Int32) < (v4 + (2 : Int32)) then p_X8_flatten_b110 (f n) a3 v4 a5 v5 μ6 else bw (p_X2_add a3 (8589934592 : Int64) v5 μ6) (fun μ15 => gd (inb (s_X0_bits v5) 30200) (gd (inb v4 264) (bv (sL μ15 35 v4.toNatClampNeg (μ15.2.1 32 (s_X0_bits v5).toNatClampNeg)) (fun μ17 => gd (inb (s_X0_bits v5) 30200) (gd (inb (v4 + (1 : Int32)) 264) (bv (sL μ17 35 (v4 + (1 : Int32)).toNatClampNeg (μ17.2.1 31 (s_X0_bits v5).toNatClampNeg)) (fun μ18 => bv (v4 + 2) (fun v19 => p_X8_flatten_b145 (f n) a3 v19 a5 μ18))))))))))))))))) := ⟨fun n => Nat.rec (fun (a3 : Nat) (a4 : Int32) (a5 : Int32) (μ : Mem) => none) (fun _ ih => fun (a3 : Nat) (a4 : Int32) (a5 : Int32) (μ : Mem) => (if (30200 : Int32) ≤ a5 then some μ else (if a4 ≤ (0 : Int32) then some μ else bv (a4 + (-1)) (fun v4 => gd (inb v4 264) (bv (μ.2.1 35 v4.toNatClampNeg) (fun v5 => bd (p_X8_isPair v5 μ) (fun r7 μ6 => (if r7 = (0 : Int32) then p_X8_flatten_b110 (ih) a3 v4 a5 v5 μ6 else (if (264 : Int32) < (v4 + (2 : Int32)) then p_X8_flatten_b110 (ih) a3 v4 a5 v5 μ6 else bw (p_X2_add a3 (8589934592 : Int64) v5 μ6) (fun μ15 => gd (inb (s_X0_bits v5) 30200) (gd (inb v4 264) (bv (sL μ15 35 v4.toNatClampNeg (μ15.2.1 32 (s_X0_bits v5).toNatClampNeg)) (fun μ17 => gd (inb (s_X0_bits v5) 30200) (gd (inb (v4 + (1 : Int32)) 264) (bv (sL μ17 35 (v4 + (1 : Int32)).toNatClampNeg (μ17.2.1 31 (s_X0_bits v5).toNatClampNeg)) (fun μ18 => bv (v4 + 2) (fun v19 => p_X8_flatten_b145 (ih) a3 v19 a5 μ18))))))))))))))))) n, fun  _ _ _ _ => rfl, fun  _ _ _ _ _ => rfl⟩
noncomputable def p_X8_flatten_b13 : Nat → Nat → Int32 → Int32 → Mem → Option Mem := Classical.choose p_X8_flatten_b13_ex
theorem p_X8_flatten_b13_z (a3 : Nat) (a4 : Int32) (a5 : Int32) (μ : Mem) : p_X8_flatten_b13  0 a3 a4 a5 μ = none := (Classical.choose_spec p_X8_flatten_b13_ex).1  a3 a4 a5 μ
theorem p_X8_flatten_b13_s (n : Nat) (a3 : Nat) (a4 : Int32) (a5 : Int32) (μ : Mem) : p_X8_flatten_b13  (n + 1) a3 a4 a5 μ = (if (30200 : Int32) ≤ a5 then some μ else (if a4 ≤ (0 : Int32) then some μ else bv (a4 + (-1)) (fun v4 => gd (inb v4 264) (bv (μ.2.1 35 v4.toNatClampNeg) (fun v5 => bd (p_X8_isPair v5 μ) (fun r7 μ6 => (if r7 = (0 : Int32) then p_X8_flatten_b110 (p_X8_flatten_b13  n) a3 v4 a5 v5 μ6 else (if (264 : Int32) < (v4 + (2 : Int32)) then p_X8_flatten_b110 (p_X8_flatten_b13  n) a3 v4 a5 v5 μ6 else bw (p_X2_add a3 (8589934592 : Int64) v5 μ6) (fun μ15 => gd (inb (s_X0_bits v5) 30200) (gd (inb v4 264) (bv (sL μ15 35 v4.toNatClampNeg (μ15.2.1 32 (s_X0_bits v5).toNatClampNeg)) (fun μ17 => gd (inb (s_X0_bits v5) 30200) (gd (inb (v4 + (1 : Int32)) 264) (bv (sL μ17 35 (v4 + (1 : Int32)).toNatClampNeg (μ17.2.1 31 (s_X0_bits v5).toNatClampNeg)) (fun μ18 => bv (v4 + 2) (fun v19 => p_X8_flatten_b145 (p_X8_flatten_b13  n) a3 v19 a5 μ18)))))))))))))))) := (Classical.choose_spec p_X8_flatten_b13_ex).2  n a3 a4 a5 μ
set_option maxHeartbeats 4000000 in
set_option maxRecDepth 100000 in
theorem t_X8_flatten_b13 (l : Launch) (G : Gt) (ad : Nat → Nat) (av : List Value) {μz : Mem} : ∀ (n : Nat) (a3 : Nat) (q3 : sh 0 a3 = (0, 1)) (a4 : Int32) (a5 : Int32) (μ : Mem), p_X8_flatten_b13  n a3 a4 a5 μ = some μz → Bk l cX8_flatten 9 RX8 none ({ frames := 1, cells := 0, slots := 0, locals := 24 } : Room) G av (eV 0 G ad μz) (wd 0 G ad μ) 13 [(0, .ref (ad 30)), (3, .ref (ad a3)), (4, .int a4), (5, .int a5)] [] := by
  intro n
  induction n with
  | zero => intro a3 q3 a4 a5 μ h; rw [p_X8_flatten_b13_z] at h; cases h
  | succ n ih =>
    intro a3 q3 a4 a5 μ h p e s m below meth c A ls H locs cx hr hlk hA hl hw
    have hx := cx.1
    have hb := cx.2.1
    rw [p_X8_flatten_b13_s] at h
    refine lv_iload hx hb dX8_flatten_13 (lv_at hl 3 rfl) ?_
    refine lv_sipush (v := 30200) hx hb dX8_flatten_15 (by decide) ?_
    refine lv_icmp_ge (tgt := 151) hx hb dX8_flatten_18 (by decide) (fun c2 => ?_) (fun c2 => ?_)
    · rw [if_pos c2] at h
      exact g_vret cx hr hlk hw h dX8_flatten_151
    · rw [if_neg c2] at h
      refine lv_iload hx hb dX8_flatten_21 (lv_at hl 2 rfl) ?_
      refine lv_if_le (tgt := 151) hx hb dX8_flatten_23 (by decide) (fun c3 => ?_) (fun c3 => ?_)
      · rw [if_pos c3] at h
        exact g_vret cx hr hlk hw h dX8_flatten_151
      · rw [if_neg c3] at h
        obtain ⟨v4, ev4, h⟩ := bv_ex h
        refine lv_iinc (v := v4) (lv' := [(4, .int v4), (0, .ref (ad 30)), (3, .ref (ad a3)), (5, .int a5)]) hx hb dX8_flatten_26 hl (k := 2) rfl (by rw [ev4]; rfl) (by decide) rfl (fun ls hl => ?_)
        refine lv_aload_n hx hb dX8_flatten_29 rfl (lv_at hl 1 rfl) ?_
        refine g_get cx hw inX8 (ci := 7) rfl 4 (by decide) rfl (v := .ref (ad 35)) shx_30 rfl fl_X8_29 dX8_flatten_30 ?_
        refine lv_iload hx hb dX8_flatten_33 (lv_at hl 0 rfl) ?_
        refine g_lald cx hw shx_35 h dX8_flatten_35 (fun h => ?_)
        obtain ⟨v5, ev5, h⟩ := bv_ex h
        refine lv_topl (fun y9 z9 => ?_)
        obtain rfl : v5 = y9 := ev5.trans z9.symm
        refine lv_lstore (lv' := [(6, .long v5), (4, .int v4), (0, .ref (ad 30)), (3, .ref (ad a3)), (5, .int a5)]) hx hb dX8_flatten_36 hl (by decide) rfl (fun ls hl => ?_)
        refine lv_aload_n hx hb dX8_flatten_38 rfl (lv_at hl 2 rfl) ?_
        refine lv_lload hx hb dX8_flatten_39 (lv_at hl 0 rfl) ?_
        obtain ⟨r7, μ6, gr7, h⟩ := bd_some h
        refine g_callVI (As := [.long v5]) (rest := []) cx hw hA (t_X8_isPair l G ad v5 μ gr7) shx_30 rfl ml_X8_88 im_X8_isPair se_X8_isPair in_X8 co_X8_isPair rfl hd_X8_isPair rfl ⟨(Nat.le_of_ble_eq_true rfl), (Nat.le_of_ble_eq_true rfl)⟩ hl.1 rfl (Nat.le_of_ble_eq_true rfl) dX8_flatten_41 ⟨rfl, rfl⟩ (fun H locs hw => ?_)
        refine lv_if_eq (tgt := 110) hx hb dX8_flatten_44 (by decide) (fun c8 => ?_) (fun c8 => ?_)
        · rw [if_pos c8] at h
          exact t_X8_flatten_b110 l G ad av _ ih a3 q3 v4 a5 v5 μ6 h p e s m below meth c A ls H locs cx hr hlk hA (lv_sub hl [2, 3, 1, 4, 0] rfl) hw
        · rw [if_neg c8] at h
          refine lv_iload hx hb dX8_flatten_47 (lv_at hl 1 rfl) ?_
          refine lv_iconst (v := 2) hx hb dX8_flatten_49 (by decide) ?_
          refine lv_iadd hx hb dX8_flatten_50 ?_
          refine lv_aload_n hx hb dX8_flatten_51 rfl (lv_at hl 2 rfl) ?_
          refine g_get cx hw inX8 (ci := 7) rfl 4 (by decide) rfl (v := .ref (ad 35)) shx_30 rfl fl_X8_29 dX8_flatten_52 ?_
          refine g_alen3 cx hw shx_35 (v := 264) (by decide +kernel) dX8_flatten_55 ?_
          refine lv_icmp_gt (tgt := 110) hx hb dX8_flatten_56 (by decide) (fun c14 => ?_) (fun c14 => ?_)
          · rw [if_pos c14] at h
            exact t_X8_flatten_b110 l G ad av _ ih a3 q3 v4 a5 v5 μ6 h p e s m below meth c A ls H locs cx hr hlk hA (lv_sub hl [2, 3, 1, 4, 0] rfl) hw
          · rw [if_neg c14] at h
            refine lv_aload_n hx hb dX8_flatten_59 rfl (lv_at hl 3 rfl) ?_
            refine lv_ldc2 hx hb cx.2.2.2.1 (cx.2.2.2.2.1 _ cs_X8_116) dX8_flatten_60 ?_
            refine lv_lload hx hb dX8_flatten_63 (lv_at hl 0 rfl) ?_
            obtain ⟨μ15, gμ15, h⟩ := bw_some h
            refine g_callVV (As := [.long 8589934592, .long v5]) (rest := []) cx hw hA (t_X2_add l G ad a3 q3 (8589934592 : Int64) v5 μ6 gμ15) q3 rfl ml_X8_118 im_X2_add se_X2_add in_X2 co_X2_add rfl hd_X2_add rfl ⟨(Nat.le_of_ble_eq_true rfl), (Nat.le_of_ble_eq_true rfl)⟩ hl.1 rfl (Nat.le_of_ble_eq_true rfl) dX8_flatten_65 ⟨rfl, rfl⟩ (fun H locs hw => ?_)
            refine lv_aload_n hx hb dX8_flatten_68 rfl (lv_at hl 2 rfl) ?_
            refine g_get cx hw inX8 (ci := 7) rfl 4 (by decide) rfl (v := .ref (ad 35)) shx_30 rfl fl_X8_29 dX8_flatten_69 ?_
            refine lv_iload hx hb dX8_flatten_72 (lv_at hl 1 rfl) ?_
            refine lv_aload_n hx hb dX8_flatten_74 rfl (lv_at hl 2 rfl) ?_
            refine g_get cx hw inX8 (ci := 7) rfl 1 (by decide) rfl (v := .ref (ad 32)) shx_30 rfl fl_X8_17 dX8_flatten_75 ?_
            refine lv_lload hx hb dX8_flatten_78 (lv_at hl 0 rfl) ?_
            refine s_callI (As := [.long v5]) (rest := [.ref (ad 32), .int v4, .ref (ad 35)]) cx hw hA (t_X0_bits l G v5) ml_X8_92 st_X0_bits in_X0 co_X0_bits hd_X0_bits rfl ⟨(Nat.le_of_ble_eq_true rfl), (Nat.le_of_ble_eq_true rfl)⟩ hl.1 rfl (Nat.le_of_ble_eq_true rfl) dX8_flatten_80 rfl (fun H locs hw => ?_)
            refine g_lald cx hw shx_32 h dX8_flatten_83 (fun h => ?_)
            refine g_last cx hw shx_35 h dX8_flatten_84 (fun μ17 H locs h hw => ?_)
            refine lv_aload_n hx hb dX8_flatten_85 rfl (lv_at hl 2 rfl) ?_
            refine g_get cx hw inX8 (ci := 7) rfl 4 (by decide) rfl (v := .ref (ad 35)) shx_30 rfl fl_X8_29 dX8_flatten_86 ?_
            refine lv_iload hx hb dX8_flatten_89 (lv_at hl 1 rfl) ?_
            refine lv_iconst (v := 1) hx hb dX8_flatten_91 (by decide) ?_
            refine lv_iadd hx hb dX8_flatten_92 ?_
            refine lv_aload_n hx hb dX8_flatten_93 rfl (lv_at hl 2 rfl) ?_
            refine g_get cx hw inX8 (ci := 7) rfl 0 (by decide) rfl (v := .ref (ad 31)) shx_30 rfl fl_X8_13 dX8_flatten_94 ?_
            refine lv_lload hx hb dX8_flatten_97 (lv_at hl 0 rfl) ?_
            refine s_callI (As := [.long v5]) (rest := [.ref (ad 31), .int (v4 + (1 : Int32)), .ref (ad 35)]) cx hw hA (t_X0_bits l G v5) ml_X8_92 st_X0_bits in_X0 co_X0_bits hd_X0_bits rfl ⟨(Nat.le_of_ble_eq_true rfl), (Nat.le_of_ble_eq_true rfl)⟩ hl.1 rfl (Nat.le_of_ble_eq_true rfl) dX8_flatten_99 rfl (fun H locs hw => ?_)
            refine g_lald cx hw shx_31 h dX8_flatten_102 (fun h => ?_)
            refine g_last cx hw shx_35 h dX8_flatten_103 (fun μ18 H locs h hw => ?_)
            obtain ⟨v19, ev19, h⟩ := bv_ex h
            refine lv_iinc (v := v19) (lv' := [(4, .int v19), (6, .long v5), (0, .ref (ad 30)), (3, .ref (ad a3)), (5, .int a5)]) hx hb dX8_flatten_104 hl (k := 1) rfl (by rw [ev19]; rfl) (by decide) rfl (fun ls hl => ?_)
            refine lv_goto (tgt := 145) hx hb dX8_flatten_107 (by decide) ?_
            exact t_X8_flatten_b145 l G ad av _ ih a3 q3 v19 a5 μ18 h p e s m below meth c A ls H locs cx hr hlk hA (lv_sub hl [2, 3, 0, 4] rfl) hw
theorem p_X8_flatten_ex : ∃ f : Int64 → Nat → Mem → Option Mem, ∀ (a1 : Int64) (a3 : Nat) (μ : Mem), f a1 a3 μ = gd (inb (0 : Int32) 264) (bv (sL μ 35 (0 : Int32).toNatClampNeg a1) (fun μ1 => p_X8_flatten_b13  FUEL a3 (1 : Int32) (0 : Int32) μ1)) := ⟨fun (a1 : Int64) (a3 : Nat) (μ : Mem) => gd (inb (0 : Int32) 264) (bv (sL μ 35 (0 : Int32).toNatClampNeg a1) (fun μ1 => p_X8_flatten_b13  FUEL a3 (1 : Int32) (0 : Int32) μ1)), fun _ _ _ => rfl⟩
noncomputable def p_X8_flatten : Int64 → Nat → Mem → Option Mem := Classical.choose p_X8_flatten_ex
theorem p_X8_flatten_eq (a1 : Int64) (a3 : Nat) (μ : Mem) : p_X8_flatten a1 a3 μ = gd (inb (0 : Int32) 264) (bv (sL μ 35 (0 : Int32).toNatClampNeg a1) (fun μ1 => p_X8_flatten_b13  FUEL a3 (1 : Int32) (0 : Int32) μ1)) := Classical.choose_spec p_X8_flatten_ex a1 a3 μ
set_option maxHeartbeats 4000000 in
set_option maxRecDepth 100000 in
theorem t_X8_flatten (l : Launch) (G : Gt) (ad : Nat → Nat) (a1 : Int64) (a3 : Nat) (q3 : sh 0 a3 = (0, 1)) (μ : Mem) {μz : Mem} (h : p_X8_flatten a1 a3 μ = some μz) : Mt l yX8_flatten cX8_flatten 9 none ({ frames := 1, cells := 0, slots := 0, locals := 24 } : Room) G [.ref (ad 30), .long a1, .ref (ad a3)] (wd 0 G ad μ) (eV 0 G ad μz) := by
  refine Bk.mt (by decide) rfl (Nat.le_of_ble_eq_true rfl) ?_
  intro p e s m below meth c A ls H locs cx hr hlk hA hl hw
  have hx := cx.1
  have hb := cx.2.1
  have hl : lv_has ls 9 [(0, .ref (ad 30)), (1, .long a1), (3, .ref (ad a3))] := hl
  rw [p_X8_flatten_eq] at h
  refine lv_aload_n hx hb dX8_flatten_0 rfl (lv_at hl 0 rfl) ?_
  refine g_get cx hw inX8 (ci := 7) rfl 4 (by decide) rfl (v := .ref (ad 35)) shx_30 rfl fl_X8_29 dX8_flatten_1 ?_
  refine lv_iconst (v := 0) hx hb dX8_flatten_4 (by decide) ?_
  refine lv_lload_n hx hb dX8_flatten_5 rfl (lv_at hl 1 rfl) ?_
  refine g_last cx hw shx_35 h dX8_flatten_6 (fun μ1 H locs h hw => ?_)
  refine lv_iconst (v := 1) hx hb dX8_flatten_7 (by decide) ?_
  refine lv_istore (lv' := [(4, .int 1), (0, .ref (ad 30)), (1, .long a1), (3, .ref (ad a3))]) hx hb dX8_flatten_8 hl (by decide) rfl (fun ls hl => ?_)
  refine lv_iconst (v := 0) hx hb dX8_flatten_10 (by decide) ?_
  refine lv_istore (lv' := [(5, .int 0), (4, .int 1), (0, .ref (ad 30)), (1, .long a1), (3, .ref (ad a3))]) hx hb dX8_flatten_11 hl (by decide) rfl (fun ls hl => ?_)
  exact t_X8_flatten_b13 l G ad _  FUEL a3 q3 (1 : Int32) (0 : Int32) μ1 h p e s m below meth c A ls H locs cx hr hlk hA (lv_sub hl [2, 4, 1, 0] rfl) hw

theorem p_X2_behind_b39_ex : ∃ f : (Nat → Int32 → Int32 → Mem → Option (Int32 × Mem)) → Nat → Int32 → Int32 → Int32 → Mem → Option (Int32 × Mem), ∀ (K8 : Nat → Int32 → Int32 → Mem → Option (Int32 × Mem)) (a0 : Nat) (a3 : Int32) (k0 : Int32) (k1 : Int32) (μ : Mem), f K8 a0 a3 k0 k1 μ = bv (k1 + k0) (fun v5 => bv (a3 + 1) (fun v6 => K8 a0 v5 v6 μ)) := ⟨fun (K8 : Nat → Int32 → Int32 → Mem → Option (Int32 × Mem)) (a0 : Nat) (a3 : Int32) (k0 : Int32) (k1 : Int32) (μ : Mem) => bv (k1 + k0) (fun v5 => bv (a3 + 1) (fun v6 => K8 a0 v5 v6 μ)), fun _ _ _ _ _ _ => rfl⟩
noncomputable def p_X2_behind_b39 : (Nat → Int32 → Int32 → Mem → Option (Int32 × Mem)) → Nat → Int32 → Int32 → Int32 → Mem → Option (Int32 × Mem) := Classical.choose p_X2_behind_b39_ex
theorem p_X2_behind_b39_eq (K8 : Nat → Int32 → Int32 → Mem → Option (Int32 × Mem)) (a0 : Nat) (a3 : Int32) (k0 : Int32) (k1 : Int32) (μ : Mem) : p_X2_behind_b39 K8 a0 a3 k0 k1 μ = bv (k1 + k0) (fun v5 => bv (a3 + 1) (fun v6 => K8 a0 v5 v6 μ)) := Classical.choose_spec p_X2_behind_b39_ex K8 a0 a3 k0 k1 μ
set_option maxHeartbeats 4000000 in
set_option maxRecDepth 100000 in
theorem t_X2_behind_b39 (l : Launch) (G : Gt) (ad : Nat → Nat) (av : List Value) {r : Int32} {μz : Mem} (K8 : Nat → Int32 → Int32 → Mem → Option (Int32 × Mem)) (hK8 : ∀ (z0 : Nat) (w0 : sh 0 z0 = (0, 1)) (z2 : Int32) (z3 : Int32) (μ1 : Mem), K8 z0 z2 z3 μ1 = some (r, μz) → Bk l cX2_behind 4 RX2 (some .int) ({ frames := 1, cells := 0, slots := 0, locals := 24 } : Room) G av (eI 0 G ad r μz) (wd 0 G ad μ1) 8 [(0, .ref (ad z0)), (2, .int z2), (3, .int z3)] []) (a0 : Nat) (q0 : sh 0 a0 = (0, 1)) (a3 : Int32) (k0 : Int32) (k1 : Int32) (μ : Mem) (h : p_X2_behind_b39 K8 a0 a3 k0 k1 μ = some (r, μz)) : Bk l cX2_behind 4 RX2 (some .int) ({ frames := 1, cells := 0, slots := 0, locals := 24 } : Room) G av (eI 0 G ad r μz) (wd 0 G ad μ) 39 [(0, .ref (ad a0)), (3, .int a3)] [.int k0, .int k1] := by
  intro p e s m below meth c A ls H locs cx hr hlk hA hl hw
  have hx := cx.1
  have hb := cx.2.1
  rw [p_X2_behind_b39_eq] at h
  refine lv_iadd hx hb dX2_behind_39 ?_
  obtain ⟨v5, ev5, h⟩ := bv_ex h
  refine lv_topi (fun y9 z9 => ?_)
  obtain rfl : v5 = y9 := ev5.trans z9.symm
  refine lv_istore_n (lv' := [(2, .int v5), (0, .ref (ad a0)), (3, .int a3)]) hx hb dX2_behind_40 rfl hl (by decide) rfl (fun ls hl => ?_)
  obtain ⟨v6, ev6, h⟩ := bv_ex h
  refine lv_iinc (v := v6) (lv' := [(3, .int v6), (2, .int v5), (0, .ref (ad a0))]) hx hb dX2_behind_41 hl (k := 2) rfl (by rw [ev6]; rfl) (by decide) rfl (fun ls hl => ?_)
  refine lv_goto (tgt := 8) hx hb dX2_behind_44 (by decide) ?_
  exact hK8 a0 q0 v5 v6 μ h p e s m below meth c A ls H locs cx hr hlk hA (lv_sub hl [2, 1, 0] rfl) hw
theorem p_X2_behind_b8_ex : ∃ f : Nat → Nat → Int32 → Int32 → Mem → Option (Int32 × Mem), (∀ (a0 : Nat) (a2 : Int32) (a3 : Int32) (μ : Mem), f  0 a0 a2 a3 μ = none) ∧ (∀ (n : Nat) (a0 : Nat) (a2 : Int32) (a3 : Int32) (μ : Mem), f  (n + 1) a0 a2 a3 μ = (if (μ.1 a0 2) ≤ a3 then some (a3, μ) else (if a2 ≤ (0 : Int32) then some (a3, μ) else gd (inb a3 ((sh 0 (a0 + 1)).2)) ((if (s_X0_kind (μ.2.1 (a0 + 1) a3.toNatClampNeg)) = (2 : Int32) then p_X2_behind_b39 (f n) a0 a3 (1 : Int32) a2 μ else p_X2_behind_b39 (f n) a0 a3 (-1 : Int32) a2 μ))))) := ⟨fun n => Nat.rec (fun (a0 : Nat) (a2 : Int32) (a3 : Int32) (μ : Mem) => none) (fun _ ih => fun (a0 : Nat) (a2 : Int32) (a3 : Int32) (μ : Mem) => (if (μ.1 a0 2) ≤ a3 then some (a3, μ) else (if a2 ≤ (0 : Int32) then some (a3, μ) else gd (inb a3 ((sh 0 (a0 + 1)).2)) ((if (s_X0_kind (μ.2.1 (a0 + 1) a3.toNatClampNeg)) = (2 : Int32) then p_X2_behind_b39 (ih) a0 a3 (1 : Int32) a2 μ else p_X2_behind_b39 (ih) a0 a3 (-1 : Int32) a2 μ))))) n, fun  _ _ _ _ => rfl, fun  _ _ _ _ _ => rfl⟩
noncomputable def p_X2_behind_b8 : Nat → Nat → Int32 → Int32 → Mem → Option (Int32 × Mem) := Classical.choose p_X2_behind_b8_ex
theorem p_X2_behind_b8_z (a0 : Nat) (a2 : Int32) (a3 : Int32) (μ : Mem) : p_X2_behind_b8  0 a0 a2 a3 μ = none := (Classical.choose_spec p_X2_behind_b8_ex).1  a0 a2 a3 μ
theorem p_X2_behind_b8_s (n : Nat) (a0 : Nat) (a2 : Int32) (a3 : Int32) (μ : Mem) : p_X2_behind_b8  (n + 1) a0 a2 a3 μ = (if (μ.1 a0 2) ≤ a3 then some (a3, μ) else (if a2 ≤ (0 : Int32) then some (a3, μ) else gd (inb a3 ((sh 0 (a0 + 1)).2)) ((if (s_X0_kind (μ.2.1 (a0 + 1) a3.toNatClampNeg)) = (2 : Int32) then p_X2_behind_b39 (p_X2_behind_b8  n) a0 a3 (1 : Int32) a2 μ else p_X2_behind_b39 (p_X2_behind_b8  n) a0 a3 (-1 : Int32) a2 μ)))) := (Classical.choose_spec p_X2_behind_b8_ex).2  n a0 a2 a3 μ
set_option maxHeartbeats 4000000 in
set_option maxRecDepth 100000 in
theorem t_X2_behind_b8 (l : Launch) (G : Gt) (ad : Nat → Nat) (av : List Value) {r : Int32} {μz : Mem} : ∀ (n : Nat) (a0 : Nat) (q0 : sh 0 a0 = (0, 1)) (a2 : Int32) (a3 : Int32) (μ : Mem), p_X2_behind_b8  n a0 a2 a3 μ = some (r, μz) → Bk l cX2_behind 4 RX2 (some .int) ({ frames := 1, cells := 0, slots := 0, locals := 24 } : Room) G av (eI 0 G ad r μz) (wd 0 G ad μ) 8 [(0, .ref (ad a0)), (2, .int a2), (3, .int a3)] [] := by
  intro n
  induction n with
  | zero => intro a0 q0 a2 a3 μ h; rw [p_X2_behind_b8_z] at h; cases h
  | succ n ih =>
    intro a0 q0 a2 a3 μ h p e s m below meth c A ls H locs cx hr hlk hA hl hw
    have hx := cx.1
    have hb := cx.2.1
    rw [p_X2_behind_b8_s] at h
    refine lv_iload_n hx hb dX2_behind_8 rfl (lv_at hl 2 rfl) ?_
    refine lv_aload_n hx hb dX2_behind_9 rfl (lv_at hl 0 rfl) ?_
    refine g_get cx hw inX2 (ci := 1) rfl 2 (by decide) rfl (v := .int (μ.1 a0 2)) q0 rfl fl_X2_18 dX2_behind_10 ?_
    refine lv_icmp_ge (tgt := 47) hx hb dX2_behind_13 (by decide) (fun c2 => ?_) (fun c2 => ?_)
    · rw [if_pos c2] at h
      refine lv_iload_n hx hb dX2_behind_47 rfl (lv_at hl 2 rfl) ?_
      exact g_iret cx hr hlk hw h dX2_behind_48
    · rw [if_neg c2] at h
      refine lv_iload_n hx hb dX2_behind_16 rfl (lv_at hl 1 rfl) ?_
      refine lv_if_le (tgt := 47) hx hb dX2_behind_17 (by decide) (fun c3 => ?_) (fun c3 => ?_)
      · rw [if_pos c3] at h
        refine lv_iload_n hx hb dX2_behind_47 rfl (lv_at hl 2 rfl) ?_
        exact g_iret cx hr hlk hw h dX2_behind_48
      · rw [if_neg c3] at h
        refine lv_iload_n hx hb dX2_behind_20 rfl (lv_at hl 1 rfl) ?_
        refine lv_aload_n hx hb dX2_behind_21 rfl (lv_at hl 0 rfl) ?_
        refine g_get cx hw inX2 (ci := 1) rfl 0 (by decide) rfl (v := .ref (ad (a0 + 1))) q0 rfl fl_X2_9 dX2_behind_22 ?_
        refine lv_iload_n hx hb dX2_behind_25 rfl (lv_at hl 2 rfl) ?_
        refine g_lald cx hw (rl_X2_0 q0) h dX2_behind_26 (fun h => ?_)
        refine s_callI (As := [.long (μ.2.1 (a0 + 1) a3.toNatClampNeg)]) (rest := [.int a2]) cx hw hA (t_X0_kind l G (μ.2.1 (a0 + 1) a3.toNatClampNeg)) ml_X2_37 st_X0_kind in_X0 co_X0_kind hd_X0_kind rfl ⟨(Nat.le_of_ble_eq_true rfl), (Nat.le_of_ble_eq_true rfl)⟩ hl.1 rfl (Nat.le_of_ble_eq_true rfl) dX2_behind_27 rfl (fun H locs hw => ?_)
        refine lv_iconst (v := 2) hx hb dX2_behind_30 (by decide) ?_
        refine lv_icmp_ne (tgt := 38) hx hb dX2_behind_31 (by decide) (fun c4 => ?_) (fun c4 => ?_)
        · rw [if_neg c4] at h
          refine lv_iconst (v := (-1)) hx hb dX2_behind_38 (by decide) ?_
          exact t_X2_behind_b39 l G ad av _ ih a0 q0 a3 (-1 : Int32) a2 μ h p e s m below meth c A ls H locs cx hr hlk hA (lv_sub hl [0, 2] rfl) hw
        · rw [if_pos c4] at h
          refine lv_iconst (v := 1) hx hb dX2_behind_34 (by decide) ?_
          refine lv_goto (tgt := 39) hx hb dX2_behind_35 (by decide) ?_
          exact t_X2_behind_b39 l G ad av _ ih a0 q0 a3 (1 : Int32) a2 μ h p e s m below meth c A ls H locs cx hr hlk hA (lv_sub hl [0, 2] rfl) hw
theorem p_X2_behind_ex : ∃ f : Nat → Int32 → Mem → Option (Int32 × Mem), ∀ (a0 : Nat) (a1 : Int32) (μ : Mem), f a0 a1 μ = bv (imax (0 : Int32) a1) (fun v1 => p_X2_behind_b8  FUEL a0 (1 : Int32) v1 μ) := ⟨fun (a0 : Nat) (a1 : Int32) (μ : Mem) => bv (imax (0 : Int32) a1) (fun v1 => p_X2_behind_b8  FUEL a0 (1 : Int32) v1 μ), fun _ _ _ => rfl⟩
noncomputable def p_X2_behind : Nat → Int32 → Mem → Option (Int32 × Mem) := Classical.choose p_X2_behind_ex
theorem p_X2_behind_eq (a0 : Nat) (a1 : Int32) (μ : Mem) : p_X2_behind a0 a1 μ = bv (imax (0 : Int32) a1) (fun v1 => p_X2_behind_b8  FUEL a0 (1 : Int32) v1 μ) := Classical.choose_spec p_X2_behind_ex a0 a1 μ
set_option maxHeartbeats 4000000 in
set_option maxRecDepth 100000 in
theorem t_X2_behind (l : Launch) (G : Gt) (ad : Nat → Nat) (a0 : Nat) (q0 : sh 0 a0 = (0, 1)) (a1 : Int32) (μ : Mem) {r : Int32} {μz : Mem} (h : p_X2_behind a0 a1 μ = some (r, μz)) : Mt l yX2_behind cX2_behind 4 (some .int) ({ frames := 1, cells := 0, slots := 0, locals := 24 } : Room) G [.ref (ad a0), .int a1] (wd 0 G ad μ) (eI 0 G ad r μz) := by
  refine Bk.mt (by decide) rfl (Nat.le_of_ble_eq_true rfl) ?_
  intro p e s m below meth c A ls H locs cx hr hlk hA hl hw
  have hx := cx.1
  have hb := cx.2.1
  have hl : lv_has ls 4 [(0, .ref (ad a0)), (1, .int a1)] := hl
  rw [p_X2_behind_eq] at h
  refine lv_iconst (v := 1) hx hb dX2_behind_0 (by decide) ?_
  refine lv_istore_n (lv' := [(2, .int 1), (0, .ref (ad a0)), (1, .int a1)]) hx hb dX2_behind_1 rfl hl (by decide) rfl (fun ls hl => ?_)
  refine lv_iconst (v := 0) hx hb dX2_behind_2 (by decide) ?_
  refine lv_iload_n hx hb dX2_behind_3 rfl (lv_at hl 2 rfl) ?_
  refine r_mmax (v := (imax (0 : Int32) a1)) cx ml_X2_45 hl.1 (Nat.le_of_ble_eq_true rfl) (Nat.le_of_ble_eq_true rfl) (Nat.le_of_ble_eq_true rfl) (Nat.le_of_ble_eq_true rfl) rfl dX2_behind_4 ?_
  obtain ⟨v1, ev1, h⟩ := bv_ex h
  refine lv_topi (fun y9 z9 => ?_)
  obtain rfl : v1 = y9 := ev1.trans z9.symm
  refine lv_istore_n (lv' := [(3, .int v1), (2, .int 1), (0, .ref (ad a0)), (1, .int a1)]) hx hb dX2_behind_7 rfl hl (by decide) rfl (fun ls hl => ?_)
  exact t_X2_behind_b8 l G ad _  FUEL a0 q0 (1 : Int32) v1 μ h p e s m below meth c A ls H locs cx hr hlk hA (lv_sub hl [2, 1, 0] rfl) hw

theorem s_X2_isGrown_ex : ∃ f : Int64 → Int64 → Int32, ∀ (a0 : Int64) (a2 : Int64), f a0 a2 = (if (s_X0_isKnown a2) = (0 : Int32) then (0 : Int32) else (if (lg_cmp a0 (8589934592 : Int64)) = (0 : Int32) then (1 : Int32) else (if (s_X0_isKnown a0) = (0 : Int32) then (0 : Int32) else (if (lg_cmp a0 a2) = (0 : Int32) then (0 : Int32) else bv ((s_X0_floatBits a0) &&& (2147483647 : Int32)) (fun v5 => (if (s_X0_isBelow v5 ((s_X0_floatBits a2) &&& (2147483647 : Int32))) = (0 : Int32) then (1 : Int32) else (0 : Int32))))))) := ⟨fun (a0 : Int64) (a2 : Int64) => (if (s_X0_isKnown a2) = (0 : Int32) then (0 : Int32) else (if (lg_cmp a0 (8589934592 : Int64)) = (0 : Int32) then (1 : Int32) else (if (s_X0_isKnown a0) = (0 : Int32) then (0 : Int32) else (if (lg_cmp a0 a2) = (0 : Int32) then (0 : Int32) else bv ((s_X0_floatBits a0) &&& (2147483647 : Int32)) (fun v5 => (if (s_X0_isBelow v5 ((s_X0_floatBits a2) &&& (2147483647 : Int32))) = (0 : Int32) then (1 : Int32) else (0 : Int32))))))), fun _ _ => rfl⟩
noncomputable def s_X2_isGrown : Int64 → Int64 → Int32 := Classical.choose s_X2_isGrown_ex
theorem s_X2_isGrown_eq (a0 : Int64) (a2 : Int64) : s_X2_isGrown a0 a2 = (if (s_X0_isKnown a2) = (0 : Int32) then (0 : Int32) else (if (lg_cmp a0 (8589934592 : Int64)) = (0 : Int32) then (1 : Int32) else (if (s_X0_isKnown a0) = (0 : Int32) then (0 : Int32) else (if (lg_cmp a0 a2) = (0 : Int32) then (0 : Int32) else bv ((s_X0_floatBits a0) &&& (2147483647 : Int32)) (fun v5 => (if (s_X0_isBelow v5 ((s_X0_floatBits a2) &&& (2147483647 : Int32))) = (0 : Int32) then (1 : Int32) else (0 : Int32))))))) := Classical.choose_spec s_X2_isGrown_ex a0 a2
set_option maxHeartbeats 4000000 in
set_option maxRecDepth 100000 in
theorem t_X2_isGrown (l : Launch) (G : Gt) (a0 : Int64) (a2 : Int64) : Mt l yX2_isGrown cX2_isGrown 5 (some .boolean) ({ frames := 4, cells := 0, slots := 0, locals := 99 } : Room) G [.long a0, .long a2] [] (sI G (s_X2_isGrown a0 a2)) := by
  obtain ⟨r, h⟩ : ∃ r, s_X2_isGrown a0 a2 = r := ⟨_, rfl⟩
  rw [h]
  refine Bk.mt (by decide) rfl (Nat.le_of_ble_eq_true rfl) ?_
  intro p e s m below meth c A ls H locs cx hr hlk hA hl hw
  have hx := cx.1
  have hb := cx.2.1
  have hl : lv_has ls 5 [(0, .long a0), (2, .long a2)] := hl
  rw [s_X2_isGrown_eq] at h
  refine lv_lload_n hx hb dX2_isGrown_0 rfl (lv_at hl 1 rfl) ?_
  refine s_callI (As := [.long a2]) (rest := []) cx hw hA (t_X0_isKnown l G a2) ml_X2_41 st_X0_isKnown in_X0 co_X0_isKnown hd_X0_isKnown rfl ⟨(Nat.le_of_ble_eq_true rfl), (Nat.le_of_ble_eq_true rfl)⟩ hl.1 rfl (Nat.le_of_ble_eq_true rfl) dX2_isGrown_1 rfl (fun H locs hw => ?_)
  refine lv_if_ne (tgt := 9) hx hb dX2_isGrown_4 (by decide) (fun c1 => ?_) (fun c1 => ?_)
  · rw [if_neg c1] at h
    refine lv_lload_n hx hb dX2_isGrown_9 rfl (lv_at hl 0 rfl) ?_
    refine lv_ldc2 hx hb cx.2.2.2.1 (cx.2.2.2.2.1 _ cs_X2_55) dX2_isGrown_10 ?_
    refine W.lcmp hx hb dX2_isGrown_13 ?_
    refine lv_if_ne (tgt := 19) hx hb dX2_isGrown_14 (by decide) (fun c2 => ?_) (fun c2 => ?_)
    · rw [if_neg c2] at h
      refine lv_lload_n hx hb dX2_isGrown_19 rfl (lv_at hl 0 rfl) ?_
      refine s_callI (As := [.long a0]) (rest := []) cx hw hA (t_X0_isKnown l G a0) ml_X2_41 st_X0_isKnown in_X0 co_X0_isKnown hd_X0_isKnown rfl ⟨(Nat.le_of_ble_eq_true rfl), (Nat.le_of_ble_eq_true rfl)⟩ hl.1 rfl (Nat.le_of_ble_eq_true rfl) dX2_isGrown_20 rfl (fun H locs hw => ?_)
      refine lv_if_eq (tgt := 32) hx hb dX2_isGrown_23 (by decide) (fun c3 => ?_) (fun c3 => ?_)
      · rw [if_pos c3] at h
        refine lv_iconst (v := 0) hx hb dX2_isGrown_32 (by decide) ?_
        exact s_zret cx hr hlk rfl hw h dX2_isGrown_33
      · rw [if_neg c3] at h
        refine lv_lload_n hx hb dX2_isGrown_26 rfl (lv_at hl 0 rfl) ?_
        refine lv_lload_n hx hb dX2_isGrown_27 rfl (lv_at hl 1 rfl) ?_
        refine W.lcmp hx hb dX2_isGrown_28 ?_
        refine lv_if_ne (tgt := 34) hx hb dX2_isGrown_29 (by decide) (fun c4 => ?_) (fun c4 => ?_)
        · rw [if_neg c4] at h
          refine lv_lload_n hx hb dX2_isGrown_34 rfl (lv_at hl 0 rfl) ?_
          refine s_callI (As := [.long a0]) (rest := []) cx hw hA (t_X0_floatBits l G a0) ml_X2_63 st_X0_floatBits in_X0 co_X0_floatBits hd_X0_floatBits rfl ⟨(Nat.le_of_ble_eq_true rfl), (Nat.le_of_ble_eq_true rfl)⟩ hl.1 rfl (Nat.le_of_ble_eq_true rfl) dX2_isGrown_35 rfl (fun H locs hw => ?_)
          refine lv_ldc hx hb cx.2.2.2.1 (cx.2.2.2.2.1 _ cs_X2_66) dX2_isGrown_38 ?_
          refine lv_iand hx hb dX2_isGrown_40 ?_
          obtain ⟨v5, ev5, h⟩ := bv_ex h
          refine lv_topi (fun y9 z9 => ?_)
          obtain rfl : v5 = y9 := ev5.trans z9.symm
          refine lv_istore (lv' := [(4, .int v5), (0, .long a0), (2, .long a2)]) hx hb dX2_isGrown_41 hl (by decide) rfl (fun ls hl => ?_)
          refine lv_iload hx hb dX2_isGrown_43 (lv_at hl 0 rfl) ?_
          refine lv_lload_n hx hb dX2_isGrown_45 rfl (lv_at hl 2 rfl) ?_
          refine s_callI (As := [.long a2]) (rest := [.int v5]) cx hw hA (t_X0_floatBits l G a2) ml_X2_63 st_X0_floatBits in_X0 co_X0_floatBits hd_X0_floatBits rfl ⟨(Nat.le_of_ble_eq_true rfl), (Nat.le_of_ble_eq_true rfl)⟩ hl.1 rfl (Nat.le_of_ble_eq_true rfl) dX2_isGrown_46 rfl (fun H locs hw => ?_)
          refine lv_ldc hx hb cx.2.2.2.1 (cx.2.2.2.2.1 _ cs_X2_66) dX2_isGrown_49 ?_
          refine lv_iand hx hb dX2_isGrown_51 ?_
          refine s_callI (As := [.int v5, .int ((s_X0_floatBits a2) &&& (2147483647 : Int32))]) (rest := []) cx hw hA (t_X0_isBelow l G v5 ((s_X0_floatBits a2) &&& (2147483647 : Int32))) ml_X2_67 st_X0_isBelow in_X0 co_X0_isBelow hd_X0_isBelow rfl ⟨(Nat.le_of_ble_eq_true rfl), (Nat.le_of_ble_eq_true rfl)⟩ hl.1 rfl (Nat.le_of_ble_eq_true rfl) dX2_isGrown_52 rfl (fun H locs hw => ?_)
          refine lv_if_ne (tgt := 62) hx hb dX2_isGrown_55 (by decide) (fun c6 => ?_) (fun c6 => ?_)
          · rw [if_neg c6] at h
            refine lv_iconst (v := 0) hx hb dX2_isGrown_62 (by decide) ?_
            exact s_zret cx hr hlk rfl hw h dX2_isGrown_63
          · rw [if_pos c6] at h
            refine lv_iconst (v := 1) hx hb dX2_isGrown_58 (by decide) ?_
            refine lv_goto (tgt := 63) hx hb dX2_isGrown_59 (by decide) ?_
            exact s_zret cx hr hlk rfl hw h dX2_isGrown_63
        · rw [if_pos c4] at h
          refine lv_iconst (v := 0) hx hb dX2_isGrown_32 (by decide) ?_
          exact s_zret cx hr hlk rfl hw h dX2_isGrown_33
    · rw [if_pos c2] at h
      refine lv_iconst (v := 1) hx hb dX2_isGrown_17 (by decide) ?_
      exact s_zret cx hr hlk rfl hw h dX2_isGrown_18
  · rw [if_pos c1] at h
    refine lv_iconst (v := 0) hx hb dX2_isGrown_7 (by decide) ?_
    exact s_zret cx hr hlk rfl hw h dX2_isGrown_8

theorem p_X2_growBeside_b171_ex : ∃ f : (Nat → Nat → Nat → Int32 → Int32 → Int32 → Int32 → Mem → Option (Int32 × Mem)) → Nat → Nat → Nat → Int32 → Int32 → Int32 → Int32 → Mem → Option (Int32 × Mem), ∀ (K19 : Nat → Nat → Nat → Int32 → Int32 → Int32 → Int32 → Mem → Option (Int32 × Mem)) (a0 : Nat) (a1 : Nat) (a2 : Nat) (a3 : Int32) (a4 : Int32) (a5 : Int32) (a6 : Int32) (μ : Mem), f K19 a0 a1 a2 a3 a4 a5 a6 μ = bv (a6 + 1) (fun v14 => K19 a0 a1 a2 a3 a4 a5 v14 μ) := ⟨fun (K19 : Nat → Nat → Nat → Int32 → Int32 → Int32 → Int32 → Mem → Option (Int32 × Mem)) (a0 : Nat) (a1 : Nat) (a2 : Nat) (a3 : Int32) (a4 : Int32) (a5 : Int32) (a6 : Int32) (μ : Mem) => bv (a6 + 1) (fun v14 => K19 a0 a1 a2 a3 a4 a5 v14 μ), fun _ _ _ _ _ _ _ _ _ => rfl⟩
noncomputable def p_X2_growBeside_b171 : (Nat → Nat → Nat → Int32 → Int32 → Int32 → Int32 → Mem → Option (Int32 × Mem)) → Nat → Nat → Nat → Int32 → Int32 → Int32 → Int32 → Mem → Option (Int32 × Mem) := Classical.choose p_X2_growBeside_b171_ex
theorem p_X2_growBeside_b171_eq (K19 : Nat → Nat → Nat → Int32 → Int32 → Int32 → Int32 → Mem → Option (Int32 × Mem)) (a0 : Nat) (a1 : Nat) (a2 : Nat) (a3 : Int32) (a4 : Int32) (a5 : Int32) (a6 : Int32) (μ : Mem) : p_X2_growBeside_b171 K19 a0 a1 a2 a3 a4 a5 a6 μ = bv (a6 + 1) (fun v14 => K19 a0 a1 a2 a3 a4 a5 v14 μ) := Classical.choose_spec p_X2_growBeside_b171_ex K19 a0 a1 a2 a3 a4 a5 a6 μ
set_option maxHeartbeats 4000000 in
set_option maxRecDepth 100000 in
theorem t_X2_growBeside_b171 (l : Launch) (G : Gt) (ad : Nat → Nat) (av : List Value) {r : Int32} {μz : Mem} (K19 : Nat → Nat → Nat → Int32 → Int32 → Int32 → Int32 → Mem → Option (Int32 × Mem)) (hK19 : ∀ (z0 : Nat) (w0 : sh 0 z0 = (0, 1)) (z1 : Nat) (w1 : sh 0 z1 = (0, 1)) (z2 : Nat) (w2 : sh 0 z2 = (0, 1)) (z3 : Int32) (z4 : Int32) (z5 : Int32) (z6 : Int32) (μ1 : Mem), K19 z0 z1 z2 z3 z4 z5 z6 μ1 = some (r, μz) → Bk l cX2_growBeside 8 RX2 (some .int) ({ frames := 5, cells := 0, slots := 0, locals := 123 } : Room) G av (eI 0 G ad r μz) (wd 0 G ad μ1) 19 [(0, .ref (ad z0)), (1, .ref (ad z1)), (2, .ref (ad z2)), (3, .int z3), (4, .int z4), (5, .int z5), (6, .int z6)] []) (a0 : Nat) (q0 : sh 0 a0 = (0, 1)) (a1 : Nat) (q1 : sh 0 a1 = (0, 1)) (a2 : Nat) (q2 : sh 0 a2 = (0, 1)) (a3 : Int32) (a4 : Int32) (a5 : Int32) (a6 : Int32) (μ : Mem) (h : p_X2_growBeside_b171 K19 a0 a1 a2 a3 a4 a5 a6 μ = some (r, μz)) : Bk l cX2_growBeside 8 RX2 (some .int) ({ frames := 5, cells := 0, slots := 0, locals := 123 } : Room) G av (eI 0 G ad r μz) (wd 0 G ad μ) 171 [(0, .ref (ad a0)), (1, .ref (ad a1)), (2, .ref (ad a2)), (3, .int a3), (4, .int a4), (5, .int a5), (6, .int a6)] [] := by
  intro p e s m below meth c A ls H locs cx hr hlk hA hl hw
  have hx := cx.1
  have hb := cx.2.1
  rw [p_X2_growBeside_b171_eq] at h
  obtain ⟨v14, ev14, h⟩ := bv_ex h
  refine lv_iinc (v := v14) (lv' := [(6, .int v14), (0, .ref (ad a0)), (1, .ref (ad a1)), (2, .ref (ad a2)), (3, .int a3), (4, .int a4), (5, .int a5)]) hx hb dX2_growBeside_171 hl (k := 6) rfl (by rw [ev14]; rfl) (by decide) rfl (fun ls hl => ?_)
  refine lv_goto (tgt := 19) hx hb dX2_growBeside_174 (by decide) ?_
  exact hK19 a0 q0 a1 q1 a2 q2 a3 a4 a5 v14 μ h p e s m below meth c A ls H locs cx hr hlk hA (lv_sub hl [1, 2, 3, 4, 5, 6, 0] rfl) hw
theorem p_X2_growBeside_b159_ex : ∃ f : (Nat → Nat → Nat → Int32 → Int32 → Int32 → Int32 → Mem → Option (Int32 × Mem)) → Nat → Nat → Nat → Int32 → Int32 → Int32 → Int32 → Mem → Option (Int32 × Mem), ∀ (K19 : Nat → Nat → Nat → Int32 → Int32 → Int32 → Int32 → Mem → Option (Int32 × Mem)) (a0 : Nat) (a1 : Nat) (a2 : Nat) (a3 : Int32) (a5 : Int32) (a6 : Int32) (a7 : Int32) (μ : Mem), f K19 a0 a1 a2 a3 a5 a6 a7 μ = bd (p_X2_behind a1 a5 μ) (fun r13 μ12 => p_X2_growBeside_b171 K19 a0 a1 a2 a3 a7 r13 a6 μ12) := ⟨fun (K19 : Nat → Nat → Nat → Int32 → Int32 → Int32 → Int32 → Mem → Option (Int32 × Mem)) (a0 : Nat) (a1 : Nat) (a2 : Nat) (a3 : Int32) (a5 : Int32) (a6 : Int32) (a7 : Int32) (μ : Mem) => bd (p_X2_behind a1 a5 μ) (fun r13 μ12 => p_X2_growBeside_b171 K19 a0 a1 a2 a3 a7 r13 a6 μ12), fun _ _ _ _ _ _ _ _ _ => rfl⟩
noncomputable def p_X2_growBeside_b159 : (Nat → Nat → Nat → Int32 → Int32 → Int32 → Int32 → Mem → Option (Int32 × Mem)) → Nat → Nat → Nat → Int32 → Int32 → Int32 → Int32 → Mem → Option (Int32 × Mem) := Classical.choose p_X2_growBeside_b159_ex
theorem p_X2_growBeside_b159_eq (K19 : Nat → Nat → Nat → Int32 → Int32 → Int32 → Int32 → Mem → Option (Int32 × Mem)) (a0 : Nat) (a1 : Nat) (a2 : Nat) (a3 : Int32) (a5 : Int32) (a6 : Int32) (a7 : Int32) (μ : Mem) : p_X2_growBeside_b159 K19 a0 a1 a2 a3 a5 a6 a7 μ = bd (p_X2_behind a1 a5 μ) (fun r13 μ12 => p_X2_growBeside_b171 K19 a0 a1 a2 a3 a7 r13 a6 μ12) := Classical.choose_spec p_X2_growBeside_b159_ex K19 a0 a1 a2 a3 a5 a6 a7 μ
set_option maxHeartbeats 4000000 in
set_option maxRecDepth 100000 in
theorem t_X2_growBeside_b159 (l : Launch) (G : Gt) (ad : Nat → Nat) (av : List Value) {r : Int32} {μz : Mem} (K19 : Nat → Nat → Nat → Int32 → Int32 → Int32 → Int32 → Mem → Option (Int32 × Mem)) (hK19 : ∀ (z0 : Nat) (w0 : sh 0 z0 = (0, 1)) (z1 : Nat) (w1 : sh 0 z1 = (0, 1)) (z2 : Nat) (w2 : sh 0 z2 = (0, 1)) (z3 : Int32) (z4 : Int32) (z5 : Int32) (z6 : Int32) (μ1 : Mem), K19 z0 z1 z2 z3 z4 z5 z6 μ1 = some (r, μz) → Bk l cX2_growBeside 8 RX2 (some .int) ({ frames := 5, cells := 0, slots := 0, locals := 123 } : Room) G av (eI 0 G ad r μz) (wd 0 G ad μ1) 19 [(0, .ref (ad z0)), (1, .ref (ad z1)), (2, .ref (ad z2)), (3, .int z3), (4, .int z4), (5, .int z5), (6, .int z6)] []) (a0 : Nat) (q0 : sh 0 a0 = (0, 1)) (a1 : Nat) (q1 : sh 0 a1 = (0, 1)) (a2 : Nat) (q2 : sh 0 a2 = (0, 1)) (a3 : Int32) (a5 : Int32) (a6 : Int32) (a7 : Int32) (μ : Mem) (h : p_X2_growBeside_b159 K19 a0 a1 a2 a3 a5 a6 a7 μ = some (r, μz)) : Bk l cX2_growBeside 8 RX2 (some .int) ({ frames := 5, cells := 0, slots := 0, locals := 123 } : Room) G av (eI 0 G ad r μz) (wd 0 G ad μ) 159 [(0, .ref (ad a0)), (1, .ref (ad a1)), (2, .ref (ad a2)), (3, .int a3), (5, .int a5), (6, .int a6), (7, .int a7)] [] := by
  intro p e s m below meth c A ls H locs cx hr hlk hA hl hw
  have hx := cx.1
  have hb := cx.2.1
  rw [p_X2_growBeside_b159_eq] at h
  refine lv_iload hx hb dX2_growBeside_159 (lv_at hl 6 rfl) ?_
  refine lv_istore (lv' := [(4, .int a7), (0, .ref (ad a0)), (1, .ref (ad a1)), (2, .ref (ad a2)), (3, .int a3), (5, .int a5), (6, .int a6), (7, .int a7)]) hx hb dX2_growBeside_161 hl (by decide) rfl (fun ls hl => ?_)
  refine lv_aload_n hx hb dX2_growBeside_163 rfl (lv_at hl 2 rfl) ?_
  refine lv_iload hx hb dX2_growBeside_164 (lv_at hl 5 rfl) ?_
  obtain ⟨r13, μ12, gr13, h⟩ := bd_some h
  refine g_callVI (As := [.int a5]) (rest := []) cx hw hA (t_X2_behind l G ad a1 q1 a5 μ gr13) q1 rfl ml_X2_51 im_X2_behind se_X2_behind in_X2 co_X2_behind rfl hd_X2_behind rfl ⟨(Nat.le_of_ble_eq_true rfl), (Nat.le_of_ble_eq_true rfl)⟩ hl.1 rfl (Nat.le_of_ble_eq_true rfl) dX2_growBeside_166 ⟨rfl, rfl⟩ (fun H locs hw => ?_)
  refine lv_istore (lv' := [(5, .int r13), (4, .int a7), (0, .ref (ad a0)), (1, .ref (ad a1)), (2, .ref (ad a2)), (3, .int a3), (6, .int a6), (7, .int a7)]) hx hb dX2_growBeside_169 hl (by decide) rfl (fun ls hl => ?_)
  exact t_X2_growBeside_b171 l G ad av K19 hK19 a0 q0 a1 q1 a2 q2 a3 a7 r13 a6 μ12 h p e s m below meth c A ls H locs cx hr hlk hA (lv_sub hl [2, 3, 4, 5, 1, 0, 6] rfl) hw
theorem p_X2_growBeside_b110_ex : ∃ f : (Nat → Nat → Nat → Int32 → Int32 → Int32 → Int32 → Mem → Option (Int32 × Mem)) → Nat → Nat → Nat → Int32 → Int32 → Int32 → Int32 → Int32 → Mem → Option (Int32 × Mem), ∀ (K19 : Nat → Nat → Nat → Int32 → Int32 → Int32 → Int32 → Mem → Option (Int32 × Mem)) (a0 : Nat) (a1 : Nat) (a2 : Nat) (a3 : Int32) (a4 : Int32) (a5 : Int32) (a6 : Int32) (a7 : Int32) (μ : Mem), f K19 a0 a1 a2 a3 a4 a5 a6 a7 μ = gd (inb a4 ((sh 0 (a0 + 1)).2)) (gd (inb a5 ((sh 0 (a1 + 1)).2)) ((if (s_X2_isGrown (μ.2.1 (a0 + 1) a4.toNatClampNeg) (μ.2.1 (a1 + 1) a5.toNatClampNeg)) = (0 : Int32) then bw (p_X2_addParts a2 a0 a4 a7 μ) (fun μ10 => p_X2_growBeside_b159 K19 a0 a1 a2 a3 a5 a6 a7 μ10) else gd (inb a4 ((sh 0 (a0 + 2)).2)) (bw (p_X2_add a2 (17179869184 : Int64) (μ.2.1 (a0 + 2) a4.toNatClampNeg) μ) (fun μ15 => bv (a3 + 1) (fun v17 => p_X2_growBeside_b159 K19 a0 a1 a2 v17 a5 a6 a7 μ15)))))) := ⟨fun (K19 : Nat → Nat → Nat → Int32 → Int32 → Int32 → Int32 → Mem → Option (Int32 × Mem)) (a0 : Nat) (a1 : Nat) (a2 : Nat) (a3 : Int32) (a4 : Int32) (a5 : Int32) (a6 : Int32) (a7 : Int32) (μ : Mem) => gd (inb a4 ((sh 0 (a0 + 1)).2)) (gd (inb a5 ((sh 0 (a1 + 1)).2)) ((if (s_X2_isGrown (μ.2.1 (a0 + 1) a4.toNatClampNeg) (μ.2.1 (a1 + 1) a5.toNatClampNeg)) = (0 : Int32) then bw (p_X2_addParts a2 a0 a4 a7 μ) (fun μ10 => p_X2_growBeside_b159 K19 a0 a1 a2 a3 a5 a6 a7 μ10) else gd (inb a4 ((sh 0 (a0 + 2)).2)) (bw (p_X2_add a2 (17179869184 : Int64) (μ.2.1 (a0 + 2) a4.toNatClampNeg) μ) (fun μ15 => bv (a3 + 1) (fun v17 => p_X2_growBeside_b159 K19 a0 a1 a2 v17 a5 a6 a7 μ15)))))), fun _ _ _ _ _ _ _ _ _ _ => rfl⟩
noncomputable def p_X2_growBeside_b110 : (Nat → Nat → Nat → Int32 → Int32 → Int32 → Int32 → Mem → Option (Int32 × Mem)) → Nat → Nat → Nat → Int32 → Int32 → Int32 → Int32 → Int32 → Mem → Option (Int32 × Mem) := Classical.choose p_X2_growBeside_b110_ex
theorem p_X2_growBeside_b110_eq (K19 : Nat → Nat → Nat → Int32 → Int32 → Int32 → Int32 → Mem → Option (Int32 × Mem)) (a0 : Nat) (a1 : Nat) (a2 : Nat) (a3 : Int32) (a4 : Int32) (a5 : Int32) (a6 : Int32) (a7 : Int32) (μ : Mem) : p_X2_growBeside_b110 K19 a0 a1 a2 a3 a4 a5 a6 a7 μ = gd (inb a4 ((sh 0 (a0 + 1)).2)) (gd (inb a5 ((sh 0 (a1 + 1)).2)) ((if (s_X2_isGrown (μ.2.1 (a0 + 1) a4.toNatClampNeg) (μ.2.1 (a1 + 1) a5.toNatClampNeg)) = (0 : Int32) then bw (p_X2_addParts a2 a0 a4 a7 μ) (fun μ10 => p_X2_growBeside_b159 K19 a0 a1 a2 a3 a5 a6 a7 μ10) else gd (inb a4 ((sh 0 (a0 + 2)).2)) (bw (p_X2_add a2 (17179869184 : Int64) (μ.2.1 (a0 + 2) a4.toNatClampNeg) μ) (fun μ15 => bv (a3 + 1) (fun v17 => p_X2_growBeside_b159 K19 a0 a1 a2 v17 a5 a6 a7 μ15)))))) := Classical.choose_spec p_X2_growBeside_b110_ex K19 a0 a1 a2 a3 a4 a5 a6 a7 μ
set_option maxHeartbeats 4000000 in
set_option maxRecDepth 100000 in
theorem t_X2_growBeside_b110 (l : Launch) (G : Gt) (ad : Nat → Nat) (av : List Value) {r : Int32} {μz : Mem} (K19 : Nat → Nat → Nat → Int32 → Int32 → Int32 → Int32 → Mem → Option (Int32 × Mem)) (hK19 : ∀ (z0 : Nat) (w0 : sh 0 z0 = (0, 1)) (z1 : Nat) (w1 : sh 0 z1 = (0, 1)) (z2 : Nat) (w2 : sh 0 z2 = (0, 1)) (z3 : Int32) (z4 : Int32) (z5 : Int32) (z6 : Int32) (μ1 : Mem), K19 z0 z1 z2 z3 z4 z5 z6 μ1 = some (r, μz) → Bk l cX2_growBeside 8 RX2 (some .int) ({ frames := 5, cells := 0, slots := 0, locals := 123 } : Room) G av (eI 0 G ad r μz) (wd 0 G ad μ1) 19 [(0, .ref (ad z0)), (1, .ref (ad z1)), (2, .ref (ad z2)), (3, .int z3), (4, .int z4), (5, .int z5), (6, .int z6)] []) (a0 : Nat) (q0 : sh 0 a0 = (0, 1)) (a1 : Nat) (q1 : sh 0 a1 = (0, 1)) (a2 : Nat) (q2 : sh 0 a2 = (0, 1)) (a3 : Int32) (a4 : Int32) (a5 : Int32) (a6 : Int32) (a7 : Int32) (μ : Mem) (h : p_X2_growBeside_b110 K19 a0 a1 a2 a3 a4 a5 a6 a7 μ = some (r, μz)) : Bk l cX2_growBeside 8 RX2 (some .int) ({ frames := 5, cells := 0, slots := 0, locals := 123 } : Room) G av (eI 0 G ad r μz) (wd 0 G ad μ) 110 [(0, .ref (ad a0)), (1, .ref (ad a1)), (2, .ref (ad a2)), (3, .int a3), (4, .int a4), (5, .int a5), (6, .int a6), (7, .int a7)] [] := by
  intro p e s m below meth c A ls H locs cx hr hlk hA hl hw
  have hx := cx.1
  have hb := cx.2.1
  rw [p_X2_growBeside_b110_eq] at h
  refine lv_aload_n hx hb dX2_growBeside_110 rfl (lv_at hl 0 rfl) ?_
  refine g_get cx hw inX2 (ci := 1) rfl 0 (by decide) rfl (v := .ref (ad (a0 + 1))) q0 rfl fl_X2_9 dX2_growBeside_111 ?_
  refine lv_iload hx hb dX2_growBeside_114 (lv_at hl 4 rfl) ?_
  refine g_lald cx hw (rl_X2_0 q0) h dX2_growBeside_116 (fun h => ?_)
  refine lv_aload_n hx hb dX2_growBeside_117 rfl (lv_at hl 1 rfl) ?_
  refine g_get cx hw inX2 (ci := 1) rfl 0 (by decide) rfl (v := .ref (ad (a1 + 1))) q1 rfl fl_X2_9 dX2_growBeside_118 ?_
  refine lv_iload hx hb dX2_growBeside_121 (lv_at hl 5 rfl) ?_
  refine g_lald cx hw (rl_X2_0 q1) h dX2_growBeside_123 (fun h => ?_)
  refine s_callI (As := [.long (μ.2.1 (a0 + 1) a4.toNatClampNeg), .long (μ.2.1 (a1 + 1) a5.toNatClampNeg)]) (rest := []) cx hw hA (t_X2_isGrown l G (μ.2.1 (a0 + 1) a4.toNatClampNeg) (μ.2.1 (a1 + 1) a5.toNatClampNeg)) ml_X2_57 st_X2_isGrown in_X2 co_X2_isGrown hd_X2_isGrown rfl ⟨(Nat.le_of_ble_eq_true rfl), (Nat.le_of_ble_eq_true rfl)⟩ hl.1 rfl (Nat.le_of_ble_eq_true rfl) dX2_growBeside_124 rfl (fun H locs hw => ?_)
  refine lv_if_eq (tgt := 150) hx hb dX2_growBeside_127 (by decide) (fun c9 => ?_) (fun c9 => ?_)
  · rw [if_pos c9] at h
    refine lv_aload_n hx hb dX2_growBeside_150 rfl (lv_at hl 2 rfl) ?_
    refine lv_aload_n hx hb dX2_growBeside_151 rfl (lv_at hl 0 rfl) ?_
    refine lv_iload hx hb dX2_growBeside_152 (lv_at hl 4 rfl) ?_
    refine lv_iload hx hb dX2_growBeside_154 (lv_at hl 7 rfl) ?_
    obtain ⟨μ10, gμ10, h⟩ := bw_some h
    refine g_callVV (As := [.ref (ad a0), .int a4, .int a7]) (rest := []) cx hw hA (t_X2_addParts l G ad a2 q2 a0 q0 a4 a7 μ gμ10) q2 rfl ml_X2_29 im_X2_addParts se_X2_addParts in_X2 co_X2_addParts rfl hd_X2_addParts rfl ⟨(Nat.le_of_ble_eq_true rfl), (Nat.le_of_ble_eq_true rfl)⟩ hl.1 rfl (Nat.le_of_ble_eq_true rfl) dX2_growBeside_156 ⟨rfl, rfl⟩ (fun H locs hw => ?_)
    exact t_X2_growBeside_b159 l G ad av K19 hK19 a0 q0 a1 q1 a2 q2 a3 a5 a6 a7 μ10 h p e s m below meth c A ls H locs cx hr hlk hA (lv_sub hl [0, 1, 2, 3, 5, 6, 7] rfl) hw
  · rw [if_neg c9] at h
    refine lv_aload_n hx hb dX2_growBeside_130 rfl (lv_at hl 2 rfl) ?_
    refine lv_ldc2 hx hb cx.2.2.2.1 (cx.2.2.2.2.1 _ cs_X2_61) dX2_growBeside_131 ?_
    refine lv_aload_n hx hb dX2_growBeside_134 rfl (lv_at hl 0 rfl) ?_
    refine g_get cx hw inX2 (ci := 1) rfl 1 (by decide) rfl (v := .ref (ad (a0 + 2))) q0 rfl fl_X2_15 dX2_growBeside_135 ?_
    refine lv_iload hx hb dX2_growBeside_138 (lv_at hl 4 rfl) ?_
    refine g_lald cx hw (rl_X2_1 q0) h dX2_growBeside_140 (fun h => ?_)
    obtain ⟨μ15, gμ15, h⟩ := bw_some h
    refine g_callVV (As := [.long 17179869184, .long (μ.2.1 (a0 + 2) a4.toNatClampNeg)]) (rest := []) cx hw hA (t_X2_add l G ad a2 q2 (17179869184 : Int64) (μ.2.1 (a0 + 2) a4.toNatClampNeg) μ gμ15) q2 rfl ml_X2_33 im_X2_add se_X2_add in_X2 co_X2_add rfl hd_X2_add rfl ⟨(Nat.le_of_ble_eq_true rfl), (Nat.le_of_ble_eq_true rfl)⟩ hl.1 rfl (Nat.le_of_ble_eq_true rfl) dX2_growBeside_141 ⟨rfl, rfl⟩ (fun H locs hw => ?_)
    obtain ⟨v17, ev17, h⟩ := bv_ex h
    refine lv_iinc (v := v17) (lv' := [(3, .int v17), (0, .ref (ad a0)), (1, .ref (ad a1)), (2, .ref (ad a2)), (4, .int a4), (5, .int a5), (6, .int a6), (7, .int a7)]) hx hb dX2_growBeside_144 hl (k := 3) rfl (by rw [ev17]; rfl) (by decide) rfl (fun ls hl => ?_)
    refine lv_goto (tgt := 159) hx hb dX2_growBeside_147 (by decide) ?_
    exact t_X2_growBeside_b159 l G ad av K19 hK19 a0 q0 a1 q1 a2 q2 v17 a5 a6 a7 μ15 h p e s m below meth c A ls H locs cx hr hlk hA (lv_sub hl [1, 2, 3, 0, 5, 6, 7] rfl) hw
theorem p_X2_growBeside_b19_ex : ∃ f : Nat → Nat → Nat → Nat → Int32 → Int32 → Int32 → Int32 → Mem → Option (Int32 × Mem), (∀ (a0 : Nat) (a1 : Nat) (a2 : Nat) (a3 : Int32) (a4 : Int32) (a5 : Int32) (a6 : Int32) (μ : Mem), f  0 a0 a1 a2 a3 a4 a5 a6 μ = none) ∧ (∀ (n : Nat) (a0 : Nat) (a1 : Nat) (a2 : Nat) (a3 : Int32) (a4 : Int32) (a5 : Int32) (a6 : Int32) (μ : Mem), f  (n + 1) a0 a1 a2 a3 a4 a5 a6 μ = (if (Int32.ofNat ((sh 0 (a0 + 1)).2)) ≤ a6 then some (a3, μ) else (if (μ.1 a0 2) ≤ a4 then some (a3, μ) else (if (μ.1 a1 2) ≤ a5 then some (a3, μ) else bd (p_X2_behind a0 a4 μ) (fun r7 μ6 => gd (inb a4 ((sh 0 (a0 + 1)).2)) ((if (lg_cmp (μ6.2.1 (a0 + 1) a4.toNatClampNeg) (8589934592 : Int64)) = (0 : Int32) then gd (inb a5 ((sh 0 (a1 + 1)).2)) ((if (lg_cmp (μ6.2.1 (a1 + 1) a5.toNatClampNeg) (8589934592 : Int64)) = (0 : Int32) then gd (inb a4 ((sh 0 (a0 + 1)).2)) (gd (inb a4 ((sh 0 (a0 + 2)).2)) (bw (p_X2_add a2 (μ6.2.1 (a0 + 1) a4.toNatClampNeg) (μ6.2.1 (a0 + 2) a4.toNatClampNeg) μ6) (fun μ19 => bv (a4 + 1) (fun v21 => bv (a5 + 1) (fun v22 => p_X2_growBeside_b171 (f n) a0 a1 a2 a3 v21 v22 a6 μ19))))) else p_X2_growBeside_b110 (f n) a0 a1 a2 a3 a4 a5 a6 r7 μ6)) else p_X2_growBeside_b110 (f n) a0 a1 a2 a3 a4 a5 a6 r7 μ6))))))) := ⟨fun n => Nat.rec (fun (a0 : Nat) (a1 : Nat) (a2 : Nat) (a3 : Int32) (a4 : Int32) (a5 : Int32) (a6 : Int32) (μ : Mem) => none) (fun _ ih => fun (a0 : Nat) (a1 : Nat) (a2 : Nat) (a3 : Int32) (a4 : Int32) (a5 : Int32) (a6 : Int32) (μ : Mem) => (if (Int32.ofNat ((sh 0 (a0 + 1)).2)) ≤ a6 then some (a3, μ) else (if (μ.1 a0 2) ≤ a4 then some (a3, μ) else (if (μ.1 a1 2) ≤ a5 then some (a3, μ) else bd (p_X2_behind a0 a4 μ) (fun r7 μ6 => gd (inb a4 ((sh 0 (a0 + 1)).2)) ((if (lg_cmp (μ6.2.1 (a0 + 1) a4.toNatClampNeg) (8589934592 : Int64)) = (0 : Int32) then gd (inb a5 ((sh 0 (a1 + 1)).2)) ((if (lg_cmp (μ6.2.1 (a1 + 1) a5.toNatClampNeg) (8589934592 : Int64)) = (0 : Int32) then gd (inb a4 ((sh 0 (a0 + 1)).2)) (gd (inb a4 ((sh 0 (a0 + 2)).2)) (bw (p_X2_add a2 (μ6.2.1 (a0 + 1) a4.toNatClampNeg) (μ6.2.1 (a0 + 2) a4.toNatClampNeg) μ6) (fun μ19 => bv (a4 + 1) (fun v21 => bv (a5 + 1) (fun v22 => p_X2_growBeside_b171 (ih) a0 a1 a2 a3 v21 v22 a6 μ19))))) else p_X2_growBeside_b110 (ih) a0 a1 a2 a3 a4 a5 a6 r7 μ6)) else p_X2_growBeside_b110 (ih) a0 a1 a2 a3 a4 a5 a6 r7 μ6))))))) n, fun  _ _ _ _ _ _ _ _ => rfl, fun  _ _ _ _ _ _ _ _ _ => rfl⟩
noncomputable def p_X2_growBeside_b19 : Nat → Nat → Nat → Nat → Int32 → Int32 → Int32 → Int32 → Mem → Option (Int32 × Mem) := Classical.choose p_X2_growBeside_b19_ex
theorem p_X2_growBeside_b19_z (a0 : Nat) (a1 : Nat) (a2 : Nat) (a3 : Int32) (a4 : Int32) (a5 : Int32) (a6 : Int32) (μ : Mem) : p_X2_growBeside_b19  0 a0 a1 a2 a3 a4 a5 a6 μ = none := (Classical.choose_spec p_X2_growBeside_b19_ex).1  a0 a1 a2 a3 a4 a5 a6 μ
theorem p_X2_growBeside_b19_s (n : Nat) (a0 : Nat) (a1 : Nat) (a2 : Nat) (a3 : Int32) (a4 : Int32) (a5 : Int32) (a6 : Int32) (μ : Mem) : p_X2_growBeside_b19  (n + 1) a0 a1 a2 a3 a4 a5 a6 μ = (if (Int32.ofNat ((sh 0 (a0 + 1)).2)) ≤ a6 then some (a3, μ) else (if (μ.1 a0 2) ≤ a4 then some (a3, μ) else (if (μ.1 a1 2) ≤ a5 then some (a3, μ) else bd (p_X2_behind a0 a4 μ) (fun r7 μ6 => gd (inb a4 ((sh 0 (a0 + 1)).2)) ((if (lg_cmp (μ6.2.1 (a0 + 1) a4.toNatClampNeg) (8589934592 : Int64)) = (0 : Int32) then gd (inb a5 ((sh 0 (a1 + 1)).2)) ((if (lg_cmp (μ6.2.1 (a1 + 1) a5.toNatClampNeg) (8589934592 : Int64)) = (0 : Int32) then gd (inb a4 ((sh 0 (a0 + 1)).2)) (gd (inb a4 ((sh 0 (a0 + 2)).2)) (bw (p_X2_add a2 (μ6.2.1 (a0 + 1) a4.toNatClampNeg) (μ6.2.1 (a0 + 2) a4.toNatClampNeg) μ6) (fun μ19 => bv (a4 + 1) (fun v21 => bv (a5 + 1) (fun v22 => p_X2_growBeside_b171 (p_X2_growBeside_b19  n) a0 a1 a2 a3 v21 v22 a6 μ19))))) else p_X2_growBeside_b110 (p_X2_growBeside_b19  n) a0 a1 a2 a3 a4 a5 a6 r7 μ6)) else p_X2_growBeside_b110 (p_X2_growBeside_b19  n) a0 a1 a2 a3 a4 a5 a6 r7 μ6)))))) := (Classical.choose_spec p_X2_growBeside_b19_ex).2  n a0 a1 a2 a3 a4 a5 a6 μ
set_option maxHeartbeats 4000000 in
set_option maxRecDepth 100000 in
theorem t_X2_growBeside_b19 (l : Launch) (G : Gt) (ad : Nat → Nat) (av : List Value) {r : Int32} {μz : Mem} : ∀ (n : Nat) (a0 : Nat) (q0 : sh 0 a0 = (0, 1)) (a1 : Nat) (q1 : sh 0 a1 = (0, 1)) (a2 : Nat) (q2 : sh 0 a2 = (0, 1)) (a3 : Int32) (a4 : Int32) (a5 : Int32) (a6 : Int32) (μ : Mem), p_X2_growBeside_b19  n a0 a1 a2 a3 a4 a5 a6 μ = some (r, μz) → Bk l cX2_growBeside 8 RX2 (some .int) ({ frames := 5, cells := 0, slots := 0, locals := 123 } : Room) G av (eI 0 G ad r μz) (wd 0 G ad μ) 19 [(0, .ref (ad a0)), (1, .ref (ad a1)), (2, .ref (ad a2)), (3, .int a3), (4, .int a4), (5, .int a5), (6, .int a6)] [] := by
  intro n
  induction n with
  | zero => intro a0 q0 a1 q1 a2 q2 a3 a4 a5 a6 μ h; rw [p_X2_growBeside_b19_z] at h; cases h
  | succ n ih =>
    intro a0 q0 a1 q1 a2 q2 a3 a4 a5 a6 μ h p e s m below meth c A ls H locs cx hr hlk hA hl hw
    have hx := cx.1
    have hb := cx.2.1
    rw [p_X2_growBeside_b19_s] at h
    refine lv_iload hx hb dX2_growBeside_19 (lv_at hl 6 rfl) ?_
    refine lv_aload_n hx hb dX2_growBeside_21 rfl (lv_at hl 0 rfl) ?_
    refine g_get cx hw inX2 (ci := 1) rfl 0 (by decide) rfl (v := .ref (ad (a0 + 1))) q0 rfl fl_X2_9 dX2_growBeside_22 ?_
    refine g_alen3 cx hw (rl_X2_0 q0) rfl dX2_growBeside_25 ?_
    refine lv_icmp_ge (tgt := 177) hx hb dX2_growBeside_26 (by decide) (fun c3 => ?_) (fun c3 => ?_)
    · rw [if_pos c3] at h
      refine lv_iload_n hx hb dX2_growBeside_177 rfl (lv_at hl 3 rfl) ?_
      exact g_iret cx hr hlk hw h dX2_growBeside_178
    · rw [if_neg c3] at h
      refine lv_iload hx hb dX2_growBeside_29 (lv_at hl 4 rfl) ?_
      refine lv_aload_n hx hb dX2_growBeside_31 rfl (lv_at hl 0 rfl) ?_
      refine g_get cx hw inX2 (ci := 1) rfl 2 (by decide) rfl (v := .int (μ.1 a0 2)) q0 rfl fl_X2_18 dX2_growBeside_32 ?_
      refine lv_icmp_ge (tgt := 177) hx hb dX2_growBeside_35 (by decide) (fun c4 => ?_) (fun c4 => ?_)
      · rw [if_pos c4] at h
        refine lv_iload_n hx hb dX2_growBeside_177 rfl (lv_at hl 3 rfl) ?_
        exact g_iret cx hr hlk hw h dX2_growBeside_178
      · rw [if_neg c4] at h
        refine lv_iload hx hb dX2_growBeside_38 (lv_at hl 5 rfl) ?_
        refine lv_aload_n hx hb dX2_growBeside_40 rfl (lv_at hl 1 rfl) ?_
        refine g_get cx hw inX2 (ci := 1) rfl 2 (by decide) rfl (v := .int (μ.1 a1 2)) q1 rfl fl_X2_18 dX2_growBeside_41 ?_
        refine lv_icmp_ge (tgt := 177) hx hb dX2_growBeside_44 (by decide) (fun c5 => ?_) (fun c5 => ?_)
        · rw [if_pos c5] at h
          refine lv_iload_n hx hb dX2_growBeside_177 rfl (lv_at hl 3 rfl) ?_
          exact g_iret cx hr hlk hw h dX2_growBeside_178
        · rw [if_neg c5] at h
          refine lv_aload_n hx hb dX2_growBeside_47 rfl (lv_at hl 0 rfl) ?_
          refine lv_iload hx hb dX2_growBeside_48 (lv_at hl 4 rfl) ?_
          obtain ⟨r7, μ6, gr7, h⟩ := bd_some h
          refine g_callVI (As := [.int a4]) (rest := []) cx hw hA (t_X2_behind l G ad a0 q0 a4 μ gr7) q0 rfl ml_X2_51 im_X2_behind se_X2_behind in_X2 co_X2_behind rfl hd_X2_behind rfl ⟨(Nat.le_of_ble_eq_true rfl), (Nat.le_of_ble_eq_true rfl)⟩ hl.1 rfl (Nat.le_of_ble_eq_true rfl) dX2_growBeside_50 ⟨rfl, rfl⟩ (fun H locs hw => ?_)
          refine lv_istore (lv' := [(7, .int r7), (0, .ref (ad a0)), (1, .ref (ad a1)), (2, .ref (ad a2)), (3, .int a3), (4, .int a4), (5, .int a5), (6, .int a6)]) hx hb dX2_growBeside_53 hl (by decide) rfl (fun ls hl => ?_)
          refine lv_aload_n hx hb dX2_growBeside_55 rfl (lv_at hl 1 rfl) ?_
          refine g_get cx hw inX2 (ci := 1) rfl 0 (by decide) rfl (v := .ref (ad (a0 + 1))) q0 rfl fl_X2_9 dX2_growBeside_56 ?_
          refine lv_iload hx hb dX2_growBeside_59 (lv_at hl 5 rfl) ?_
          refine g_lald cx hw (rl_X2_0 q0) h dX2_growBeside_61 (fun h => ?_)
          refine lv_ldc2 hx hb cx.2.2.2.1 (cx.2.2.2.2.1 _ cs_X2_55) dX2_growBeside_62 ?_
          refine W.lcmp hx hb dX2_growBeside_65 ?_
          refine lv_if_ne (tgt := 110) hx hb dX2_growBeside_66 (by decide) (fun c8 => ?_) (fun c8 => ?_)
          · rw [if_neg c8] at h
            exact t_X2_growBeside_b110 l G ad av _ ih a0 q0 a1 q1 a2 q2 a3 a4 a5 a6 r7 μ6 h p e s m below meth c A ls H locs cx hr hlk hA (lv_sub hl [1, 2, 3, 4, 5, 6, 7, 0] rfl) hw
          · rw [if_pos c8] at h
            refine lv_aload_n hx hb dX2_growBeside_69 rfl (lv_at hl 2 rfl) ?_
            refine g_get cx hw inX2 (ci := 1) rfl 0 (by decide) rfl (v := .ref (ad (a1 + 1))) q1 rfl fl_X2_9 dX2_growBeside_70 ?_
            refine lv_iload hx hb dX2_growBeside_73 (lv_at hl 6 rfl) ?_
            refine g_lald cx hw (rl_X2_0 q1) h dX2_growBeside_75 (fun h => ?_)
            refine lv_ldc2 hx hb cx.2.2.2.1 (cx.2.2.2.2.1 _ cs_X2_55) dX2_growBeside_76 ?_
            refine W.lcmp hx hb dX2_growBeside_79 ?_
            refine lv_if_ne (tgt := 110) hx hb dX2_growBeside_80 (by decide) (fun c18 => ?_) (fun c18 => ?_)
            · rw [if_neg c18] at h
              exact t_X2_growBeside_b110 l G ad av _ ih a0 q0 a1 q1 a2 q2 a3 a4 a5 a6 r7 μ6 h p e s m below meth c A ls H locs cx hr hlk hA (lv_sub hl [1, 2, 3, 4, 5, 6, 7, 0] rfl) hw
            · rw [if_pos c18] at h
              refine lv_aload_n hx hb dX2_growBeside_83 rfl (lv_at hl 3 rfl) ?_
              refine lv_aload_n hx hb dX2_growBeside_84 rfl (lv_at hl 1 rfl) ?_
              refine g_get cx hw inX2 (ci := 1) rfl 0 (by decide) rfl (v := .ref (ad (a0 + 1))) q0 rfl fl_X2_9 dX2_growBeside_85 ?_
              refine lv_iload hx hb dX2_growBeside_88 (lv_at hl 5 rfl) ?_
              refine g_lald cx hw (rl_X2_0 q0) h dX2_growBeside_90 (fun h => ?_)
              refine lv_aload_n hx hb dX2_growBeside_91 rfl (lv_at hl 1 rfl) ?_
              refine g_get cx hw inX2 (ci := 1) rfl 1 (by decide) rfl (v := .ref (ad (a0 + 2))) q0 rfl fl_X2_15 dX2_growBeside_92 ?_
              refine lv_iload hx hb dX2_growBeside_95 (lv_at hl 5 rfl) ?_
              refine g_lald cx hw (rl_X2_1 q0) h dX2_growBeside_97 (fun h => ?_)
              obtain ⟨μ19, gμ19, h⟩ := bw_some h
              refine g_callVV (As := [.long (μ6.2.1 (a0 + 1) a4.toNatClampNeg), .long (μ6.2.1 (a0 + 2) a4.toNatClampNeg)]) (rest := []) cx hw hA (t_X2_add l G ad a2 q2 (μ6.2.1 (a0 + 1) a4.toNatClampNeg) (μ6.2.1 (a0 + 2) a4.toNatClampNeg) μ6 gμ19) q2 rfl ml_X2_33 im_X2_add se_X2_add in_X2 co_X2_add rfl hd_X2_add rfl ⟨(Nat.le_of_ble_eq_true rfl), (Nat.le_of_ble_eq_true rfl)⟩ hl.1 rfl (Nat.le_of_ble_eq_true rfl) dX2_growBeside_98 ⟨rfl, rfl⟩ (fun H locs hw => ?_)
              obtain ⟨v21, ev21, h⟩ := bv_ex h
              refine lv_iinc (v := v21) (lv' := [(4, .int v21), (7, .int r7), (0, .ref (ad a0)), (1, .ref (ad a1)), (2, .ref (ad a2)), (3, .int a3), (5, .int a5), (6, .int a6)]) hx hb dX2_growBeside_101 hl (k := 5) rfl (by rw [ev21]; rfl) (by decide) rfl (fun ls hl => ?_)
              obtain ⟨v22, ev22, h⟩ := bv_ex h
              refine lv_iinc (v := v22) (lv' := [(5, .int v22), (4, .int v21), (7, .int r7), (0, .ref (ad a0)), (1, .ref (ad a1)), (2, .ref (ad a2)), (3, .int a3), (6, .int a6)]) hx hb dX2_growBeside_104 hl (k := 6) rfl (by rw [ev22]; rfl) (by decide) rfl (fun ls hl => ?_)
              refine lv_goto (tgt := 171) hx hb dX2_growBeside_107 (by decide) ?_
              exact t_X2_growBeside_b171 l G ad av _ ih a0 q0 a1 q1 a2 q2 a3 v21 v22 a6 μ19 h p e s m below meth c A ls H locs cx hr hlk hA (lv_sub hl [3, 4, 5, 6, 1, 0, 7] rfl) hw
theorem p_X2_growBeside_ex : ∃ f : Nat → Nat → Nat → Mem → Option (Int32 × Mem), ∀ (a0 : Nat) (a1 : Nat) (a2 : Nat) (μ : Mem), f a0 a1 a2 μ = bw (p_X2_begin a2 (μ.1 a0 3) μ) (fun μ1 => p_X2_growBeside_b19  FUEL a0 a1 a2 (0 : Int32) (0 : Int32) (0 : Int32) (0 : Int32) μ1) := ⟨fun (a0 : Nat) (a1 : Nat) (a2 : Nat) (μ : Mem) => bw (p_X2_begin a2 (μ.1 a0 3) μ) (fun μ1 => p_X2_growBeside_b19  FUEL a0 a1 a2 (0 : Int32) (0 : Int32) (0 : Int32) (0 : Int32) μ1), fun _ _ _ _ => rfl⟩
noncomputable def p_X2_growBeside : Nat → Nat → Nat → Mem → Option (Int32 × Mem) := Classical.choose p_X2_growBeside_ex
theorem p_X2_growBeside_eq (a0 : Nat) (a1 : Nat) (a2 : Nat) (μ : Mem) : p_X2_growBeside a0 a1 a2 μ = bw (p_X2_begin a2 (μ.1 a0 3) μ) (fun μ1 => p_X2_growBeside_b19  FUEL a0 a1 a2 (0 : Int32) (0 : Int32) (0 : Int32) (0 : Int32) μ1) := Classical.choose_spec p_X2_growBeside_ex a0 a1 a2 μ
set_option maxHeartbeats 4000000 in
set_option maxRecDepth 100000 in
theorem t_X2_growBeside (l : Launch) (G : Gt) (ad : Nat → Nat) (a0 : Nat) (q0 : sh 0 a0 = (0, 1)) (a1 : Nat) (q1 : sh 0 a1 = (0, 1)) (a2 : Nat) (q2 : sh 0 a2 = (0, 1)) (μ : Mem) {r : Int32} {μz : Mem} (h : p_X2_growBeside a0 a1 a2 μ = some (r, μz)) : Mt l yX2_growBeside cX2_growBeside 8 (some .int) ({ frames := 5, cells := 0, slots := 0, locals := 123 } : Room) G [.ref (ad a0), .ref (ad a1), .ref (ad a2)] (wd 0 G ad μ) (eI 0 G ad r μz) := by
  refine Bk.mt (by decide) rfl (Nat.le_of_ble_eq_true rfl) ?_
  intro p e s m below meth c A ls H locs cx hr hlk hA hl hw
  have hx := cx.1
  have hb := cx.2.1
  have hl : lv_has ls 8 [(0, .ref (ad a0)), (1, .ref (ad a1)), (2, .ref (ad a2))] := hl
  rw [p_X2_growBeside_eq] at h
  refine lv_aload_n hx hb dX2_growBeside_0 rfl (lv_at hl 2 rfl) ?_
  refine lv_aload_n hx hb dX2_growBeside_1 rfl (lv_at hl 0 rfl) ?_
  refine g_get cx hw inX2 (ci := 1) rfl 3 (by decide) rfl (v := .int (μ.1 a0 3)) q0 rfl fl_X2_22 dX2_growBeside_2 ?_
  obtain ⟨μ1, gμ1, h⟩ := bw_some h
  refine g_callVV (As := [.int (μ.1 a0 3)]) (rest := []) cx hw hA (t_X2_begin l G ad a2 q2 (μ.1 a0 3) μ gμ1) q2 rfl ml_X2_25 im_X2_begin se_X2_begin in_X2 co_X2_begin rfl hd_X2_begin rfl ⟨(Nat.le_of_ble_eq_true rfl), (Nat.le_of_ble_eq_true rfl)⟩ hl.1 rfl (Nat.le_of_ble_eq_true rfl) dX2_growBeside_5 ⟨rfl, rfl⟩ (fun H locs hw => ?_)
  refine lv_iconst (v := 0) hx hb dX2_growBeside_8 (by decide) ?_
  refine lv_istore_n (lv' := [(3, .int 0), (0, .ref (ad a0)), (1, .ref (ad a1)), (2, .ref (ad a2))]) hx hb dX2_growBeside_9 rfl hl (by decide) rfl (fun ls hl => ?_)
  refine lv_iconst (v := 0) hx hb dX2_growBeside_10 (by decide) ?_
  refine lv_istore (lv' := [(4, .int 0), (3, .int 0), (0, .ref (ad a0)), (1, .ref (ad a1)), (2, .ref (ad a2))]) hx hb dX2_growBeside_11 hl (by decide) rfl (fun ls hl => ?_)
  refine lv_iconst (v := 0) hx hb dX2_growBeside_13 (by decide) ?_
  refine lv_istore (lv' := [(5, .int 0), (4, .int 0), (3, .int 0), (0, .ref (ad a0)), (1, .ref (ad a1)), (2, .ref (ad a2))]) hx hb dX2_growBeside_14 hl (by decide) rfl (fun ls hl => ?_)
  refine lv_iconst (v := 0) hx hb dX2_growBeside_16 (by decide) ?_
  refine lv_istore (lv' := [(6, .int 0), (5, .int 0), (4, .int 0), (3, .int 0), (0, .ref (ad a0)), (1, .ref (ad a1)), (2, .ref (ad a2))]) hx hb dX2_growBeside_17 hl (by decide) rfl (fun ls hl => ?_)
  exact t_X2_growBeside_b19 l G ad _  FUEL a0 q0 a1 q1 a2 q2 (0 : Int32) (0 : Int32) (0 : Int32) (0 : Int32) μ1 h p e s m below meth c A ls H locs cx hr hlk hA (lv_sub hl [4, 5, 6, 3, 2, 1, 0] rfl) hw

theorem p_X10_swapCalls_ex : ∃ f : Mem → Option Mem, ∀  (μ : Mem), f  μ = bv (sR μ 137 14 (sel 1 (μ.2.2 137 15))) (fun μ1 => bv (sR μ1 137 15 (sel 1 (μ.2.2 137 14))) (fun μ2 => some μ2)) := ⟨fun  (μ : Mem) => bv (sR μ 137 14 (sel 1 (μ.2.2 137 15))) (fun μ1 => bv (sR μ1 137 15 (sel 1 (μ.2.2 137 14))) (fun μ2 => some μ2)), fun _ => rfl⟩
noncomputable def p_X10_swapCalls : Mem → Option Mem := Classical.choose p_X10_swapCalls_ex
theorem p_X10_swapCalls_eq  (μ : Mem) : p_X10_swapCalls  μ = bv (sR μ 137 14 (sel 1 (μ.2.2 137 15))) (fun μ1 => bv (sR μ1 137 15 (sel 1 (μ.2.2 137 14))) (fun μ2 => some μ2)) := Classical.choose_spec p_X10_swapCalls_ex  μ
set_option maxHeartbeats 4000000 in
set_option maxRecDepth 100000 in
theorem t_X10_swapCalls (l : Launch) (G : Gt) (ad : Nat → Nat)  (μ : Mem) {μz : Mem} (h : p_X10_swapCalls  μ = some μz) : Mt l yX10_swapCalls cX10_swapCalls 2 none ({ frames := 0, cells := 0, slots := 0, locals := 0 } : Room) G [.ref (ad 137)] (wd 0 G ad μ) (eV 0 G ad μz) := by
  refine Bk.mt (by decide) rfl (Nat.le_of_ble_eq_true rfl) ?_
  intro p e s m below meth c A ls H locs cx hr hlk hA hl hw
  have hx := cx.1
  have hb := cx.2.1
  have hl : lv_has ls 2 [(0, .ref (ad 137))] := hl
  rw [p_X10_swapCalls_eq] at h
  refine lv_aload_n hx hb dX10_swapCalls_0 rfl (lv_at hl 0 rfl) ?_
  refine g_get cx hw inX10 (ci := 9) rfl 14 (by decide) rfl (v := .ref (ad (sel 1 (μ.2.2 137 14)))) shx_137 rfl fl_X10_46 dX10_swapCalls_1 ?_
  refine lv_astore_n (lv' := [(1, .ref (ad (sel 1 (μ.2.2 137 14)))), (0, .ref (ad 137))]) hx hb dX10_swapCalls_4 rfl hl (by decide) rfl (fun ls hl => ?_)
  refine lv_aload_n hx hb dX10_swapCalls_5 rfl (lv_at hl 1 rfl) ?_
  refine lv_aload_n hx hb dX10_swapCalls_6 rfl (lv_at hl 1 rfl) ?_
  refine g_get cx hw inX10 (ci := 9) rfl 15 (by decide) rfl (v := .ref (ad (sel 1 (μ.2.2 137 15)))) shx_137 rfl fl_X10_50 dX10_swapCalls_7 ?_
  refine g_putR cx hw inX10 (ci := 9) rfl tyX10_ok nmX10 14 (by decide) rfl rfl rfl rfl shx_137 (sel_1 _) h fl_X10_46 dX10_swapCalls_10 (fun μ1 H locs h hw => ?_)
  refine lv_aload_n hx hb dX10_swapCalls_13 rfl (lv_at hl 1 rfl) ?_
  refine lv_aload_n hx hb dX10_swapCalls_14 rfl (lv_at hl 0 rfl) ?_
  refine g_putR cx hw inX10 (ci := 9) rfl tyX10_ok nmX10 15 (by decide) rfl rfl rfl rfl shx_137 (sel_1 _) h fl_X10_50 dX10_swapCalls_15 (fun μ2 H locs h hw => ?_)
  exact g_vret cx hr hlk hw h dX10_swapCalls_18

theorem p_X5_ofVariant_ex : ∃ f : Int32 → Int32 → Mem → Option (Int32 × Mem), ∀ (a1 : Int32) (a2 : Int32) (μ : Mem), f a1 a2 μ = (if a1 < (0 : Int32) then some ((-1 : Int32), μ) else (if (μ.1 39 2) ≤ a1 then some ((-1 : Int32), μ) else gd (inb ((a1 * (4 : Int32)) + a2) 96) (some ((μ.1 45 ((a1 * (4 : Int32)) + a2).toNatClampNeg), μ)))) := ⟨fun (a1 : Int32) (a2 : Int32) (μ : Mem) => (if a1 < (0 : Int32) then some ((-1 : Int32), μ) else (if (μ.1 39 2) ≤ a1 then some ((-1 : Int32), μ) else gd (inb ((a1 * (4 : Int32)) + a2) 96) (some ((μ.1 45 ((a1 * (4 : Int32)) + a2).toNatClampNeg), μ)))), fun _ _ _ => rfl⟩
noncomputable def p_X5_ofVariant : Int32 → Int32 → Mem → Option (Int32 × Mem) := Classical.choose p_X5_ofVariant_ex
theorem p_X5_ofVariant_eq (a1 : Int32) (a2 : Int32) (μ : Mem) : p_X5_ofVariant a1 a2 μ = (if a1 < (0 : Int32) then some ((-1 : Int32), μ) else (if (μ.1 39 2) ≤ a1 then some ((-1 : Int32), μ) else gd (inb ((a1 * (4 : Int32)) + a2) 96) (some ((μ.1 45 ((a1 * (4 : Int32)) + a2).toNatClampNeg), μ)))) := Classical.choose_spec p_X5_ofVariant_ex a1 a2 μ
set_option maxHeartbeats 4000000 in
set_option maxRecDepth 100000 in
theorem t_X5_ofVariant (l : Launch) (G : Gt) (ad : Nat → Nat) (a1 : Int32) (a2 : Int32) (μ : Mem) {r : Int32} {μz : Mem} (h : p_X5_ofVariant a1 a2 μ = some (r, μz)) : Mt l yX5_ofVariant cX5_ofVariant 3 (some .int) ({ frames := 0, cells := 0, slots := 0, locals := 0 } : Room) G [.ref (ad 39), .int a1, .int a2] (wd 0 G ad μ) (eI 0 G ad r μz) := by
  refine Bk.mt (by decide) rfl (Nat.le_of_ble_eq_true rfl) ?_
  intro p e s m below meth c A ls H locs cx hr hlk hA hl hw
  have hx := cx.1
  have hb := cx.2.1
  have hl : lv_has ls 3 [(0, .ref (ad 39)), (1, .int a1), (2, .int a2)] := hl
  rw [p_X5_ofVariant_eq] at h
  refine lv_iload_n hx hb dX5_ofVariant_0 rfl (lv_at hl 1 rfl) ?_
  refine lv_if_lt (tgt := 25) hx hb dX5_ofVariant_1 (by decide) (fun c1 => ?_) (fun c1 => ?_)
  · rw [if_pos c1] at h
    refine lv_iconst (v := (-1)) hx hb dX5_ofVariant_25 (by decide) ?_
    exact g_iret cx hr hlk hw h dX5_ofVariant_26
  · rw [if_neg c1] at h
    refine lv_iload_n hx hb dX5_ofVariant_4 rfl (lv_at hl 1 rfl) ?_
    refine lv_aload_n hx hb dX5_ofVariant_5 rfl (lv_at hl 0 rfl) ?_
    refine g_get cx hw inX5 (ci := 4) rfl 2 (by decide) rfl (v := .int (μ.1 39 2)) shx_39 rfl fl_X5_48 dX5_ofVariant_6 ?_
    refine lv_icmp_ge (tgt := 25) hx hb dX5_ofVariant_9 (by decide) (fun c2 => ?_) (fun c2 => ?_)
    · rw [if_pos c2] at h
      refine lv_iconst (v := (-1)) hx hb dX5_ofVariant_25 (by decide) ?_
      exact g_iret cx hr hlk hw h dX5_ofVariant_26
    · rw [if_neg c2] at h
      refine lv_aload_n hx hb dX5_ofVariant_12 rfl (lv_at hl 0 rfl) ?_
      refine g_get cx hw inX5 (ci := 4) rfl 12 (by decide) rfl (v := .ref (ad 45)) shx_39 rfl fl_X5_28 dX5_ofVariant_13 ?_
      refine lv_iload_n hx hb dX5_ofVariant_16 rfl (lv_at hl 1 rfl) ?_
      refine lv_iconst (v := 4) hx hb dX5_ofVariant_17 (by decide) ?_
      refine lv_imul hx hb dX5_ofVariant_18 ?_
      refine lv_iload_n hx hb dX5_ofVariant_19 rfl (lv_at hl 2 rfl) ?_
      refine lv_iadd hx hb dX5_ofVariant_20 ?_
      refine g_iald cx hw shx_45 h dX5_ofVariant_21 (fun h => ?_)
      refine lv_goto (tgt := 26) hx hb dX5_ofVariant_22 (by decide) ?_
      exact g_iret cx hr hlk hw h dX5_ofVariant_26

theorem p_X10_shapeCall_b117_ex : ∃ f : (Int32 → Int32 → Int32 → Mem → Option Mem) → Int32 → Int32 → Int32 → Mem → Option Mem, ∀ (K57 : Int32 → Int32 → Int32 → Mem → Option Mem) (a1 : Int32) (a3 : Int32) (a4 : Int32) (μ : Mem), f K57 a1 a3 a4 μ = bd (p_X5_ofVariant a3 (0 : Int32) μ) (fun r14 μ13 => bv (a4 + 1) (fun v15 => K57 a1 r14 v15 μ13)) := ⟨fun (K57 : Int32 → Int32 → Int32 → Mem → Option Mem) (a1 : Int32) (a3 : Int32) (a4 : Int32) (μ : Mem) => bd (p_X5_ofVariant a3 (0 : Int32) μ) (fun r14 μ13 => bv (a4 + 1) (fun v15 => K57 a1 r14 v15 μ13)), fun _ _ _ _ _ => rfl⟩
noncomputable def p_X10_shapeCall_b117 : (Int32 → Int32 → Int32 → Mem → Option Mem) → Int32 → Int32 → Int32 → Mem → Option Mem := Classical.choose p_X10_shapeCall_b117_ex
theorem p_X10_shapeCall_b117_eq (K57 : Int32 → Int32 → Int32 → Mem → Option Mem) (a1 : Int32) (a3 : Int32) (a4 : Int32) (μ : Mem) : p_X10_shapeCall_b117 K57 a1 a3 a4 μ = bd (p_X5_ofVariant a3 (0 : Int32) μ) (fun r14 μ13 => bv (a4 + 1) (fun v15 => K57 a1 r14 v15 μ13)) := Classical.choose_spec p_X10_shapeCall_b117_ex K57 a1 a3 a4 μ
set_option maxHeartbeats 4000000 in
set_option maxRecDepth 100000 in
theorem t_X10_shapeCall_b117 (l : Launch) (G : Gt) (ad : Nat → Nat) (av : List Value) {μz : Mem} (K57 : Int32 → Int32 → Int32 → Mem → Option Mem) (hK57 : ∀ (z1 : Int32) (z3 : Int32) (z4 : Int32) (μ1 : Mem), K57 z1 z3 z4 μ1 = some μz → Bk l cX10_shapeCall 6 RX10 none ({ frames := 6, cells := 0, slots := 0, locals := 150 } : Room) G av (eV 0 G ad μz) (wd 0 G ad μ1) 57 [(0, .ref (ad 137)), (1, .int z1), (3, .int z3), (4, .int z4)] []) (a1 : Int32) (a3 : Int32) (a4 : Int32) (μ : Mem) (h : p_X10_shapeCall_b117 K57 a1 a3 a4 μ = some μz) : Bk l cX10_shapeCall 6 RX10 none ({ frames := 6, cells := 0, slots := 0, locals := 150 } : Room) G av (eV 0 G ad μz) (wd 0 G ad μ) 117 [(0, .ref (ad 137)), (1, .int a1), (3, .int a3), (4, .int a4)] [] := by
  intro p e s m below meth c A ls H locs cx hr hlk hA hl hw
  have hx := cx.1
  have hb := cx.2.1
  rw [p_X10_shapeCall_b117_eq] at h
  refine lv_aload_n hx hb dX10_shapeCall_117 rfl (lv_at hl 0 rfl) ?_
  refine g_get cx hw inX10 (ci := 9) rfl 4 (by decide) rfl (v := .ref (ad 39)) shx_137 rfl fl_X10_25 dX10_shapeCall_118 ?_
  refine lv_iload_n hx hb dX10_shapeCall_121 rfl (lv_at hl 2 rfl) ?_
  refine lv_iconst (v := 0) hx hb dX10_shapeCall_122 (by decide) ?_
  obtain ⟨r14, μ13, gr14, h⟩ := bd_some h
  refine g_callVI (As := [.int a3, .int 0]) (rest := []) cx hw hA (t_X5_ofVariant l G ad a3 (0 : Int32) μ gr14) shx_39 rfl ml_X10_324 im_X5_ofVariant se_X5_ofVariant in_X5 co_X5_ofVariant rfl hd_X5_ofVariant rfl ⟨(Nat.le_of_ble_eq_true rfl), (Nat.le_of_ble_eq_true rfl)⟩ hl.1 rfl (Nat.le_of_ble_eq_true rfl) dX10_shapeCall_123 ⟨rfl, rfl⟩ (fun H locs hw => ?_)
  refine lv_istore_n (lv' := [(3, .int r14), (0, .ref (ad 137)), (1, .int a1), (4, .int a4)]) hx hb dX10_shapeCall_126 rfl hl (by decide) rfl (fun ls hl => ?_)
  obtain ⟨v15, ev15, h⟩ := bv_ex h
  refine lv_iinc (v := v15) (lv' := [(4, .int v15), (3, .int r14), (0, .ref (ad 137)), (1, .int a1)]) hx hb dX10_shapeCall_127 hl (k := 3) rfl (by rw [ev15]; rfl) (by decide) rfl (fun ls hl => ?_)
  refine lv_goto (tgt := 57) hx hb dX10_shapeCall_130 (by decide) ?_
  exact hK57 a1 r14 v15 μ13 h p e s m below meth c A ls H locs cx hr hlk hA (lv_sub hl [2, 3, 1, 0] rfl) hw
theorem p_X10_shapeCall_b57_ex : ∃ f : Nat → Int32 → Int32 → Int32 → Mem → Option Mem, (∀ (a1 : Int32) (a3 : Int32) (a4 : Int32) (μ : Mem), f  0 a1 a3 a4 μ = none) ∧ (∀ (n : Nat) (a1 : Int32) (a3 : Int32) (a4 : Int32) (μ : Mem), f  (n + 1) a1 a3 a4 μ = (if (24 : Int32) ≤ a4 then some μ else (if a3 = (-1 : Int32) then some μ else bd (p_X5_patternOf a3 μ) (fun r11 μ10 => (if (μ10.1 r11 3) = a1 then bd (p_X2_growBeside (sel 1 (μ10.2.2 137 14)) r11 (sel 1 (μ10.2.2 137 15)) μ10) (fun r17 μ16 => bv (sF μ16 39 4 ((μ10.1 39 4) + r17)) (fun μ18 => bw (p_X10_swapCalls μ18) (fun μ19 => p_X10_shapeCall_b117 (f n) a1 a3 a4 μ19))) else p_X10_shapeCall_b117 (f n) a1 a3 a4 μ10))))) := ⟨fun n => Nat.rec (fun (a1 : Int32) (a3 : Int32) (a4 : Int32) (μ : Mem) => none) (fun _ ih => fun (a1 : Int32) (a3 : Int32) (a4 : Int32) (μ : Mem) => (if (24 : Int32) ≤ a4 then some μ else (if a3 = (-1 : Int32) then some μ else bd (p_X5_patternOf a3 μ) (fun r11 μ10 => (if (μ10.1 r11 3) = a1 then bd (p_X2_growBeside (sel 1 (μ10.2.2 137 14)) r11 (sel 1 (μ10.2.2 137 15)) μ10) (fun r17 μ16 => bv (sF μ16 39 4 ((μ10.1 39 4) + r17)) (fun μ18 => bw (p_X10_swapCalls μ18) (fun μ19 => p_X10_shapeCall_b117 (ih) a1 a3 a4 μ19))) else p_X10_shapeCall_b117 (ih) a1 a3 a4 μ10))))) n, fun  _ _ _ _ => rfl, fun  _ _ _ _ _ => rfl⟩
noncomputable def p_X10_shapeCall_b57 : Nat → Int32 → Int32 → Int32 → Mem → Option Mem := Classical.choose p_X10_shapeCall_b57_ex
theorem p_X10_shapeCall_b57_z (a1 : Int32) (a3 : Int32) (a4 : Int32) (μ : Mem) : p_X10_shapeCall_b57  0 a1 a3 a4 μ = none := (Classical.choose_spec p_X10_shapeCall_b57_ex).1  a1 a3 a4 μ
theorem p_X10_shapeCall_b57_s (n : Nat) (a1 : Int32) (a3 : Int32) (a4 : Int32) (μ : Mem) : p_X10_shapeCall_b57  (n + 1) a1 a3 a4 μ = (if (24 : Int32) ≤ a4 then some μ else (if a3 = (-1 : Int32) then some μ else bd (p_X5_patternOf a3 μ) (fun r11 μ10 => (if (μ10.1 r11 3) = a1 then bd (p_X2_growBeside (sel 1 (μ10.2.2 137 14)) r11 (sel 1 (μ10.2.2 137 15)) μ10) (fun r17 μ16 => bv (sF μ16 39 4 ((μ10.1 39 4) + r17)) (fun μ18 => bw (p_X10_swapCalls μ18) (fun μ19 => p_X10_shapeCall_b117 (p_X10_shapeCall_b57  n) a1 a3 a4 μ19))) else p_X10_shapeCall_b117 (p_X10_shapeCall_b57  n) a1 a3 a4 μ10)))) := (Classical.choose_spec p_X10_shapeCall_b57_ex).2  n a1 a3 a4 μ
set_option maxHeartbeats 4000000 in
set_option maxRecDepth 100000 in
theorem t_X10_shapeCall_b57 (l : Launch) (G : Gt) (ad : Nat → Nat) (av : List Value) {μz : Mem} : ∀ (n : Nat) (a1 : Int32) (a3 : Int32) (a4 : Int32) (μ : Mem), p_X10_shapeCall_b57  n a1 a3 a4 μ = some μz → Bk l cX10_shapeCall 6 RX10 none ({ frames := 6, cells := 0, slots := 0, locals := 150 } : Room) G av (eV 0 G ad μz) (wd 0 G ad μ) 57 [(0, .ref (ad 137)), (1, .int a1), (3, .int a3), (4, .int a4)] [] := by
  intro n
  induction n with
  | zero => intro a1 a3 a4 μ h; rw [p_X10_shapeCall_b57_z] at h; cases h
  | succ n ih =>
    intro a1 a3 a4 μ h p e s m below meth c A ls H locs cx hr hlk hA hl hw
    have hx := cx.1
    have hb := cx.2.1
    rw [p_X10_shapeCall_b57_s] at h
    refine lv_iload hx hb dX10_shapeCall_57 (lv_at hl 3 rfl) ?_
    refine lv_bipush (v := 24) hx hb dX10_shapeCall_59 (by decide) ?_
    refine lv_icmp_ge (tgt := 133) hx hb dX10_shapeCall_61 (by decide) (fun c8 => ?_) (fun c8 => ?_)
    · rw [if_pos c8] at h
      exact g_vret cx hr hlk hw h dX10_shapeCall_133
    · rw [if_neg c8] at h
      refine lv_iload_n hx hb dX10_shapeCall_64 rfl (lv_at hl 2 rfl) ?_
      refine lv_iconst (v := (-1)) hx hb dX10_shapeCall_65 (by decide) ?_
      refine lv_icmp_eq (tgt := 133) hx hb dX10_shapeCall_66 (by decide) (fun c9 => ?_) (fun c9 => ?_)
      · rw [if_pos c9] at h
        exact g_vret cx hr hlk hw h dX10_shapeCall_133
      · rw [if_neg c9] at h
        refine lv_aload_n hx hb dX10_shapeCall_69 rfl (lv_at hl 0 rfl) ?_
        refine g_get cx hw inX10 (ci := 9) rfl 4 (by decide) rfl (v := .ref (ad 39)) shx_137 rfl fl_X10_25 dX10_shapeCall_70 ?_
        refine lv_iload_n hx hb dX10_shapeCall_73 rfl (lv_at hl 2 rfl) ?_
        obtain ⟨r11, μ10, gr11, h⟩ := bd_some h
        refine g_callVR (As := [.int a3]) (rest := []) cx hw hA (t_X5_patternOf l G ad a3 μ gr11) shx_39 rfl ml_X10_100 im_X5_patternOf se_X5_patternOf in_X5 co_X5_patternOf rfl hd_X5_patternOf rfl ⟨(Nat.le_of_ble_eq_true rfl), (Nat.le_of_ble_eq_true rfl)⟩ hl.1 rfl (Nat.le_of_ble_eq_true rfl) dX10_shapeCall_74 ⟨rfl, rfl⟩ (fun H locs hw => ?_)
        have qr11 : sh 0 r11 = (0, 1) := p_X5_patternOf_sh gr11
        refine lv_astore (lv' := [(5, .ref (ad r11)), (0, .ref (ad 137)), (1, .int a1), (3, .int a3), (4, .int a4)]) hx hb dX10_shapeCall_77 hl (by decide) rfl (fun ls hl => ?_)
        refine lv_aload hx hb dX10_shapeCall_79 (lv_at hl 0 rfl) ?_
        refine g_get cx hw inX2 (ci := 1) rfl 3 (by decide) rfl (v := .int (μ10.1 r11 3)) qr11 rfl fl_X10_76 dX10_shapeCall_81 ?_
        refine lv_iload_n hx hb dX10_shapeCall_84 rfl (lv_at hl 2 rfl) ?_
        refine lv_icmp_ne (tgt := 117) hx hb dX10_shapeCall_85 (by decide) (fun c12 => ?_) (fun c12 => ?_)
        · rw [if_neg c12] at h
          exact t_X10_shapeCall_b117 l G ad av _ ih a1 a3 a4 μ10 h p e s m below meth c A ls H locs cx hr hlk hA (lv_sub hl [1, 2, 3, 4] rfl) hw
        · rw [if_pos c12] at h
          refine lv_aload_n hx hb dX10_shapeCall_88 rfl (lv_at hl 1 rfl) ?_
          refine g_get cx hw inX10 (ci := 9) rfl 4 (by decide) rfl (v := .ref (ad 39)) shx_137 rfl fl_X10_25 dX10_shapeCall_89 ?_
          refine lv_dup hx hb dX10_shapeCall_92 rfl ?_
          refine g_get cx hw inX5 (ci := 4) rfl 4 (by decide) rfl (v := .int (μ10.1 39 4)) shx_39 rfl fl_X10_314 dX10_shapeCall_93 ?_
          refine lv_aload_n hx hb dX10_shapeCall_96 rfl (lv_at hl 1 rfl) ?_
          refine g_get cx hw inX10 (ci := 9) rfl 14 (by decide) rfl (v := .ref (ad (sel 1 (μ10.2.2 137 14)))) shx_137 rfl fl_X10_46 dX10_shapeCall_97 ?_
          refine lv_aload hx hb dX10_shapeCall_100 (lv_at hl 0 rfl) ?_
          refine lv_aload_n hx hb dX10_shapeCall_102 rfl (lv_at hl 1 rfl) ?_
          refine g_get cx hw inX10 (ci := 9) rfl 15 (by decide) rfl (v := .ref (ad (sel 1 (μ10.2.2 137 15)))) shx_137 rfl fl_X10_50 dX10_shapeCall_103 ?_
          obtain ⟨r17, μ16, gr17, h⟩ := bd_some h
          refine g_callVI (As := [.ref (ad r11), .ref (ad (sel 1 (μ10.2.2 137 15)))]) (rest := [.int (μ10.1 39 4), .ref (ad 39)]) cx hw hA (t_X2_growBeside l G ad (sel 1 (μ10.2.2 137 14)) (sel_1 _) r11 qr11 (sel 1 (μ10.2.2 137 15)) (sel_1 _) μ10 gr17) (sel_1 _) rfl ml_X10_317 im_X2_growBeside se_X2_growBeside in_X2 co_X2_growBeside rfl hd_X2_growBeside rfl ⟨(Nat.le_of_ble_eq_true rfl), (Nat.le_of_ble_eq_true rfl)⟩ hl.1 rfl (Nat.le_of_ble_eq_true rfl) dX10_shapeCall_106 ⟨rfl, rfl⟩ (fun H locs hw => ?_)
          refine lv_iadd hx hb dX10_shapeCall_109 ?_
          refine g_put cx hw inX5 (ci := 4) rfl tyX5_ok nmX5 4 (by decide) rfl rfl rfl rfl shx_39 h fl_X10_314 dX10_shapeCall_110 (fun μ18 H locs h hw => ?_)
          refine lv_aload_n hx hb dX10_shapeCall_113 rfl (lv_at hl 1 rfl) ?_
          obtain ⟨μ19, gμ19, h⟩ := bw_some h
          refine g_callVV (As := []) (rest := []) cx hw hA (t_X10_swapCalls l G ad μ18 gμ19) shx_137 rfl ml_X10_321 im_X10_swapCalls se_X10_swapCalls in_X10 co_X10_swapCalls rfl hd_X10_swapCalls rfl ⟨(Nat.le_of_ble_eq_true rfl), (Nat.le_of_ble_eq_true rfl)⟩ hl.1 rfl (Nat.le_of_ble_eq_true rfl) dX10_shapeCall_114 ⟨rfl, rfl⟩ (fun H locs hw => ?_)
          exact t_X10_shapeCall_b117 l G ad av _ ih a1 a3 a4 μ19 h p e s m below meth c A ls H locs cx hr hlk hA (lv_sub hl [1, 2, 3, 4] rfl) hw
theorem p_X10_shapeCall_b12_ex : ∃ f : Nat → Int32 → Int32 → Int32 → Mem → Option Mem, (∀ (a1 : Int32) (a2 : Int32) (a3 : Int32) (μ : Mem), f  0 a1 a2 a3 μ = none) ∧ (∀ (n : Nat) (a1 : Int32) (a2 : Int32) (a3 : Int32) (μ : Mem), f  (n + 1) a1 a2 a3 μ = (if a3 < (0 : Int32) then bw (p_X8_drop a2 μ) (fun μ5 => bv (μ5.1 137 7) (fun v7 => p_X10_shapeCall_b57  FUEL a1 v7 (0 : Int32) μ5)) else bd (p_X8_fromTop a3 μ) (fun r22 μ21 => bw (p_X8_flatten r22 (sel 1 (μ21.2.2 137 14)) μ21) (fun μ23 => bv (a3 + (-1)) (fun v25 => f n a1 a2 v25 μ23))))) := ⟨fun n => Nat.rec (fun (a1 : Int32) (a2 : Int32) (a3 : Int32) (μ : Mem) => none) (fun _ ih => fun (a1 : Int32) (a2 : Int32) (a3 : Int32) (μ : Mem) => (if a3 < (0 : Int32) then bw (p_X8_drop a2 μ) (fun μ5 => bv (μ5.1 137 7) (fun v7 => p_X10_shapeCall_b57  FUEL a1 v7 (0 : Int32) μ5)) else bd (p_X8_fromTop a3 μ) (fun r22 μ21 => bw (p_X8_flatten r22 (sel 1 (μ21.2.2 137 14)) μ21) (fun μ23 => bv (a3 + (-1)) (fun v25 => ih a1 a2 v25 μ23))))) n, fun  _ _ _ _ => rfl, fun  _ _ _ _ _ => rfl⟩
noncomputable def p_X10_shapeCall_b12 : Nat → Int32 → Int32 → Int32 → Mem → Option Mem := Classical.choose p_X10_shapeCall_b12_ex
theorem p_X10_shapeCall_b12_z (a1 : Int32) (a2 : Int32) (a3 : Int32) (μ : Mem) : p_X10_shapeCall_b12  0 a1 a2 a3 μ = none := (Classical.choose_spec p_X10_shapeCall_b12_ex).1  a1 a2 a3 μ
theorem p_X10_shapeCall_b12_s (n : Nat) (a1 : Int32) (a2 : Int32) (a3 : Int32) (μ : Mem) : p_X10_shapeCall_b12  (n + 1) a1 a2 a3 μ = (if a3 < (0 : Int32) then bw (p_X8_drop a2 μ) (fun μ5 => bv (μ5.1 137 7) (fun v7 => p_X10_shapeCall_b57  FUEL a1 v7 (0 : Int32) μ5)) else bd (p_X8_fromTop a3 μ) (fun r22 μ21 => bw (p_X8_flatten r22 (sel 1 (μ21.2.2 137 14)) μ21) (fun μ23 => bv (a3 + (-1)) (fun v25 => p_X10_shapeCall_b12  n a1 a2 v25 μ23)))) := (Classical.choose_spec p_X10_shapeCall_b12_ex).2  n a1 a2 a3 μ
set_option maxHeartbeats 4000000 in
set_option maxRecDepth 100000 in
theorem t_X10_shapeCall_b12 (l : Launch) (G : Gt) (ad : Nat → Nat) (av : List Value) {μz : Mem} : ∀ (n : Nat) (a1 : Int32) (a2 : Int32) (a3 : Int32) (μ : Mem), p_X10_shapeCall_b12  n a1 a2 a3 μ = some μz → Bk l cX10_shapeCall 6 RX10 none ({ frames := 6, cells := 0, slots := 0, locals := 150 } : Room) G av (eV 0 G ad μz) (wd 0 G ad μ) 12 [(0, .ref (ad 137)), (1, .int a1), (2, .int a2), (3, .int a3)] [] := by
  intro n
  induction n with
  | zero => intro a1 a2 a3 μ h; rw [p_X10_shapeCall_b12_z] at h; cases h
  | succ n ih =>
    intro a1 a2 a3 μ h p e s m below meth c A ls H locs cx hr hlk hA hl hw
    have hx := cx.1
    have hb := cx.2.1
    rw [p_X10_shapeCall_b12_s] at h
    refine lv_iload_n hx hb dX10_shapeCall_12 rfl (lv_at hl 3 rfl) ?_
    refine lv_if_lt (tgt := 41) hx hb dX10_shapeCall_13 (by decide) (fun c4 => ?_) (fun c4 => ?_)
    · rw [if_pos c4] at h
      refine lv_aload_n hx hb dX10_shapeCall_41 rfl (lv_at hl 0 rfl) ?_
      refine g_get cx hw inX10 (ci := 9) rfl 3 (by decide) rfl (v := .ref (ad 30)) shx_137 rfl fl_X10_21 dX10_shapeCall_42 ?_
      refine lv_iload_n hx hb dX10_shapeCall_45 rfl (lv_at hl 2 rfl) ?_
      obtain ⟨μ5, gμ5, h⟩ := bw_some h
      refine g_callVV (As := [.int a2]) (rest := []) cx hw hA (t_X8_drop l G ad a2 μ gμ5) shx_30 rfl ml_X10_295 im_X8_drop se_X8_drop in_X8 co_X8_drop rfl hd_X8_drop rfl ⟨(Nat.le_of_ble_eq_true rfl), (Nat.le_of_ble_eq_true rfl)⟩ hl.1 rfl (Nat.le_of_ble_eq_true rfl) dX10_shapeCall_46 ⟨rfl, rfl⟩ (fun H locs hw => ?_)
      refine lv_aload_n hx hb dX10_shapeCall_49 rfl (lv_at hl 0 rfl) ?_
      refine g_get cx hw inX10 (ci := 9) rfl 7 (by decide) rfl (v := .int (μ5.1 137 7)) shx_137 rfl fl_X10_92 dX10_shapeCall_50 ?_
      obtain ⟨v7, ev7, h⟩ := bv_ex h
      refine lv_topi (fun y9 z9 => ?_)
      obtain rfl : v7 = y9 := ev7.trans z9.symm
      refine lv_istore_n (lv' := [(3, .int v7), (0, .ref (ad 137)), (1, .int a1), (2, .int a2)]) hx hb dX10_shapeCall_53 rfl hl (by decide) rfl (fun ls hl => ?_)
      refine lv_iconst (v := 0) hx hb dX10_shapeCall_54 (by decide) ?_
      refine lv_istore (lv' := [(4, .int 0), (3, .int v7), (0, .ref (ad 137)), (1, .int a1), (2, .int a2)]) hx hb dX10_shapeCall_55 hl (by decide) rfl (fun ls hl => ?_)
      exact t_X10_shapeCall_b57 l G ad av  FUEL a1 v7 (0 : Int32) μ5 h p e s m below meth c A ls H locs cx hr hlk hA (lv_sub hl [2, 3, 1, 0] rfl) hw
    · rw [if_neg c4] at h
      refine lv_aload_n hx hb dX10_shapeCall_16 rfl (lv_at hl 0 rfl) ?_
      refine g_get cx hw inX10 (ci := 9) rfl 3 (by decide) rfl (v := .ref (ad 30)) shx_137 rfl fl_X10_21 dX10_shapeCall_17 ?_
      refine lv_aload_n hx hb dX10_shapeCall_20 rfl (lv_at hl 0 rfl) ?_
      refine g_get cx hw inX10 (ci := 9) rfl 3 (by decide) rfl (v := .ref (ad 30)) shx_137 rfl fl_X10_21 dX10_shapeCall_21 ?_
      refine lv_iload_n hx hb dX10_shapeCall_24 rfl (lv_at hl 3 rfl) ?_
      obtain ⟨r22, μ21, gr22, h⟩ := bd_some h
      refine g_callVL (As := [.int a3]) (rest := [.ref (ad 30)]) cx hw hA (t_X8_fromTop l G ad a3 μ gr22) shx_30 rfl ml_X10_184 im_X8_fromTop se_X8_fromTop in_X8 co_X8_fromTop rfl hd_X8_fromTop rfl ⟨(Nat.le_of_ble_eq_true rfl), (Nat.le_of_ble_eq_true rfl)⟩ hl.1 rfl (Nat.le_of_ble_eq_true rfl) dX10_shapeCall_25 ⟨rfl, rfl⟩ (fun H locs hw => ?_)
      refine lv_aload_n hx hb dX10_shapeCall_28 rfl (lv_at hl 0 rfl) ?_
      refine g_get cx hw inX10 (ci := 9) rfl 14 (by decide) rfl (v := .ref (ad (sel 1 (μ21.2.2 137 14)))) shx_137 rfl fl_X10_46 dX10_shapeCall_29 ?_
      obtain ⟨μ23, gμ23, h⟩ := bw_some h
      refine g_callVV (As := [.long r22, .ref (ad (sel 1 (μ21.2.2 137 14)))]) (rest := []) cx hw hA (t_X8_flatten l G ad r22 (sel 1 (μ21.2.2 137 14)) (sel_1 _) μ21 gμ23) shx_30 rfl ml_X10_310 im_X8_flatten se_X8_flatten in_X8 co_X8_flatten rfl hd_X8_flatten rfl ⟨(Nat.le_of_ble_eq_true rfl), (Nat.le_of_ble_eq_true rfl)⟩ hl.1 rfl (Nat.le_of_ble_eq_true rfl) dX10_shapeCall_32 ⟨rfl, rfl⟩ (fun H locs hw => ?_)
      obtain ⟨v25, ev25, h⟩ := bv_ex h
      refine lv_iinc (v := v25) (lv' := [(3, .int v25), (0, .ref (ad 137)), (1, .int a1), (2, .int a2)]) hx hb dX10_shapeCall_35 hl (k := 3) rfl (by rw [ev25]; rfl) (by decide) rfl (fun ls hl => ?_)
      refine lv_goto (tgt := 12) hx hb dX10_shapeCall_38 (by decide) ?_
      exact ih a1 a2 v25 μ23 h p e s m below meth c A ls H locs cx hr hlk hA (lv_sub hl [1, 2, 3, 0] rfl) hw
theorem p_X10_shapeCall_ex : ∃ f : Int32 → Int32 → Mem → Option Mem, ∀ (a1 : Int32) (a2 : Int32) (μ : Mem), f a1 a2 μ = bw (p_X2_begin (sel 1 (μ.2.2 137 14)) a1 μ) (fun μ1 => bv (a2 - (1 : Int32)) (fun v3 => p_X10_shapeCall_b12  FUEL a1 a2 v3 μ1)) := ⟨fun (a1 : Int32) (a2 : Int32) (μ : Mem) => bw (p_X2_begin (sel 1 (μ.2.2 137 14)) a1 μ) (fun μ1 => bv (a2 - (1 : Int32)) (fun v3 => p_X10_shapeCall_b12  FUEL a1 a2 v3 μ1)), fun _ _ _ => rfl⟩
noncomputable def p_X10_shapeCall : Int32 → Int32 → Mem → Option Mem := Classical.choose p_X10_shapeCall_ex
theorem p_X10_shapeCall_eq (a1 : Int32) (a2 : Int32) (μ : Mem) : p_X10_shapeCall a1 a2 μ = bw (p_X2_begin (sel 1 (μ.2.2 137 14)) a1 μ) (fun μ1 => bv (a2 - (1 : Int32)) (fun v3 => p_X10_shapeCall_b12  FUEL a1 a2 v3 μ1)) := Classical.choose_spec p_X10_shapeCall_ex a1 a2 μ
set_option maxHeartbeats 4000000 in
set_option maxRecDepth 100000 in
theorem t_X10_shapeCall (l : Launch) (G : Gt) (ad : Nat → Nat) (a1 : Int32) (a2 : Int32) (μ : Mem) {μz : Mem} (h : p_X10_shapeCall a1 a2 μ = some μz) : Mt l yX10_shapeCall cX10_shapeCall 6 none ({ frames := 6, cells := 0, slots := 0, locals := 150 } : Room) G [.ref (ad 137), .int a1, .int a2] (wd 0 G ad μ) (eV 0 G ad μz) := by
  refine Bk.mt (by decide) rfl (Nat.le_of_ble_eq_true rfl) ?_
  intro p e s m below meth c A ls H locs cx hr hlk hA hl hw
  have hx := cx.1
  have hb := cx.2.1
  have hl : lv_has ls 6 [(0, .ref (ad 137)), (1, .int a1), (2, .int a2)] := hl
  rw [p_X10_shapeCall_eq] at h
  refine lv_aload_n hx hb dX10_shapeCall_0 rfl (lv_at hl 0 rfl) ?_
  refine g_get cx hw inX10 (ci := 9) rfl 14 (by decide) rfl (v := .ref (ad (sel 1 (μ.2.2 137 14)))) shx_137 rfl fl_X10_46 dX10_shapeCall_1 ?_
  refine lv_iload_n hx hb dX10_shapeCall_4 rfl (lv_at hl 1 rfl) ?_
  obtain ⟨μ1, gμ1, h⟩ := bw_some h
  refine g_callVV (As := [.int a1]) (rest := []) cx hw hA (t_X2_begin l G ad (sel 1 (μ.2.2 137 14)) (sel_1 _) a1 μ gμ1) (sel_1 _) rfl ml_X10_307 im_X2_begin se_X2_begin in_X2 co_X2_begin rfl hd_X2_begin rfl ⟨(Nat.le_of_ble_eq_true rfl), (Nat.le_of_ble_eq_true rfl)⟩ hl.1 rfl (Nat.le_of_ble_eq_true rfl) dX10_shapeCall_5 ⟨rfl, rfl⟩ (fun H locs hw => ?_)
  refine lv_iload_n hx hb dX10_shapeCall_8 rfl (lv_at hl 2 rfl) ?_
  refine lv_iconst (v := 1) hx hb dX10_shapeCall_9 (by decide) ?_
  refine lv_isub hx hb dX10_shapeCall_10 ?_
  obtain ⟨v3, ev3, h⟩ := bv_ex h
  refine lv_topi (fun y9 z9 => ?_)
  obtain rfl : v3 = y9 := ev3.trans z9.symm
  refine lv_istore_n (lv' := [(3, .int v3), (0, .ref (ad 137)), (1, .int a1), (2, .int a2)]) hx hb dX10_shapeCall_11 rfl hl (by decide) rfl (fun ls hl => ?_)
  exact t_X10_shapeCall_b12 l G ad _  FUEL a1 a2 v3 μ1 h p e s m below meth c A ls H locs cx hr hlk hA (lv_sub hl [1, 2, 3, 0] rfl) hw

theorem p_X2_isSame_b26_ex : ∃ f : Nat → Nat → Nat → Int32 → Mem → Option (Int32 × Mem), (∀ (a0 : Nat) (a1 : Nat) (a2 : Int32) (μ : Mem), f  0 a0 a1 a2 μ = none) ∧ (∀ (n : Nat) (a0 : Nat) (a1 : Nat) (a2 : Int32) (μ : Mem), f  (n + 1) a0 a1 a2 μ = (if (μ.1 a0 2) ≤ a2 then some ((1 : Int32), μ) else (if (μ.1 a1 2) ≤ a2 then some ((1 : Int32), μ) else gd (inb a2 ((sh 0 (a0 + 1)).2)) (gd (inb a2 ((sh 0 (a1 + 1)).2)) ((if (lg_cmp (μ.2.1 (a0 + 1) a2.toNatClampNeg) (μ.2.1 (a1 + 1) a2.toNatClampNeg)) = (0 : Int32) then bv (a2 + 1) (fun v6 => f n a0 a1 v6 μ) else some ((0 : Int32), μ))))))) := ⟨fun n => Nat.rec (fun (a0 : Nat) (a1 : Nat) (a2 : Int32) (μ : Mem) => none) (fun _ ih => fun (a0 : Nat) (a1 : Nat) (a2 : Int32) (μ : Mem) => (if (μ.1 a0 2) ≤ a2 then some ((1 : Int32), μ) else (if (μ.1 a1 2) ≤ a2 then some ((1 : Int32), μ) else gd (inb a2 ((sh 0 (a0 + 1)).2)) (gd (inb a2 ((sh 0 (a1 + 1)).2)) ((if (lg_cmp (μ.2.1 (a0 + 1) a2.toNatClampNeg) (μ.2.1 (a1 + 1) a2.toNatClampNeg)) = (0 : Int32) then bv (a2 + 1) (fun v6 => ih a0 a1 v6 μ) else some ((0 : Int32), μ))))))) n, fun  _ _ _ _ => rfl, fun  _ _ _ _ _ => rfl⟩
noncomputable def p_X2_isSame_b26 : Nat → Nat → Nat → Int32 → Mem → Option (Int32 × Mem) := Classical.choose p_X2_isSame_b26_ex
theorem p_X2_isSame_b26_z (a0 : Nat) (a1 : Nat) (a2 : Int32) (μ : Mem) : p_X2_isSame_b26  0 a0 a1 a2 μ = none := (Classical.choose_spec p_X2_isSame_b26_ex).1  a0 a1 a2 μ
theorem p_X2_isSame_b26_s (n : Nat) (a0 : Nat) (a1 : Nat) (a2 : Int32) (μ : Mem) : p_X2_isSame_b26  (n + 1) a0 a1 a2 μ = (if (μ.1 a0 2) ≤ a2 then some ((1 : Int32), μ) else (if (μ.1 a1 2) ≤ a2 then some ((1 : Int32), μ) else gd (inb a2 ((sh 0 (a0 + 1)).2)) (gd (inb a2 ((sh 0 (a1 + 1)).2)) ((if (lg_cmp (μ.2.1 (a0 + 1) a2.toNatClampNeg) (μ.2.1 (a1 + 1) a2.toNatClampNeg)) = (0 : Int32) then bv (a2 + 1) (fun v6 => p_X2_isSame_b26  n a0 a1 v6 μ) else some ((0 : Int32), μ)))))) := (Classical.choose_spec p_X2_isSame_b26_ex).2  n a0 a1 a2 μ
set_option maxHeartbeats 4000000 in
set_option maxRecDepth 100000 in
theorem t_X2_isSame_b26 (l : Launch) (G : Gt) (ad : Nat → Nat) (av : List Value) {r : Int32} {μz : Mem} : ∀ (n : Nat) (a0 : Nat) (q0 : sh 0 a0 = (0, 1)) (a1 : Nat) (q1 : sh 0 a1 = (0, 1)) (a2 : Int32) (μ : Mem), p_X2_isSame_b26  n a0 a1 a2 μ = some (r, μz) → Bk l cX2_isSame 3 RX2 (some .boolean) ({ frames := 0, cells := 0, slots := 0, locals := 0 } : Room) G av (eI 0 G ad r μz) (wd 0 G ad μ) 26 [(0, .ref (ad a0)), (1, .ref (ad a1)), (2, .int a2)] [] := by
  intro n
  induction n with
  | zero => intro a0 q0 a1 q1 a2 μ h; rw [p_X2_isSame_b26_z] at h; cases h
  | succ n ih =>
    intro a0 q0 a1 q1 a2 μ h p e s m below meth c A ls H locs cx hr hlk hA hl hw
    have hx := cx.1
    have hb := cx.2.1
    rw [p_X2_isSame_b26_s] at h
    refine lv_iload_n hx hb dX2_isSame_26 rfl (lv_at hl 2 rfl) ?_
    refine lv_aload_n hx hb dX2_isSame_27 rfl (lv_at hl 0 rfl) ?_
    refine g_get cx hw inX2 (ci := 1) rfl 2 (by decide) rfl (v := .int (μ.1 a0 2)) q0 rfl fl_X2_18 dX2_isSame_28 ?_
    refine lv_icmp_ge (tgt := 66) hx hb dX2_isSame_31 (by decide) (fun c3 => ?_) (fun c3 => ?_)
    · rw [if_pos c3] at h
      refine lv_iconst (v := 1) hx hb dX2_isSame_66 (by decide) ?_
      exact g_zret cx hr hlk rfl hw h dX2_isSame_67
    · rw [if_neg c3] at h
      refine lv_iload_n hx hb dX2_isSame_34 rfl (lv_at hl 2 rfl) ?_
      refine lv_aload_n hx hb dX2_isSame_35 rfl (lv_at hl 1 rfl) ?_
      refine g_get cx hw inX2 (ci := 1) rfl 2 (by decide) rfl (v := .int (μ.1 a1 2)) q1 rfl fl_X2_18 dX2_isSame_36 ?_
      refine lv_icmp_ge (tgt := 66) hx hb dX2_isSame_39 (by decide) (fun c4 => ?_) (fun c4 => ?_)
      · rw [if_pos c4] at h
        refine lv_iconst (v := 1) hx hb dX2_isSame_66 (by decide) ?_
        exact g_zret cx hr hlk rfl hw h dX2_isSame_67
      · rw [if_neg c4] at h
        refine lv_aload_n hx hb dX2_isSame_42 rfl (lv_at hl 0 rfl) ?_
        refine g_get cx hw inX2 (ci := 1) rfl 0 (by decide) rfl (v := .ref (ad (a0 + 1))) q0 rfl fl_X2_9 dX2_isSame_43 ?_
        refine lv_iload_n hx hb dX2_isSame_46 rfl (lv_at hl 2 rfl) ?_
        refine g_lald cx hw (rl_X2_0 q0) h dX2_isSame_47 (fun h => ?_)
        refine lv_aload_n hx hb dX2_isSame_48 rfl (lv_at hl 1 rfl) ?_
        refine g_get cx hw inX2 (ci := 1) rfl 0 (by decide) rfl (v := .ref (ad (a1 + 1))) q1 rfl fl_X2_9 dX2_isSame_49 ?_
        refine lv_iload_n hx hb dX2_isSame_52 rfl (lv_at hl 2 rfl) ?_
        refine g_lald cx hw (rl_X2_0 q1) h dX2_isSame_53 (fun h => ?_)
        refine W.lcmp hx hb dX2_isSame_54 ?_
        refine lv_if_eq (tgt := 60) hx hb dX2_isSame_55 (by decide) (fun c5 => ?_) (fun c5 => ?_)
        · rw [if_pos c5] at h
          obtain ⟨v6, ev6, h⟩ := bv_ex h
          refine lv_iinc (v := v6) (lv' := [(2, .int v6), (0, .ref (ad a0)), (1, .ref (ad a1))]) hx hb dX2_isSame_60 hl (k := 2) rfl (by rw [ev6]; rfl) (by decide) rfl (fun ls hl => ?_)
          refine lv_goto (tgt := 26) hx hb dX2_isSame_63 (by decide) ?_
          exact ih a0 q0 a1 q1 v6 μ h p e s m below meth c A ls H locs cx hr hlk hA (lv_sub hl [1, 2, 0] rfl) hw
        · rw [if_neg c5] at h
          refine lv_iconst (v := 0) hx hb dX2_isSame_58 (by decide) ?_
          exact g_zret cx hr hlk rfl hw h dX2_isSame_59
theorem p_X2_isSame_ex : ∃ f : Nat → Nat → Mem → Option (Int32 × Mem), ∀ (a0 : Nat) (a1 : Nat) (μ : Mem), f a0 a1 μ = (if (μ.1 a0 3) = (μ.1 a1 3) then (if (μ.1 a0 2) = (μ.1 a1 2) then p_X2_isSame_b26  FUEL a0 a1 (0 : Int32) μ else some ((0 : Int32), μ)) else some ((0 : Int32), μ)) := ⟨fun (a0 : Nat) (a1 : Nat) (μ : Mem) => (if (μ.1 a0 3) = (μ.1 a1 3) then (if (μ.1 a0 2) = (μ.1 a1 2) then p_X2_isSame_b26  FUEL a0 a1 (0 : Int32) μ else some ((0 : Int32), μ)) else some ((0 : Int32), μ)), fun _ _ _ => rfl⟩
noncomputable def p_X2_isSame : Nat → Nat → Mem → Option (Int32 × Mem) := Classical.choose p_X2_isSame_ex
theorem p_X2_isSame_eq (a0 : Nat) (a1 : Nat) (μ : Mem) : p_X2_isSame a0 a1 μ = (if (μ.1 a0 3) = (μ.1 a1 3) then (if (μ.1 a0 2) = (μ.1 a1 2) then p_X2_isSame_b26  FUEL a0 a1 (0 : Int32) μ else some ((0 : Int32), μ)) else some ((0 : Int32), μ)) := Classical.choose_spec p_X2_isSame_ex a0 a1 μ
set_option maxHeartbeats 4000000 in
set_option maxRecDepth 100000 in
theorem t_X2_isSame (l : Launch) (G : Gt) (ad : Nat → Nat) (a0 : Nat) (q0 : sh 0 a0 = (0, 1)) (a1 : Nat) (q1 : sh 0 a1 = (0, 1)) (μ : Mem) {r : Int32} {μz : Mem} (h : p_X2_isSame a0 a1 μ = some (r, μz)) : Mt l yX2_isSame cX2_isSame 3 (some .boolean) ({ frames := 0, cells := 0, slots := 0, locals := 0 } : Room) G [.ref (ad a0), .ref (ad a1)] (wd 0 G ad μ) (eI 0 G ad r μz) := by
  refine Bk.mt (by decide) rfl (Nat.le_of_ble_eq_true rfl) ?_
  intro p e s m below meth c A ls H locs cx hr hlk hA hl hw
  have hx := cx.1
  have hb := cx.2.1
  have hl : lv_has ls 3 [(0, .ref (ad a0)), (1, .ref (ad a1))] := hl
  rw [p_X2_isSame_eq] at h
  refine lv_aload_n hx hb dX2_isSame_0 rfl (lv_at hl 0 rfl) ?_
  refine g_get cx hw inX2 (ci := 1) rfl 3 (by decide) rfl (v := .int (μ.1 a0 3)) q0 rfl fl_X2_22 dX2_isSame_1 ?_
  refine lv_aload_n hx hb dX2_isSame_4 rfl (lv_at hl 1 rfl) ?_
  refine g_get cx hw inX2 (ci := 1) rfl 3 (by decide) rfl (v := .int (μ.1 a1 3)) q1 rfl fl_X2_22 dX2_isSame_5 ?_
  refine lv_icmp_ne (tgt := 22) hx hb dX2_isSame_8 (by decide) (fun c1 => ?_) (fun c1 => ?_)
  · rw [if_neg c1] at h
    refine lv_iconst (v := 0) hx hb dX2_isSame_22 (by decide) ?_
    exact g_zret cx hr hlk rfl hw h dX2_isSame_23
  · rw [if_pos c1] at h
    refine lv_aload_n hx hb dX2_isSame_11 rfl (lv_at hl 0 rfl) ?_
    refine g_get cx hw inX2 (ci := 1) rfl 2 (by decide) rfl (v := .int (μ.1 a0 2)) q0 rfl fl_X2_18 dX2_isSame_12 ?_
    refine lv_aload_n hx hb dX2_isSame_15 rfl (lv_at hl 1 rfl) ?_
    refine g_get cx hw inX2 (ci := 1) rfl 2 (by decide) rfl (v := .int (μ.1 a1 2)) q1 rfl fl_X2_18 dX2_isSame_16 ?_
    refine lv_icmp_eq (tgt := 24) hx hb dX2_isSame_19 (by decide) (fun c2 => ?_) (fun c2 => ?_)
    · rw [if_pos c2] at h
      refine lv_iconst (v := 0) hx hb dX2_isSame_24 (by decide) ?_
      refine lv_istore_n (lv' := [(2, .int 0), (0, .ref (ad a0)), (1, .ref (ad a1))]) hx hb dX2_isSame_25 rfl hl (by decide) rfl (fun ls hl => ?_)
      exact t_X2_isSame_b26 l G ad _  FUEL a0 q0 a1 q1 (0 : Int32) μ h p e s m below meth c A ls H locs cx hr hlk hA (lv_sub hl [1, 2, 0] rfl) hw
    · rw [if_neg c2] at h
      refine lv_iconst (v := 0) hx hb dX2_isSame_22 (by decide) ?_
      exact g_zret cx hr hlk rfl hw h dX2_isSame_23

theorem p_X5_find_b2_ex : ∃ f : Nat → Nat → Int32 → Mem → Option (Int32 × Mem), (∀ (a1 : Nat) (a2 : Int32) (μ : Mem), f  0 a1 a2 μ = none) ∧ (∀ (n : Nat) (a1 : Nat) (a2 : Int32) (μ : Mem), f  (n + 1) a1 a2 μ = (if (μ.1 39 2) ≤ a2 then some ((-1 : Int32), μ) else (if (24 : Int32) ≤ a2 then some ((-1 : Int32), μ) else gd (inb a2 24) (bd (p_X2_isSame (ptc a2.toNatClampNeg) a1 μ) (fun r4 μ3 => (if r4 = (0 : Int32) then bv (a2 + 1) (fun v6 => f n a1 v6 μ3) else some (a2, μ3))))))) := ⟨fun n => Nat.rec (fun (a1 : Nat) (a2 : Int32) (μ : Mem) => none) (fun _ ih => fun (a1 : Nat) (a2 : Int32) (μ : Mem) => (if (μ.1 39 2) ≤ a2 then some ((-1 : Int32), μ) else (if (24 : Int32) ≤ a2 then some ((-1 : Int32), μ) else gd (inb a2 24) (bd (p_X2_isSame (ptc a2.toNatClampNeg) a1 μ) (fun r4 μ3 => (if r4 = (0 : Int32) then bv (a2 + 1) (fun v6 => ih a1 v6 μ3) else some (a2, μ3))))))) n, fun  _ _ _ => rfl, fun  _ _ _ _ => rfl⟩
noncomputable def p_X5_find_b2 : Nat → Nat → Int32 → Mem → Option (Int32 × Mem) := Classical.choose p_X5_find_b2_ex
theorem p_X5_find_b2_z (a1 : Nat) (a2 : Int32) (μ : Mem) : p_X5_find_b2  0 a1 a2 μ = none := (Classical.choose_spec p_X5_find_b2_ex).1  a1 a2 μ
theorem p_X5_find_b2_s (n : Nat) (a1 : Nat) (a2 : Int32) (μ : Mem) : p_X5_find_b2  (n + 1) a1 a2 μ = (if (μ.1 39 2) ≤ a2 then some ((-1 : Int32), μ) else (if (24 : Int32) ≤ a2 then some ((-1 : Int32), μ) else gd (inb a2 24) (bd (p_X2_isSame (ptc a2.toNatClampNeg) a1 μ) (fun r4 μ3 => (if r4 = (0 : Int32) then bv (a2 + 1) (fun v6 => p_X5_find_b2  n a1 v6 μ3) else some (a2, μ3)))))) := (Classical.choose_spec p_X5_find_b2_ex).2  n a1 a2 μ
set_option maxHeartbeats 4000000 in
set_option maxRecDepth 100000 in
theorem t_X5_find_b2 (l : Launch) (G : Gt) (ad : Nat → Nat) (av : List Value) {r : Int32} {μz : Mem} : ∀ (n : Nat) (a1 : Nat) (q1 : sh 0 a1 = (0, 1)) (a2 : Int32) (μ : Mem), p_X5_find_b2  n a1 a2 μ = some (r, μz) → Bk l cX5_find 3 RX5 (some .int) ({ frames := 1, cells := 0, slots := 0, locals := 22 } : Room) G av (eI 0 G ad r μz) (wd 0 G ad μ) 2 [(0, .ref (ad 39)), (1, .ref (ad a1)), (2, .int a2)] [] := by
  intro n
  induction n with
  | zero => intro a1 q1 a2 μ h; rw [p_X5_find_b2_z] at h; cases h
  | succ n ih =>
    intro a1 q1 a2 μ h p e s m below meth c A ls H locs cx hr hlk hA hl hw
    have hx := cx.1
    have hb := cx.2.1
    rw [p_X5_find_b2_s] at h
    refine lv_iload_n hx hb dX5_find_2 rfl (lv_at hl 2 rfl) ?_
    refine lv_aload_n hx hb dX5_find_3 rfl (lv_at hl 0 rfl) ?_
    refine g_get cx hw inX5 (ci := 4) rfl 2 (by decide) rfl (v := .int (μ.1 39 2)) shx_39 rfl fl_X5_48 dX5_find_4 ?_
    refine lv_icmp_ge (tgt := 37) hx hb dX5_find_7 (by decide) (fun c1 => ?_) (fun c1 => ?_)
    · rw [if_pos c1] at h
      refine lv_iconst (v := (-1)) hx hb dX5_find_37 (by decide) ?_
      exact g_iret cx hr hlk hw h dX5_find_38
    · rw [if_neg c1] at h
      refine lv_iload_n hx hb dX5_find_10 rfl (lv_at hl 2 rfl) ?_
      refine lv_bipush (v := 24) hx hb dX5_find_11 (by decide) ?_
      refine lv_icmp_ge (tgt := 37) hx hb dX5_find_13 (by decide) (fun c2 => ?_) (fun c2 => ?_)
      · rw [if_pos c2] at h
        refine lv_iconst (v := (-1)) hx hb dX5_find_37 (by decide) ?_
        exact g_iret cx hr hlk hw h dX5_find_38
      · rw [if_neg c2] at h
        refine lv_aload_n hx hb dX5_find_16 rfl (lv_at hl 0 rfl) ?_
        refine g_get cx hw inX5 (ci := 4) rfl 13 (by decide) rfl (v := .ref (ad 46)) shx_39 rfl fl_X5_33 dX5_find_17 ?_
        refine lv_iload_n hx hb dX5_find_20 rfl (lv_at hl 2 rfl) ?_
        refine g_aald cx hw shx_46 h dX5_find_21 (fun h => ?_)
        refine lv_aload_n hx hb dX5_find_22 rfl (lv_at hl 1 rfl) ?_
        obtain ⟨r4, μ3, gr4, h⟩ := bd_some h
        refine g_callVI (As := [.ref (ad a1)]) (rest := []) cx hw hA (t_X2_isSame l G ad (ptc a2.toNatClampNeg) (ptc_ok _) a1 q1 μ gr4) (ptc_ok _) rfl ml_X5_72 im_X2_isSame se_X2_isSame in_X2 co_X2_isSame rfl hd_X2_isSame rfl ⟨(Nat.le_of_ble_eq_true rfl), (Nat.le_of_ble_eq_true rfl)⟩ hl.1 rfl (Nat.le_of_ble_eq_true rfl) dX5_find_23 ⟨rfl, rfl⟩ (fun H locs hw => ?_)
        refine lv_if_eq (tgt := 31) hx hb dX5_find_26 (by decide) (fun c5 => ?_) (fun c5 => ?_)
        · rw [if_pos c5] at h
          obtain ⟨v6, ev6, h⟩ := bv_ex h
          refine lv_iinc (v := v6) (lv' := [(2, .int v6), (0, .ref (ad 39)), (1, .ref (ad a1))]) hx hb dX5_find_31 hl (k := 2) rfl (by rw [ev6]; rfl) (by decide) rfl (fun ls hl => ?_)
          refine lv_goto (tgt := 2) hx hb dX5_find_34 (by decide) ?_
          exact ih a1 q1 v6 μ3 h p e s m below meth c A ls H locs cx hr hlk hA (lv_sub hl [1, 2, 0] rfl) hw
        · rw [if_neg c5] at h
          refine lv_iload_n hx hb dX5_find_29 rfl (lv_at hl 2 rfl) ?_
          exact g_iret cx hr hlk hw h dX5_find_30
theorem p_X5_find_ex : ∃ f : Nat → Mem → Option (Int32 × Mem), ∀ (a1 : Nat) (μ : Mem), f a1 μ = p_X5_find_b2  FUEL a1 (0 : Int32) μ := ⟨fun (a1 : Nat) (μ : Mem) => p_X5_find_b2  FUEL a1 (0 : Int32) μ, fun _ _ => rfl⟩
noncomputable def p_X5_find : Nat → Mem → Option (Int32 × Mem) := Classical.choose p_X5_find_ex
theorem p_X5_find_eq (a1 : Nat) (μ : Mem) : p_X5_find a1 μ = p_X5_find_b2  FUEL a1 (0 : Int32) μ := Classical.choose_spec p_X5_find_ex a1 μ
set_option maxHeartbeats 4000000 in
set_option maxRecDepth 100000 in
theorem t_X5_find (l : Launch) (G : Gt) (ad : Nat → Nat) (a1 : Nat) (q1 : sh 0 a1 = (0, 1)) (μ : Mem) {r : Int32} {μz : Mem} (h : p_X5_find a1 μ = some (r, μz)) : Mt l yX5_find cX5_find 3 (some .int) ({ frames := 1, cells := 0, slots := 0, locals := 22 } : Room) G [.ref (ad 39), .ref (ad a1)] (wd 0 G ad μ) (eI 0 G ad r μz) := by
  refine Bk.mt (by decide) rfl (Nat.le_of_ble_eq_true rfl) ?_
  intro p e s m below meth c A ls H locs cx hr hlk hA hl hw
  have hx := cx.1
  have hb := cx.2.1
  have hl : lv_has ls 3 [(0, .ref (ad 39)), (1, .ref (ad a1))] := hl
  rw [p_X5_find_eq] at h
  refine lv_iconst (v := 0) hx hb dX5_find_0 (by decide) ?_
  refine lv_istore_n (lv' := [(2, .int 0), (0, .ref (ad 39)), (1, .ref (ad a1))]) hx hb dX5_find_1 rfl hl (by decide) rfl (fun ls hl => ?_)
  exact t_X5_find_b2 l G ad _  FUEL a1 q1 (0 : Int32) μ h p e s m below meth c A ls H locs cx hr hlk hA (lv_sub hl [1, 2, 0] rfl) hw

theorem p_X5_variantsOf_b34_ex : ∃ f : (Int32 → Int32 → Int32 → Mem → Option (Int32 × Mem)) → Int32 → Int32 → Int32 → Mem → Option (Int32 × Mem), ∀ (K4 : Int32 → Int32 → Int32 → Mem → Option (Int32 × Mem)) (a1 : Int32) (a2 : Int32) (a3 : Int32) (μ : Mem), f K4 a1 a2 a3 μ = bv (a3 + 1) (fun v4 => K4 a1 a2 v4 μ) := ⟨fun (K4 : Int32 → Int32 → Int32 → Mem → Option (Int32 × Mem)) (a1 : Int32) (a2 : Int32) (a3 : Int32) (μ : Mem) => bv (a3 + 1) (fun v4 => K4 a1 a2 v4 μ), fun _ _ _ _ _ => rfl⟩
noncomputable def p_X5_variantsOf_b34 : (Int32 → Int32 → Int32 → Mem → Option (Int32 × Mem)) → Int32 → Int32 → Int32 → Mem → Option (Int32 × Mem) := Classical.choose p_X5_variantsOf_b34_ex
theorem p_X5_variantsOf_b34_eq (K4 : Int32 → Int32 → Int32 → Mem → Option (Int32 × Mem)) (a1 : Int32) (a2 : Int32) (a3 : Int32) (μ : Mem) : p_X5_variantsOf_b34 K4 a1 a2 a3 μ = bv (a3 + 1) (fun v4 => K4 a1 a2 v4 μ) := Classical.choose_spec p_X5_variantsOf_b34_ex K4 a1 a2 a3 μ
set_option maxHeartbeats 4000000 in
set_option maxRecDepth 100000 in
theorem t_X5_variantsOf_b34 (l : Launch) (G : Gt) (ad : Nat → Nat) (av : List Value) {r : Int32} {μz : Mem} (K4 : Int32 → Int32 → Int32 → Mem → Option (Int32 × Mem)) (hK4 : ∀ (z1 : Int32) (z2 : Int32) (z3 : Int32) (μ1 : Mem), K4 z1 z2 z3 μ1 = some (r, μz) → Bk l cX5_variantsOf 4 RX5 (some .int) ({ frames := 0, cells := 0, slots := 0, locals := 0 } : Room) G av (eI 0 G ad r μz) (wd 0 G ad μ1) 4 [(0, .ref (ad 39)), (1, .int z1), (2, .int z2), (3, .int z3)] []) (a1 : Int32) (a2 : Int32) (a3 : Int32) (μ : Mem) (h : p_X5_variantsOf_b34 K4 a1 a2 a3 μ = some (r, μz)) : Bk l cX5_variantsOf 4 RX5 (some .int) ({ frames := 0, cells := 0, slots := 0, locals := 0 } : Room) G av (eI 0 G ad r μz) (wd 0 G ad μ) 34 [(0, .ref (ad 39)), (1, .int a1), (2, .int a2), (3, .int a3)] [] := by
  intro p e s m below meth c A ls H locs cx hr hlk hA hl hw
  have hx := cx.1
  have hb := cx.2.1
  rw [p_X5_variantsOf_b34_eq] at h
  obtain ⟨v4, ev4, h⟩ := bv_ex h
  refine lv_iinc (v := v4) (lv' := [(3, .int v4), (0, .ref (ad 39)), (1, .int a1), (2, .int a2)]) hx hb dX5_variantsOf_34 hl (k := 3) rfl (by rw [ev4]; rfl) (by decide) rfl (fun ls hl => ?_)
  refine lv_goto (tgt := 4) hx hb dX5_variantsOf_37 (by decide) ?_
  exact hK4 a1 a2 v4 μ h p e s m below meth c A ls H locs cx hr hlk hA (lv_sub hl [1, 2, 3, 0] rfl) hw
theorem p_X5_variantsOf_b4_ex : ∃ f : Nat → Int32 → Int32 → Int32 → Mem → Option (Int32 × Mem), (∀ (a1 : Int32) (a2 : Int32) (a3 : Int32) (μ : Mem), f  0 a1 a2 a3 μ = none) ∧ (∀ (n : Nat) (a1 : Int32) (a2 : Int32) (a3 : Int32) (μ : Mem), f  (n + 1) a1 a2 a3 μ = (if (μ.1 39 2) ≤ a3 then some (a2, μ) else (if (24 : Int32) ≤ a3 then some (a2, μ) else gd (inb a3 24) ((if (μ.1 (ptc a3.toNatClampNeg) 3) = a1 then bv (a2 + 1) (fun v5 => p_X5_variantsOf_b34 (f n) a1 v5 a3 μ) else p_X5_variantsOf_b34 (f n) a1 a2 a3 μ))))) := ⟨fun n => Nat.rec (fun (a1 : Int32) (a2 : Int32) (a3 : Int32) (μ : Mem) => none) (fun _ ih => fun (a1 : Int32) (a2 : Int32) (a3 : Int32) (μ : Mem) => (if (μ.1 39 2) ≤ a3 then some (a2, μ) else (if (24 : Int32) ≤ a3 then some (a2, μ) else gd (inb a3 24) ((if (μ.1 (ptc a3.toNatClampNeg) 3) = a1 then bv (a2 + 1) (fun v5 => p_X5_variantsOf_b34 (ih) a1 v5 a3 μ) else p_X5_variantsOf_b34 (ih) a1 a2 a3 μ))))) n, fun  _ _ _ _ => rfl, fun  _ _ _ _ _ => rfl⟩
noncomputable def p_X5_variantsOf_b4 : Nat → Int32 → Int32 → Int32 → Mem → Option (Int32 × Mem) := Classical.choose p_X5_variantsOf_b4_ex
theorem p_X5_variantsOf_b4_z (a1 : Int32) (a2 : Int32) (a3 : Int32) (μ : Mem) : p_X5_variantsOf_b4  0 a1 a2 a3 μ = none := (Classical.choose_spec p_X5_variantsOf_b4_ex).1  a1 a2 a3 μ
theorem p_X5_variantsOf_b4_s (n : Nat) (a1 : Int32) (a2 : Int32) (a3 : Int32) (μ : Mem) : p_X5_variantsOf_b4  (n + 1) a1 a2 a3 μ = (if (μ.1 39 2) ≤ a3 then some (a2, μ) else (if (24 : Int32) ≤ a3 then some (a2, μ) else gd (inb a3 24) ((if (μ.1 (ptc a3.toNatClampNeg) 3) = a1 then bv (a2 + 1) (fun v5 => p_X5_variantsOf_b34 (p_X5_variantsOf_b4  n) a1 v5 a3 μ) else p_X5_variantsOf_b34 (p_X5_variantsOf_b4  n) a1 a2 a3 μ)))) := (Classical.choose_spec p_X5_variantsOf_b4_ex).2  n a1 a2 a3 μ
set_option maxHeartbeats 4000000 in
set_option maxRecDepth 100000 in
theorem t_X5_variantsOf_b4 (l : Launch) (G : Gt) (ad : Nat → Nat) (av : List Value) {r : Int32} {μz : Mem} : ∀ (n : Nat) (a1 : Int32) (a2 : Int32) (a3 : Int32) (μ : Mem), p_X5_variantsOf_b4  n a1 a2 a3 μ = some (r, μz) → Bk l cX5_variantsOf 4 RX5 (some .int) ({ frames := 0, cells := 0, slots := 0, locals := 0 } : Room) G av (eI 0 G ad r μz) (wd 0 G ad μ) 4 [(0, .ref (ad 39)), (1, .int a1), (2, .int a2), (3, .int a3)] [] := by
  intro n
  induction n with
  | zero => intro a1 a2 a3 μ h; rw [p_X5_variantsOf_b4_z] at h; cases h
  | succ n ih =>
    intro a1 a2 a3 μ h p e s m below meth c A ls H locs cx hr hlk hA hl hw
    have hx := cx.1
    have hb := cx.2.1
    rw [p_X5_variantsOf_b4_s] at h
    refine lv_iload_n hx hb dX5_variantsOf_4 rfl (lv_at hl 3 rfl) ?_
    refine lv_aload_n hx hb dX5_variantsOf_5 rfl (lv_at hl 0 rfl) ?_
    refine g_get cx hw inX5 (ci := 4) rfl 2 (by decide) rfl (v := .int (μ.1 39 2)) shx_39 rfl fl_X5_48 dX5_variantsOf_6 ?_
    refine lv_icmp_ge (tgt := 40) hx hb dX5_variantsOf_9 (by decide) (fun c1 => ?_) (fun c1 => ?_)
    · rw [if_pos c1] at h
      refine lv_iload_n hx hb dX5_variantsOf_40 rfl (lv_at hl 2 rfl) ?_
      exact g_iret cx hr hlk hw h dX5_variantsOf_41
    · rw [if_neg c1] at h
      refine lv_iload_n hx hb dX5_variantsOf_12 rfl (lv_at hl 3 rfl) ?_
      refine lv_bipush (v := 24) hx hb dX5_variantsOf_13 (by decide) ?_
      refine lv_icmp_ge (tgt := 40) hx hb dX5_variantsOf_15 (by decide) (fun c2 => ?_) (fun c2 => ?_)
      · rw [if_pos c2] at h
        refine lv_iload_n hx hb dX5_variantsOf_40 rfl (lv_at hl 2 rfl) ?_
        exact g_iret cx hr hlk hw h dX5_variantsOf_41
      · rw [if_neg c2] at h
        refine lv_aload_n hx hb dX5_variantsOf_18 rfl (lv_at hl 0 rfl) ?_
        refine g_get cx hw inX5 (ci := 4) rfl 13 (by decide) rfl (v := .ref (ad 46)) shx_39 rfl fl_X5_33 dX5_variantsOf_19 ?_
        refine lv_iload_n hx hb dX5_variantsOf_22 rfl (lv_at hl 3 rfl) ?_
        refine g_aald cx hw shx_46 h dX5_variantsOf_23 (fun h => ?_)
        refine g_get cx hw inX2 (ci := 1) rfl 3 (by decide) rfl (v := .int (μ.1 (ptc a3.toNatClampNeg) 3)) (ptc_ok _) rfl fl_X5_76 dX5_variantsOf_24 ?_
        refine lv_iload_n hx hb dX5_variantsOf_27 rfl (lv_at hl 1 rfl) ?_
        refine lv_icmp_ne (tgt := 34) hx hb dX5_variantsOf_28 (by decide) (fun c3 => ?_) (fun c3 => ?_)
        · rw [if_neg c3] at h
          exact t_X5_variantsOf_b34 l G ad av _ ih a1 a2 a3 μ h p e s m below meth c A ls H locs cx hr hlk hA (lv_sub hl [0, 1, 2, 3] rfl) hw
        · rw [if_pos c3] at h
          obtain ⟨v5, ev5, h⟩ := bv_ex h
          refine lv_iinc (v := v5) (lv' := [(2, .int v5), (0, .ref (ad 39)), (1, .int a1), (3, .int a3)]) hx hb dX5_variantsOf_31 hl (k := 2) rfl (by rw [ev5]; rfl) (by decide) rfl (fun ls hl => ?_)
          exact t_X5_variantsOf_b34 l G ad av _ ih a1 v5 a3 μ h p e s m below meth c A ls H locs cx hr hlk hA (lv_sub hl [1, 2, 0, 3] rfl) hw
theorem p_X5_variantsOf_ex : ∃ f : Int32 → Mem → Option (Int32 × Mem), ∀ (a1 : Int32) (μ : Mem), f a1 μ = p_X5_variantsOf_b4  FUEL a1 (0 : Int32) (0 : Int32) μ := ⟨fun (a1 : Int32) (μ : Mem) => p_X5_variantsOf_b4  FUEL a1 (0 : Int32) (0 : Int32) μ, fun _ _ => rfl⟩
noncomputable def p_X5_variantsOf : Int32 → Mem → Option (Int32 × Mem) := Classical.choose p_X5_variantsOf_ex
theorem p_X5_variantsOf_eq (a1 : Int32) (μ : Mem) : p_X5_variantsOf a1 μ = p_X5_variantsOf_b4  FUEL a1 (0 : Int32) (0 : Int32) μ := Classical.choose_spec p_X5_variantsOf_ex a1 μ
set_option maxHeartbeats 4000000 in
set_option maxRecDepth 100000 in
theorem t_X5_variantsOf (l : Launch) (G : Gt) (ad : Nat → Nat) (a1 : Int32) (μ : Mem) {r : Int32} {μz : Mem} (h : p_X5_variantsOf a1 μ = some (r, μz)) : Mt l yX5_variantsOf cX5_variantsOf 4 (some .int) ({ frames := 0, cells := 0, slots := 0, locals := 0 } : Room) G [.ref (ad 39), .int a1] (wd 0 G ad μ) (eI 0 G ad r μz) := by
  refine Bk.mt (by decide) rfl (Nat.le_of_ble_eq_true rfl) ?_
  intro p e s m below meth c A ls H locs cx hr hlk hA hl hw
  have hx := cx.1
  have hb := cx.2.1
  have hl : lv_has ls 4 [(0, .ref (ad 39)), (1, .int a1)] := hl
  rw [p_X5_variantsOf_eq] at h
  refine lv_iconst (v := 0) hx hb dX5_variantsOf_0 (by decide) ?_
  refine lv_istore_n (lv' := [(2, .int 0), (0, .ref (ad 39)), (1, .int a1)]) hx hb dX5_variantsOf_1 rfl hl (by decide) rfl (fun ls hl => ?_)
  refine lv_iconst (v := 0) hx hb dX5_variantsOf_2 (by decide) ?_
  refine lv_istore_n (lv' := [(3, .int 0), (2, .int 0), (0, .ref (ad 39)), (1, .int a1)]) hx hb dX5_variantsOf_3 rfl hl (by decide) rfl (fun ls hl => ?_)
  exact t_X5_variantsOf_b4 l G ad _  FUEL a1 (0 : Int32) (0 : Int32) μ h p e s m below meth c A ls H locs cx hr hlk hA (lv_sub hl [2, 3, 1, 0] rfl) hw

theorem p_X10_isTooMuch_ex : ∃ f : Int32 → Mem → Option (Int32 × Mem), ∀ (a1 : Int32) (μ : Mem), f a1 μ = bd (p_X5_variantsOf a1 μ) (fun r2 μ1 => (if (μ1.1 137 1) ≤ r2 then some ((1 : Int32), μ1) else (if (μ1.1 137 2) ≤ (μ1.1 39 1) then some ((1 : Int32), μ1) else bd (p_X2_stars (sel 1 (μ1.2.2 137 14)) μ1) (fun r6 μ5 => (if r6 ≤ (8 : Int32) then some ((0 : Int32), μ5) else some ((1 : Int32), μ5)))))) := ⟨fun (a1 : Int32) (μ : Mem) => bd (p_X5_variantsOf a1 μ) (fun r2 μ1 => (if (μ1.1 137 1) ≤ r2 then some ((1 : Int32), μ1) else (if (μ1.1 137 2) ≤ (μ1.1 39 1) then some ((1 : Int32), μ1) else bd (p_X2_stars (sel 1 (μ1.2.2 137 14)) μ1) (fun r6 μ5 => (if r6 ≤ (8 : Int32) then some ((0 : Int32), μ5) else some ((1 : Int32), μ5)))))), fun _ _ => rfl⟩
noncomputable def p_X10_isTooMuch : Int32 → Mem → Option (Int32 × Mem) := Classical.choose p_X10_isTooMuch_ex
theorem p_X10_isTooMuch_eq (a1 : Int32) (μ : Mem) : p_X10_isTooMuch a1 μ = bd (p_X5_variantsOf a1 μ) (fun r2 μ1 => (if (μ1.1 137 1) ≤ r2 then some ((1 : Int32), μ1) else (if (μ1.1 137 2) ≤ (μ1.1 39 1) then some ((1 : Int32), μ1) else bd (p_X2_stars (sel 1 (μ1.2.2 137 14)) μ1) (fun r6 μ5 => (if r6 ≤ (8 : Int32) then some ((0 : Int32), μ5) else some ((1 : Int32), μ5)))))) := Classical.choose_spec p_X10_isTooMuch_ex a1 μ
set_option maxHeartbeats 4000000 in
set_option maxRecDepth 100000 in
theorem t_X10_isTooMuch (l : Launch) (G : Gt) (ad : Nat → Nat) (a1 : Int32) (μ : Mem) {r : Int32} {μz : Mem} (h : p_X10_isTooMuch a1 μ = some (r, μz)) : Mt l yX10_isTooMuch cX10_isTooMuch 2 (some .boolean) ({ frames := 2, cells := 0, slots := 0, locals := 43 } : Room) G [.ref (ad 137), .int a1] (wd 0 G ad μ) (eI 0 G ad r μz) := by
  refine Bk.mt (by decide) rfl (Nat.le_of_ble_eq_true rfl) ?_
  intro p e s m below meth c A ls H locs cx hr hlk hA hl hw
  have hx := cx.1
  have hb := cx.2.1
  have hl : lv_has ls 2 [(0, .ref (ad 137)), (1, .int a1)] := hl
  rw [p_X10_isTooMuch_eq] at h
  refine lv_aload_n hx hb dX10_isTooMuch_0 rfl (lv_at hl 0 rfl) ?_
  refine g_get cx hw inX10 (ci := 9) rfl 4 (by decide) rfl (v := .ref (ad 39)) shx_137 rfl fl_X10_25 dX10_isTooMuch_1 ?_
  refine lv_iload_n hx hb dX10_isTooMuch_4 rfl (lv_at hl 1 rfl) ?_
  obtain ⟨r2, μ1, gr2, h⟩ := bd_some h
  refine g_callVI (As := [.int a1]) (rest := []) cx hw hA (t_X5_variantsOf l G ad a1 μ gr2) shx_39 rfl ml_X10_345 im_X5_variantsOf se_X5_variantsOf in_X5 co_X5_variantsOf rfl hd_X5_variantsOf rfl ⟨(Nat.le_of_ble_eq_true rfl), (Nat.le_of_ble_eq_true rfl)⟩ hl.1 rfl (Nat.le_of_ble_eq_true rfl) dX10_isTooMuch_5 ⟨rfl, rfl⟩ (fun H locs hw => ?_)
  refine lv_aload_n hx hb dX10_isTooMuch_8 rfl (lv_at hl 0 rfl) ?_
  refine g_get cx hw inX10 (ci := 9) rfl 1 (by decide) rfl (v := .int (μ1.1 137 1)) shx_137 rfl fl_X10_15 dX10_isTooMuch_9 ?_
  refine lv_icmp_ge (tgt := 41) hx hb dX10_isTooMuch_12 (by decide) (fun c3 => ?_) (fun c3 => ?_)
  · rw [if_pos c3] at h
    refine lv_iconst (v := 1) hx hb dX10_isTooMuch_41 (by decide) ?_
    refine lv_goto (tgt := 46) hx hb dX10_isTooMuch_42 (by decide) ?_
    exact g_zret cx hr hlk rfl hw h dX10_isTooMuch_46
  · rw [if_neg c3] at h
    refine lv_aload_n hx hb dX10_isTooMuch_15 rfl (lv_at hl 0 rfl) ?_
    refine g_get cx hw inX10 (ci := 9) rfl 4 (by decide) rfl (v := .ref (ad 39)) shx_137 rfl fl_X10_25 dX10_isTooMuch_16 ?_
    refine g_get cx hw inX5 (ci := 4) rfl 1 (by decide) rfl (v := .int (μ1.1 39 1)) shx_39 rfl fl_X10_286 dX10_isTooMuch_19 ?_
    refine lv_aload_n hx hb dX10_isTooMuch_22 rfl (lv_at hl 0 rfl) ?_
    refine g_get cx hw inX10 (ci := 9) rfl 2 (by decide) rfl (v := .int (μ1.1 137 2)) shx_137 rfl fl_X10_18 dX10_isTooMuch_23 ?_
    refine lv_icmp_ge (tgt := 41) hx hb dX10_isTooMuch_26 (by decide) (fun c4 => ?_) (fun c4 => ?_)
    · rw [if_pos c4] at h
      refine lv_iconst (v := 1) hx hb dX10_isTooMuch_41 (by decide) ?_
      refine lv_goto (tgt := 46) hx hb dX10_isTooMuch_42 (by decide) ?_
      exact g_zret cx hr hlk rfl hw h dX10_isTooMuch_46
    · rw [if_neg c4] at h
      refine lv_aload_n hx hb dX10_isTooMuch_29 rfl (lv_at hl 0 rfl) ?_
      refine g_get cx hw inX10 (ci := 9) rfl 14 (by decide) rfl (v := .ref (ad (sel 1 (μ1.2.2 137 14)))) shx_137 rfl fl_X10_46 dX10_isTooMuch_30 ?_
      obtain ⟨r6, μ5, gr6, h⟩ := bd_some h
      refine g_callVI (As := []) (rest := []) cx hw hA (t_X2_stars l G ad (sel 1 (μ1.2.2 137 14)) (sel_1 _) μ1 gr6) (sel_1 _) rfl ml_X10_348 im_X2_stars se_X2_stars in_X2 co_X2_stars rfl hd_X2_stars rfl ⟨(Nat.le_of_ble_eq_true rfl), (Nat.le_of_ble_eq_true rfl)⟩ hl.1 rfl (Nat.le_of_ble_eq_true rfl) dX10_isTooMuch_33 ⟨rfl, rfl⟩ (fun H locs hw => ?_)
      refine lv_bipush (v := 8) hx hb dX10_isTooMuch_36 (by decide) ?_
      refine lv_icmp_le (tgt := 45) hx hb dX10_isTooMuch_38 (by decide) (fun c7 => ?_) (fun c7 => ?_)
      · rw [if_pos c7] at h
        refine lv_iconst (v := 0) hx hb dX10_isTooMuch_45 (by decide) ?_
        exact g_zret cx hr hlk rfl hw h dX10_isTooMuch_46
      · rw [if_neg c7] at h
        refine lv_iconst (v := 1) hx hb dX10_isTooMuch_41 (by decide) ?_
        refine lv_goto (tgt := 46) hx hb dX10_isTooMuch_42 (by decide) ?_
        exact g_zret cx hr hlk rfl hw h dX10_isTooMuch_46

theorem p_X2_letAllGo_b10_ex : ∃ f : Nat → Nat → Nat → Int32 → Mem → Option Mem, (∀ (a0 : Nat) (a1 : Nat) (a2 : Int32) (μ : Mem), f  0 a0 a1 a2 μ = none) ∧ (∀ (n : Nat) (a0 : Nat) (a1 : Nat) (a2 : Int32) (μ : Mem), f  (n + 1) a0 a1 a2 μ = (if (μ.1 a0 2) ≤ a2 then some μ else gd (inb a2 ((sh 0 (a0 + 2)).2)) (bw (p_X2_add a1 (17179869184 : Int64) (μ.2.1 (a0 + 2) a2.toNatClampNeg) μ) (fun μ4 => bd (p_X2_behind a0 a2 μ4) (fun r7 μ6 => bv (imax r7 (a2 + (1 : Int32))) (fun v8 => f n a0 a1 v8 μ6)))))) := ⟨fun n => Nat.rec (fun (a0 : Nat) (a1 : Nat) (a2 : Int32) (μ : Mem) => none) (fun _ ih => fun (a0 : Nat) (a1 : Nat) (a2 : Int32) (μ : Mem) => (if (μ.1 a0 2) ≤ a2 then some μ else gd (inb a2 ((sh 0 (a0 + 2)).2)) (bw (p_X2_add a1 (17179869184 : Int64) (μ.2.1 (a0 + 2) a2.toNatClampNeg) μ) (fun μ4 => bd (p_X2_behind a0 a2 μ4) (fun r7 μ6 => bv (imax r7 (a2 + (1 : Int32))) (fun v8 => ih a0 a1 v8 μ6)))))) n, fun  _ _ _ _ => rfl, fun  _ _ _ _ _ => rfl⟩
noncomputable def p_X2_letAllGo_b10 : Nat → Nat → Nat → Int32 → Mem → Option Mem := Classical.choose p_X2_letAllGo_b10_ex
theorem p_X2_letAllGo_b10_z (a0 : Nat) (a1 : Nat) (a2 : Int32) (μ : Mem) : p_X2_letAllGo_b10  0 a0 a1 a2 μ = none := (Classical.choose_spec p_X2_letAllGo_b10_ex).1  a0 a1 a2 μ
theorem p_X2_letAllGo_b10_s (n : Nat) (a0 : Nat) (a1 : Nat) (a2 : Int32) (μ : Mem) : p_X2_letAllGo_b10  (n + 1) a0 a1 a2 μ = (if (μ.1 a0 2) ≤ a2 then some μ else gd (inb a2 ((sh 0 (a0 + 2)).2)) (bw (p_X2_add a1 (17179869184 : Int64) (μ.2.1 (a0 + 2) a2.toNatClampNeg) μ) (fun μ4 => bd (p_X2_behind a0 a2 μ4) (fun r7 μ6 => bv (imax r7 (a2 + (1 : Int32))) (fun v8 => p_X2_letAllGo_b10  n a0 a1 v8 μ6))))) := (Classical.choose_spec p_X2_letAllGo_b10_ex).2  n a0 a1 a2 μ
set_option maxHeartbeats 4000000 in
set_option maxRecDepth 100000 in
theorem t_X2_letAllGo_b10 (l : Launch) (G : Gt) (ad : Nat → Nat) (av : List Value) {μz : Mem} : ∀ (n : Nat) (a0 : Nat) (q0 : sh 0 a0 = (0, 1)) (a1 : Nat) (q1 : sh 0 a1 = (0, 1)) (a2 : Int32) (μ : Mem), p_X2_letAllGo_b10  n a0 a1 a2 μ = some μz → Bk l cX2_letAllGo 3 RX2 none ({ frames := 2, cells := 0, slots := 0, locals := 47 } : Room) G av (eV 0 G ad μz) (wd 0 G ad μ) 10 [(0, .ref (ad a0)), (1, .ref (ad a1)), (2, .int a2)] [] := by
  intro n
  induction n with
  | zero => intro a0 q0 a1 q1 a2 μ h; rw [p_X2_letAllGo_b10_z] at h; cases h
  | succ n ih =>
    intro a0 q0 a1 q1 a2 μ h p e s m below meth c A ls H locs cx hr hlk hA hl hw
    have hx := cx.1
    have hb := cx.2.1
    rw [p_X2_letAllGo_b10_s] at h
    refine lv_iload_n hx hb dX2_letAllGo_10 rfl (lv_at hl 2 rfl) ?_
    refine lv_aload_n hx hb dX2_letAllGo_11 rfl (lv_at hl 0 rfl) ?_
    refine g_get cx hw inX2 (ci := 1) rfl 2 (by decide) rfl (v := .int (μ.1 a0 2)) q0 rfl fl_X2_18 dX2_letAllGo_12 ?_
    refine lv_icmp_ge (tgt := 46) hx hb dX2_letAllGo_15 (by decide) (fun c3 => ?_) (fun c3 => ?_)
    · rw [if_pos c3] at h
      exact g_vret cx hr hlk hw h dX2_letAllGo_46
    · rw [if_neg c3] at h
      refine lv_aload_n hx hb dX2_letAllGo_18 rfl (lv_at hl 1 rfl) ?_
      refine lv_ldc2 hx hb cx.2.2.2.1 (cx.2.2.2.2.1 _ cs_X2_61) dX2_letAllGo_19 ?_
      refine lv_aload_n hx hb dX2_letAllGo_22 rfl (lv_at hl 0 rfl) ?_
      refine g_get cx hw inX2 (ci := 1) rfl 1 (by decide) rfl (v := .ref (ad (a0 + 2))) q0 rfl fl_X2_15 dX2_letAllGo_23 ?_
      refine lv_iload_n hx hb dX2_letAllGo_26 rfl (lv_at hl 2 rfl) ?_
      refine g_lald cx hw (rl_X2_1 q0) h dX2_letAllGo_27 (fun h => ?_)
      obtain ⟨μ4, gμ4, h⟩ := bw_some h
      refine g_callVV (As := [.long 17179869184, .long (μ.2.1 (a0 + 2) a2.toNatClampNeg)]) (rest := []) cx hw hA (t_X2_add l G ad a1 q1 (17179869184 : Int64) (μ.2.1 (a0 + 2) a2.toNatClampNeg) μ gμ4) q1 rfl ml_X2_33 im_X2_add se_X2_add in_X2 co_X2_add rfl hd_X2_add rfl ⟨(Nat.le_of_ble_eq_true rfl), (Nat.le_of_ble_eq_true rfl)⟩ hl.1 rfl (Nat.le_of_ble_eq_true rfl) dX2_letAllGo_28 ⟨rfl, rfl⟩ (fun H locs hw => ?_)
      refine lv_aload_n hx hb dX2_letAllGo_31 rfl (lv_at hl 0 rfl) ?_
      refine lv_iload_n hx hb dX2_letAllGo_32 rfl (lv_at hl 2 rfl) ?_
      obtain ⟨r7, μ6, gr7, h⟩ := bd_some h
      refine g_callVI (As := [.int a2]) (rest := []) cx hw hA (t_X2_behind l G ad a0 q0 a2 μ4 gr7) q0 rfl ml_X2_51 im_X2_behind se_X2_behind in_X2 co_X2_behind rfl hd_X2_behind rfl ⟨(Nat.le_of_ble_eq_true rfl), (Nat.le_of_ble_eq_true rfl)⟩ hl.1 rfl (Nat.le_of_ble_eq_true rfl) dX2_letAllGo_33 ⟨rfl, rfl⟩ (fun H locs hw => ?_)
      refine lv_iload_n hx hb dX2_letAllGo_36 rfl (lv_at hl 2 rfl) ?_
      refine lv_iconst (v := 1) hx hb dX2_letAllGo_37 (by decide) ?_
      refine lv_iadd hx hb dX2_letAllGo_38 ?_
      refine r_mmax (v := (imax r7 (a2 + (1 : Int32)))) cx ml_X2_45 hl.1 (Nat.le_of_ble_eq_true rfl) (Nat.le_of_ble_eq_true rfl) (Nat.le_of_ble_eq_true rfl) (Nat.le_of_ble_eq_true rfl) rfl dX2_letAllGo_39 ?_
      obtain ⟨v8, ev8, h⟩ := bv_ex h
      refine lv_topi (fun y9 z9 => ?_)
      obtain rfl : v8 = y9 := ev8.trans z9.symm
      refine lv_istore_n (lv' := [(2, .int v8), (0, .ref (ad a0)), (1, .ref (ad a1))]) hx hb dX2_letAllGo_42 rfl hl (by decide) rfl (fun ls hl => ?_)
      refine lv_goto (tgt := 10) hx hb dX2_letAllGo_43 (by decide) ?_
      exact ih a0 q0 a1 q1 v8 μ6 h p e s m below meth c A ls H locs cx hr hlk hA (lv_sub hl [1, 2, 0] rfl) hw
theorem p_X2_letAllGo_ex : ∃ f : Nat → Nat → Mem → Option Mem, ∀ (a0 : Nat) (a1 : Nat) (μ : Mem), f a0 a1 μ = bw (p_X2_begin a1 (μ.1 a0 3) μ) (fun μ1 => p_X2_letAllGo_b10  FUEL a0 a1 (0 : Int32) μ1) := ⟨fun (a0 : Nat) (a1 : Nat) (μ : Mem) => bw (p_X2_begin a1 (μ.1 a0 3) μ) (fun μ1 => p_X2_letAllGo_b10  FUEL a0 a1 (0 : Int32) μ1), fun _ _ _ => rfl⟩
noncomputable def p_X2_letAllGo : Nat → Nat → Mem → Option Mem := Classical.choose p_X2_letAllGo_ex
theorem p_X2_letAllGo_eq (a0 : Nat) (a1 : Nat) (μ : Mem) : p_X2_letAllGo a0 a1 μ = bw (p_X2_begin a1 (μ.1 a0 3) μ) (fun μ1 => p_X2_letAllGo_b10  FUEL a0 a1 (0 : Int32) μ1) := Classical.choose_spec p_X2_letAllGo_ex a0 a1 μ
set_option maxHeartbeats 4000000 in
set_option maxRecDepth 100000 in
theorem t_X2_letAllGo (l : Launch) (G : Gt) (ad : Nat → Nat) (a0 : Nat) (q0 : sh 0 a0 = (0, 1)) (a1 : Nat) (q1 : sh 0 a1 = (0, 1)) (μ : Mem) {μz : Mem} (h : p_X2_letAllGo a0 a1 μ = some μz) : Mt l yX2_letAllGo cX2_letAllGo 3 none ({ frames := 2, cells := 0, slots := 0, locals := 47 } : Room) G [.ref (ad a0), .ref (ad a1)] (wd 0 G ad μ) (eV 0 G ad μz) := by
  refine Bk.mt (by decide) rfl (Nat.le_of_ble_eq_true rfl) ?_
  intro p e s m below meth c A ls H locs cx hr hlk hA hl hw
  have hx := cx.1
  have hb := cx.2.1
  have hl : lv_has ls 3 [(0, .ref (ad a0)), (1, .ref (ad a1))] := hl
  rw [p_X2_letAllGo_eq] at h
  refine lv_aload_n hx hb dX2_letAllGo_0 rfl (lv_at hl 1 rfl) ?_
  refine lv_aload_n hx hb dX2_letAllGo_1 rfl (lv_at hl 0 rfl) ?_
  refine g_get cx hw inX2 (ci := 1) rfl 3 (by decide) rfl (v := .int (μ.1 a0 3)) q0 rfl fl_X2_22 dX2_letAllGo_2 ?_
  obtain ⟨μ1, gμ1, h⟩ := bw_some h
  refine g_callVV (As := [.int (μ.1 a0 3)]) (rest := []) cx hw hA (t_X2_begin l G ad a1 q1 (μ.1 a0 3) μ gμ1) q1 rfl ml_X2_25 im_X2_begin se_X2_begin in_X2 co_X2_begin rfl hd_X2_begin rfl ⟨(Nat.le_of_ble_eq_true rfl), (Nat.le_of_ble_eq_true rfl)⟩ hl.1 rfl (Nat.le_of_ble_eq_true rfl) dX2_letAllGo_5 ⟨rfl, rfl⟩ (fun H locs hw => ?_)
  refine lv_iconst (v := 0) hx hb dX2_letAllGo_8 (by decide) ?_
  refine lv_istore_n (lv' := [(2, .int 0), (0, .ref (ad a0)), (1, .ref (ad a1))]) hx hb dX2_letAllGo_9 rfl hl (by decide) rfl (fun ls hl => ?_)
  exact t_X2_letAllGo_b10 l G ad _  FUEL a0 q0 a1 q1 (0 : Int32) μ1 h p e s m below meth c A ls H locs cx hr hlk hA (lv_sub hl [1, 2, 0] rfl) hw
