theorem p_X12_callsOf_b39_ex : ∃ f : (Int32 → Int32 → Int32 → Mem → Option (Int32 × Mem)) → Int32 → Int32 → Int32 → Int32 → Mem → Option (Int32 × Mem), ∀ (K4 : Int32 → Int32 → Int32 → Mem → Option (Int32 × Mem)) (a1 : Int32) (a3 : Int32) (k0 : Int32) (k1 : Int32) (μ : Mem), f K4 a1 a3 k0 k1 μ = bv (k1 + k0) (fun v3 => bv (a3 + 1) (fun v4 => K4 a1 v3 v4 μ)) := ⟨fun (K4 : Int32 → Int32 → Int32 → Mem → Option (Int32 × Mem)) (a1 : Int32) (a3 : Int32) (k0 : Int32) (k1 : Int32) (μ : Mem) => bv (k1 + k0) (fun v3 => bv (a3 + 1) (fun v4 => K4 a1 v3 v4 μ)), fun _ _ _ _ _ _ => rfl⟩
noncomputable def p_X12_callsOf_b39 : (Int32 → Int32 → Int32 → Mem → Option (Int32 × Mem)) → Int32 → Int32 → Int32 → Int32 → Mem → Option (Int32 × Mem) := Classical.choose p_X12_callsOf_b39_ex
theorem p_X12_callsOf_b39_eq (K4 : Int32 → Int32 → Int32 → Mem → Option (Int32 × Mem)) (a1 : Int32) (a3 : Int32) (k0 : Int32) (k1 : Int32) (μ : Mem) : p_X12_callsOf_b39 K4 a1 a3 k0 k1 μ = bv (k1 + k0) (fun v3 => bv (a3 + 1) (fun v4 => K4 a1 v3 v4 μ)) := Classical.choose_spec p_X12_callsOf_b39_ex K4 a1 a3 k0 k1 μ
set_option maxHeartbeats 4000000 in
set_option maxRecDepth 100000 in
theorem t_X12_callsOf_b39 (l : Launch) (G : Gt) (ad : Nat → Nat) (av : List Value) {r : Int32} {μz : Mem} (K4 : Int32 → Int32 → Int32 → Mem → Option (Int32 × Mem)) (hK4 : ∀ (z1 : Int32) (z2 : Int32) (z3 : Int32) (μ1 : Mem), K4 z1 z2 z3 μ1 = some (r, μz) → Bk l cX12_callsOf 4 RX12 (some .int) ({ frames := 0, cells := 0, slots := 0, locals := 0 } : Room) G av (eI 1 G ad r μz) (wd 1 G ad μ1) 4 [(0, .ref (ad 0)), (1, .int z1), (2, .int z2), (3, .int z3)] []) (a1 : Int32) (a3 : Int32) (k0 : Int32) (k1 : Int32) (μ : Mem) (h : p_X12_callsOf_b39 K4 a1 a3 k0 k1 μ = some (r, μz)) : Bk l cX12_callsOf 4 RX12 (some .int) ({ frames := 0, cells := 0, slots := 0, locals := 0 } : Room) G av (eI 1 G ad r μz) (wd 1 G ad μ) 39 [(0, .ref (ad 0)), (1, .int a1), (3, .int a3)] [.int k0, .int k1] := by
  intro p e s m below meth c A ls H locs cx hr hlk hA hl hw
  have hx := cx.1
  have hb := cx.2.1
  rw [p_X12_callsOf_b39_eq] at h
  refine lv_iadd hx hb dX12_callsOf_39 ?_
  obtain ⟨v3, ev3, h⟩ := bv_ex h
  refine lv_topi (fun y9 z9 => ?_)
  obtain rfl : v3 = y9 := ev3.trans z9.symm
  refine lv_istore_n (lv' := [(2, .int v3), (0, .ref (ad 0)), (1, .int a1), (3, .int a3)]) hx hb dX12_callsOf_40 rfl hl (by decide) rfl (fun ls hl => ?_)
  obtain ⟨v4, ev4, h⟩ := bv_ex h
  refine lv_iinc (v := v4) (lv' := [(3, .int v4), (2, .int v3), (0, .ref (ad 0)), (1, .int a1)]) hx hb dX12_callsOf_41 hl (k := 3) rfl (by rw [ev4]; rfl) (by decide) rfl (fun ls hl => ?_)
  refine lv_goto (tgt := 4) hx hb dX12_callsOf_44 (by decide) ?_
  exact hK4 a1 v3 v4 μ h p e s m below meth c A ls H locs cx hr hlk hA (lv_sub hl [2, 3, 1, 0] rfl) hw
theorem p_X12_callsOf_b38_ex : ∃ f : (Int32 → Int32 → Int32 → Mem → Option (Int32 × Mem)) → Int32 → Int32 → Int32 → Mem → Option (Int32 × Mem), ∀ (K4 : Int32 → Int32 → Int32 → Mem → Option (Int32 × Mem)) (a1 : Int32) (a3 : Int32) (k0 : Int32) (μ : Mem), f K4 a1 a3 k0 μ = p_X12_callsOf_b39 K4 a1 a3 (0 : Int32) k0 μ := ⟨fun (K4 : Int32 → Int32 → Int32 → Mem → Option (Int32 × Mem)) (a1 : Int32) (a3 : Int32) (k0 : Int32) (μ : Mem) => p_X12_callsOf_b39 K4 a1 a3 (0 : Int32) k0 μ, fun _ _ _ _ _ => rfl⟩
noncomputable def p_X12_callsOf_b38 : (Int32 → Int32 → Int32 → Mem → Option (Int32 × Mem)) → Int32 → Int32 → Int32 → Mem → Option (Int32 × Mem) := Classical.choose p_X12_callsOf_b38_ex
theorem p_X12_callsOf_b38_eq (K4 : Int32 → Int32 → Int32 → Mem → Option (Int32 × Mem)) (a1 : Int32) (a3 : Int32) (k0 : Int32) (μ : Mem) : p_X12_callsOf_b38 K4 a1 a3 k0 μ = p_X12_callsOf_b39 K4 a1 a3 (0 : Int32) k0 μ := Classical.choose_spec p_X12_callsOf_b38_ex K4 a1 a3 k0 μ
set_option maxHeartbeats 4000000 in
set_option maxRecDepth 100000 in
theorem t_X12_callsOf_b38 (l : Launch) (G : Gt) (ad : Nat → Nat) (av : List Value) {r : Int32} {μz : Mem} (K4 : Int32 → Int32 → Int32 → Mem → Option (Int32 × Mem)) (hK4 : ∀ (z1 : Int32) (z2 : Int32) (z3 : Int32) (μ1 : Mem), K4 z1 z2 z3 μ1 = some (r, μz) → Bk l cX12_callsOf 4 RX12 (some .int) ({ frames := 0, cells := 0, slots := 0, locals := 0 } : Room) G av (eI 1 G ad r μz) (wd 1 G ad μ1) 4 [(0, .ref (ad 0)), (1, .int z1), (2, .int z2), (3, .int z3)] []) (a1 : Int32) (a3 : Int32) (k0 : Int32) (μ : Mem) (h : p_X12_callsOf_b38 K4 a1 a3 k0 μ = some (r, μz)) : Bk l cX12_callsOf 4 RX12 (some .int) ({ frames := 0, cells := 0, slots := 0, locals := 0 } : Room) G av (eI 1 G ad r μz) (wd 1 G ad μ) 38 [(0, .ref (ad 0)), (1, .int a1), (3, .int a3)] [.int k0] := by
  intro p e s m below meth c A ls H locs cx hr hlk hA hl hw
  have hx := cx.1
  have hb := cx.2.1
  rw [p_X12_callsOf_b38_eq] at h
  refine lv_iconst (v := 0) hx hb dX12_callsOf_38 (by decide) ?_
  exact t_X12_callsOf_b39 l G ad av K4 hK4 a1 a3 (0 : Int32) k0 μ h p e s m below meth c A ls H locs cx hr hlk hA (lv_sub hl [0, 1, 2] rfl) hw
theorem p_X12_callsOf_b4_ex : ∃ f : Nat → Int32 → Int32 → Int32 → Mem → Option (Int32 × Mem), (∀ (a1 : Int32) (a2 : Int32) (a3 : Int32) (μ : Mem), f  0 a1 a2 a3 μ = none) ∧ (∀ (n : Nat) (a1 : Int32) (a2 : Int32) (a3 : Int32) (μ : Mem), f  (n + 1) a1 a2 a3 μ = (if (μ.1 0 87) ≤ a3 then some (a2, μ) else gd (inb a3 960) ((if (μ.1 46 a3.toNatClampNeg) = (11 : Int32) then gd (inb a3 960) ((if (μ.1 48 a3.toNatClampNeg) = a1 then p_X12_callsOf_b39 (f n) a1 a3 (1 : Int32) a2 μ else p_X12_callsOf_b38 (f n) a1 a3 a2 μ)) else p_X12_callsOf_b38 (f n) a1 a3 a2 μ)))) := ⟨fun n => Nat.rec (fun (a1 : Int32) (a2 : Int32) (a3 : Int32) (μ : Mem) => none) (fun _ ih => fun (a1 : Int32) (a2 : Int32) (a3 : Int32) (μ : Mem) => (if (μ.1 0 87) ≤ a3 then some (a2, μ) else gd (inb a3 960) ((if (μ.1 46 a3.toNatClampNeg) = (11 : Int32) then gd (inb a3 960) ((if (μ.1 48 a3.toNatClampNeg) = a1 then p_X12_callsOf_b39 (ih) a1 a3 (1 : Int32) a2 μ else p_X12_callsOf_b38 (ih) a1 a3 a2 μ)) else p_X12_callsOf_b38 (ih) a1 a3 a2 μ)))) n, fun  _ _ _ _ => rfl, fun  _ _ _ _ _ => rfl⟩
noncomputable def p_X12_callsOf_b4 : Nat → Int32 → Int32 → Int32 → Mem → Option (Int32 × Mem) := Classical.choose p_X12_callsOf_b4_ex
theorem p_X12_callsOf_b4_z (a1 : Int32) (a2 : Int32) (a3 : Int32) (μ : Mem) : p_X12_callsOf_b4  0 a1 a2 a3 μ = none := (Classical.choose_spec p_X12_callsOf_b4_ex).1  a1 a2 a3 μ
theorem p_X12_callsOf_b4_s (n : Nat) (a1 : Int32) (a2 : Int32) (a3 : Int32) (μ : Mem) : p_X12_callsOf_b4  (n + 1) a1 a2 a3 μ = (if (μ.1 0 87) ≤ a3 then some (a2, μ) else gd (inb a3 960) ((if (μ.1 46 a3.toNatClampNeg) = (11 : Int32) then gd (inb a3 960) ((if (μ.1 48 a3.toNatClampNeg) = a1 then p_X12_callsOf_b39 (p_X12_callsOf_b4  n) a1 a3 (1 : Int32) a2 μ else p_X12_callsOf_b38 (p_X12_callsOf_b4  n) a1 a3 a2 μ)) else p_X12_callsOf_b38 (p_X12_callsOf_b4  n) a1 a3 a2 μ))) := (Classical.choose_spec p_X12_callsOf_b4_ex).2  n a1 a2 a3 μ
set_option maxHeartbeats 4000000 in
set_option maxRecDepth 100000 in
theorem t_X12_callsOf_b4 (l : Launch) (G : Gt) (ad : Nat → Nat) (av : List Value) {r : Int32} {μz : Mem} : ∀ (n : Nat) (a1 : Int32) (a2 : Int32) (a3 : Int32) (μ : Mem), p_X12_callsOf_b4  n a1 a2 a3 μ = some (r, μz) → Bk l cX12_callsOf 4 RX12 (some .int) ({ frames := 0, cells := 0, slots := 0, locals := 0 } : Room) G av (eI 1 G ad r μz) (wd 1 G ad μ) 4 [(0, .ref (ad 0)), (1, .int a1), (2, .int a2), (3, .int a3)] [] := by
  intro n
  induction n with
  | zero => intro a1 a2 a3 μ h; rw [p_X12_callsOf_b4_z] at h; cases h
  | succ n ih =>
    intro a1 a2 a3 μ h p e s m below meth c A ls H locs cx hr hlk hA hl hw
    have hx := cx.1
    have hb := cx.2.1
    rw [p_X12_callsOf_b4_s] at h
    refine lv_iload_n hx hb dX12_callsOf_4 rfl (lv_at hl 3 rfl) ?_
    refine lv_aload_n hx hb dX12_callsOf_5 rfl (lv_at hl 0 rfl) ?_
    refine g_get cx hw inX12 (ci := 11) rfl 87 (by decide) rfl (v := .int (μ.1 0 87)) shm_0 rfl fl_X12_682 dX12_callsOf_6 ?_
    refine lv_icmp_ge (tgt := 47) hx hb dX12_callsOf_9 (by decide) (fun c1 => ?_) (fun c1 => ?_)
    · rw [if_pos c1] at h
      refine lv_iload_n hx hb dX12_callsOf_47 rfl (lv_at hl 2 rfl) ?_
      exact g_iret cx hr hlk hw h dX12_callsOf_48
    · rw [if_neg c1] at h
      refine lv_iload_n hx hb dX12_callsOf_12 rfl (lv_at hl 2 rfl) ?_
      refine lv_aload_n hx hb dX12_callsOf_13 rfl (lv_at hl 0 rfl) ?_
      refine g_get cx hw inX12 (ci := 11) rfl 78 (by decide) rfl (v := .ref (ad 46)) shm_0 rfl fl_X12_154 dX12_callsOf_14 ?_
      refine lv_iload_n hx hb dX12_callsOf_17 rfl (lv_at hl 3 rfl) ?_
      refine g_iald cx hw shm_46 h dX12_callsOf_18 (fun h => ?_)
      refine lv_bipush (v := 11) hx hb dX12_callsOf_19 (by decide) ?_
      refine lv_icmp_ne (tgt := 38) hx hb dX12_callsOf_21 (by decide) (fun c2 => ?_) (fun c2 => ?_)
      · rw [if_neg c2] at h
        exact t_X12_callsOf_b38 l G ad av _ ih a1 a3 a2 μ h p e s m below meth c A ls H locs cx hr hlk hA (lv_sub hl [0, 1, 3] rfl) hw
      · rw [if_pos c2] at h
        refine lv_aload_n hx hb dX12_callsOf_24 rfl (lv_at hl 0 rfl) ?_
        refine g_get cx hw inX12 (ci := 11) rfl 80 (by decide) rfl (v := .ref (ad 48)) shm_0 rfl fl_X12_160 dX12_callsOf_25 ?_
        refine lv_iload_n hx hb dX12_callsOf_28 rfl (lv_at hl 3 rfl) ?_
        refine g_iald cx hw shm_48 h dX12_callsOf_29 (fun h => ?_)
        refine lv_iload_n hx hb dX12_callsOf_30 rfl (lv_at hl 1 rfl) ?_
        refine lv_icmp_ne (tgt := 38) hx hb dX12_callsOf_31 (by decide) (fun c5 => ?_) (fun c5 => ?_)
        · rw [if_neg c5] at h
          exact t_X12_callsOf_b38 l G ad av _ ih a1 a3 a2 μ h p e s m below meth c A ls H locs cx hr hlk hA (lv_sub hl [0, 1, 3] rfl) hw
        · rw [if_pos c5] at h
          refine lv_iconst (v := 1) hx hb dX12_callsOf_34 (by decide) ?_
          refine lv_goto (tgt := 39) hx hb dX12_callsOf_35 (by decide) ?_
          exact t_X12_callsOf_b39 l G ad av _ ih a1 a3 (1 : Int32) a2 μ h p e s m below meth c A ls H locs cx hr hlk hA (lv_sub hl [0, 1, 3] rfl) hw
theorem p_X12_callsOf_ex : ∃ f : Int32 → Mem → Option (Int32 × Mem), ∀ (a1 : Int32) (μ : Mem), f a1 μ = p_X12_callsOf_b4  FUEL a1 (0 : Int32) (0 : Int32) μ := ⟨fun (a1 : Int32) (μ : Mem) => p_X12_callsOf_b4  FUEL a1 (0 : Int32) (0 : Int32) μ, fun _ _ => rfl⟩
noncomputable def p_X12_callsOf : Int32 → Mem → Option (Int32 × Mem) := Classical.choose p_X12_callsOf_ex
theorem p_X12_callsOf_eq (a1 : Int32) (μ : Mem) : p_X12_callsOf a1 μ = p_X12_callsOf_b4  FUEL a1 (0 : Int32) (0 : Int32) μ := Classical.choose_spec p_X12_callsOf_ex a1 μ
set_option maxHeartbeats 4000000 in
set_option maxRecDepth 100000 in
theorem t_X12_callsOf (l : Launch) (G : Gt) (ad : Nat → Nat) (a1 : Int32) (μ : Mem) {r : Int32} {μz : Mem} (h : p_X12_callsOf a1 μ = some (r, μz)) : Mt l yX12_callsOf cX12_callsOf 4 (some .int) ({ frames := 0, cells := 0, slots := 0, locals := 0 } : Room) G [.ref (ad 0), .int a1] (wd 1 G ad μ) (eI 1 G ad r μz) := by
  refine Bk.mt (by decide) rfl (Nat.le_of_ble_eq_true rfl) ?_
  intro p e s m below meth c A ls H locs cx hr hlk hA hl hw
  have hx := cx.1
  have hb := cx.2.1
  have hl : lv_has ls 4 [(0, .ref (ad 0)), (1, .int a1)] := hl
  rw [p_X12_callsOf_eq] at h
  refine lv_iconst (v := 0) hx hb dX12_callsOf_0 (by decide) ?_
  refine lv_istore_n (lv' := [(2, .int 0), (0, .ref (ad 0)), (1, .int a1)]) hx hb dX12_callsOf_1 rfl hl (by decide) rfl (fun ls hl => ?_)
  refine lv_iconst (v := 0) hx hb dX12_callsOf_2 (by decide) ?_
  refine lv_istore_n (lv' := [(3, .int 0), (2, .int 0), (0, .ref (ad 0)), (1, .int a1)]) hx hb dX12_callsOf_3 rfl hl (by decide) rfl (fun ls hl => ?_)
  exact t_X12_callsOf_b4 l G ad _  FUEL a1 (0 : Int32) (0 : Int32) μ h p e s m below meth c A ls H locs cx hr hlk hA (lv_sub hl [2, 3, 1, 0] rfl) hw

theorem p_X12_instructionsOf_ex : ∃ f : Int32 → Mem → Option (Int32 × Mem), ∀ (a1 : Int32) (μ : Mem), f a1 μ = gd (inb a1 25) (gd (inb a1 25) (bd (p_X12_countKind a1 (13 : Int32) μ) (fun r2 μ1 => bd (p_X12_countKind a1 (14 : Int32) μ1) (fun r4 μ3 => some (((((μ.1 63 a1.toNatClampNeg) - (μ.1 62 a1.toNatClampNeg)) - r2) - r4), μ3))))) := ⟨fun (a1 : Int32) (μ : Mem) => gd (inb a1 25) (gd (inb a1 25) (bd (p_X12_countKind a1 (13 : Int32) μ) (fun r2 μ1 => bd (p_X12_countKind a1 (14 : Int32) μ1) (fun r4 μ3 => some (((((μ.1 63 a1.toNatClampNeg) - (μ.1 62 a1.toNatClampNeg)) - r2) - r4), μ3))))), fun _ _ => rfl⟩
noncomputable def p_X12_instructionsOf : Int32 → Mem → Option (Int32 × Mem) := Classical.choose p_X12_instructionsOf_ex
theorem p_X12_instructionsOf_eq (a1 : Int32) (μ : Mem) : p_X12_instructionsOf a1 μ = gd (inb a1 25) (gd (inb a1 25) (bd (p_X12_countKind a1 (13 : Int32) μ) (fun r2 μ1 => bd (p_X12_countKind a1 (14 : Int32) μ1) (fun r4 μ3 => some (((((μ.1 63 a1.toNatClampNeg) - (μ.1 62 a1.toNatClampNeg)) - r2) - r4), μ3))))) := Classical.choose_spec p_X12_instructionsOf_ex a1 μ
set_option maxHeartbeats 4000000 in
set_option maxRecDepth 100000 in
theorem t_X12_instructionsOf (l : Launch) (G : Gt) (ad : Nat → Nat) (a1 : Int32) (μ : Mem) {r : Int32} {μz : Mem} (h : p_X12_instructionsOf a1 μ = some (r, μz)) : Mt l yX12_instructionsOf cX12_instructionsOf 2 (some .int) ({ frames := 1, cells := 0, slots := 0, locals := 24 } : Room) G [.ref (ad 0), .int a1] (wd 1 G ad μ) (eI 1 G ad r μz) := by
  refine Bk.mt (by decide) rfl (Nat.le_of_ble_eq_true rfl) ?_
  intro p e s m below meth c A ls H locs cx hr hlk hA hl hw
  have hx := cx.1
  have hb := cx.2.1
  have hl : lv_has ls 2 [(0, .ref (ad 0)), (1, .int a1)] := hl
  rw [p_X12_instructionsOf_eq] at h
  refine lv_aload_n hx hb dX12_instructionsOf_0 rfl (lv_at hl 0 rfl) ?_
  refine g_get cx hw inX12 (ci := 11) rfl 106 (by decide) rfl (v := .ref (ad 63)) shm_0 rfl fl_X12_205 dX12_instructionsOf_1 ?_
  refine lv_iload_n hx hb dX12_instructionsOf_4 rfl (lv_at hl 1 rfl) ?_
  refine g_iald cx hw shm_63 h dX12_instructionsOf_5 (fun h => ?_)
  refine lv_aload_n hx hb dX12_instructionsOf_6 rfl (lv_at hl 0 rfl) ?_
  refine g_get cx hw inX12 (ci := 11) rfl 105 (by decide) rfl (v := .ref (ad 62)) shm_0 rfl fl_X12_202 dX12_instructionsOf_7 ?_
  refine lv_iload_n hx hb dX12_instructionsOf_10 rfl (lv_at hl 1 rfl) ?_
  refine g_iald cx hw shm_62 h dX12_instructionsOf_11 (fun h => ?_)
  refine lv_isub hx hb dX12_instructionsOf_12 ?_
  refine lv_aload_n hx hb dX12_instructionsOf_13 rfl (lv_at hl 0 rfl) ?_
  refine lv_iload_n hx hb dX12_instructionsOf_14 rfl (lv_at hl 1 rfl) ?_
  refine lv_bipush (v := 13) hx hb dX12_instructionsOf_15 (by decide) ?_
  obtain ⟨r2, μ1, gr2, h⟩ := bd_some h
  refine g_callVI (As := [.int a1, .int 13]) (rest := [.int ((μ.1 63 a1.toNatClampNeg) - (μ.1 62 a1.toNatClampNeg))]) cx hw hA (t_X12_countKind l G ad a1 (13 : Int32) μ gr2) shm_0 rfl ml_X12_779 im_X12_countKind se_X12_countKind in_X12 co_X12_countKind rfl hd_X12_countKind rfl ⟨(Nat.le_of_ble_eq_true rfl), (Nat.le_of_ble_eq_true rfl)⟩ hl.1 rfl (Nat.le_of_ble_eq_true rfl) dX12_instructionsOf_17 ⟨rfl, rfl⟩ (fun H locs hw => ?_)
  refine lv_isub hx hb dX12_instructionsOf_20 ?_
  refine lv_aload_n hx hb dX12_instructionsOf_21 rfl (lv_at hl 0 rfl) ?_
  refine lv_iload_n hx hb dX12_instructionsOf_22 rfl (lv_at hl 1 rfl) ?_
  refine lv_bipush (v := 14) hx hb dX12_instructionsOf_23 (by decide) ?_
  obtain ⟨r4, μ3, gr4, h⟩ := bd_some h
  refine g_callVI (As := [.int a1, .int 14]) (rest := [.int (((μ.1 63 a1.toNatClampNeg) - (μ.1 62 a1.toNatClampNeg)) - r2)]) cx hw hA (t_X12_countKind l G ad a1 (14 : Int32) μ1 gr4) shm_0 rfl ml_X12_779 im_X12_countKind se_X12_countKind in_X12 co_X12_countKind rfl hd_X12_countKind rfl ⟨(Nat.le_of_ble_eq_true rfl), (Nat.le_of_ble_eq_true rfl)⟩ hl.1 rfl (Nat.le_of_ble_eq_true rfl) dX12_instructionsOf_25 ⟨rfl, rfl⟩ (fun H locs hw => ?_)
  refine lv_isub hx hb dX12_instructionsOf_28 ?_
  exact g_iret cx hr hlk hw h dX12_instructionsOf_29

theorem p_X12_variant_ex : ∃ f : Int32 → Int32 → Mem → Option (Int32 × Mem), ∀ (a1 : Int32) (a2 : Int32) (μ : Mem), f a1 a2 μ = bd (p_X12_isVariant a1 μ) (fun r2 μ1 => (if r2 = (0 : Int32) then some ((-1 : Int32), μ1) else (if a2 = (0 : Int32) then gd (inb a1 25) (gd (inb (μ1.1 57 a1.toNatClampNeg) 73) (some ((μ1.1 2 (μ1.1 57 a1.toNatClampNeg).toNatClampNeg), μ1))) else (if a2 = (1 : Int32) then gd (inb a1 25) (some ((μ1.1 65 a1.toNatClampNeg), μ1)) else (if a2 = (2 : Int32) then gd (inb a1 25) (some ((μ1.1 59 a1.toNatClampNeg), μ1)) else (if a2 = (3 : Int32) then bd (p_X12_instructionsOf a1 μ1) (fun r10 μ9 => some (r10, μ9)) else (if a2 = (4 : Int32) then gd (inb a1 25) (some ((μ1.1 66 a1.toNatClampNeg), μ1)) else (if a2 = (5 : Int32) then bd (p_X12_callsOf a1 μ1) (fun r14 μ13 => some (r14, μ13)) else (if a2 = (6 : Int32) then bd (p_X12_knownIn a1 μ1) (fun r17 μ16 => some (r17, μ16)) else some ((-1 : Int32), μ1)))))))))) := ⟨fun (a1 : Int32) (a2 : Int32) (μ : Mem) => bd (p_X12_isVariant a1 μ) (fun r2 μ1 => (if r2 = (0 : Int32) then some ((-1 : Int32), μ1) else (if a2 = (0 : Int32) then gd (inb a1 25) (gd (inb (μ1.1 57 a1.toNatClampNeg) 73) (some ((μ1.1 2 (μ1.1 57 a1.toNatClampNeg).toNatClampNeg), μ1))) else (if a2 = (1 : Int32) then gd (inb a1 25) (some ((μ1.1 65 a1.toNatClampNeg), μ1)) else (if a2 = (2 : Int32) then gd (inb a1 25) (some ((μ1.1 59 a1.toNatClampNeg), μ1)) else (if a2 = (3 : Int32) then bd (p_X12_instructionsOf a1 μ1) (fun r10 μ9 => some (r10, μ9)) else (if a2 = (4 : Int32) then gd (inb a1 25) (some ((μ1.1 66 a1.toNatClampNeg), μ1)) else (if a2 = (5 : Int32) then bd (p_X12_callsOf a1 μ1) (fun r14 μ13 => some (r14, μ13)) else (if a2 = (6 : Int32) then bd (p_X12_knownIn a1 μ1) (fun r17 μ16 => some (r17, μ16)) else some ((-1 : Int32), μ1)))))))))), fun _ _ _ => rfl⟩
noncomputable def p_X12_variant : Int32 → Int32 → Mem → Option (Int32 × Mem) := Classical.choose p_X12_variant_ex
theorem p_X12_variant_eq (a1 : Int32) (a2 : Int32) (μ : Mem) : p_X12_variant a1 a2 μ = bd (p_X12_isVariant a1 μ) (fun r2 μ1 => (if r2 = (0 : Int32) then some ((-1 : Int32), μ1) else (if a2 = (0 : Int32) then gd (inb a1 25) (gd (inb (μ1.1 57 a1.toNatClampNeg) 73) (some ((μ1.1 2 (μ1.1 57 a1.toNatClampNeg).toNatClampNeg), μ1))) else (if a2 = (1 : Int32) then gd (inb a1 25) (some ((μ1.1 65 a1.toNatClampNeg), μ1)) else (if a2 = (2 : Int32) then gd (inb a1 25) (some ((μ1.1 59 a1.toNatClampNeg), μ1)) else (if a2 = (3 : Int32) then bd (p_X12_instructionsOf a1 μ1) (fun r10 μ9 => some (r10, μ9)) else (if a2 = (4 : Int32) then gd (inb a1 25) (some ((μ1.1 66 a1.toNatClampNeg), μ1)) else (if a2 = (5 : Int32) then bd (p_X12_callsOf a1 μ1) (fun r14 μ13 => some (r14, μ13)) else (if a2 = (6 : Int32) then bd (p_X12_knownIn a1 μ1) (fun r17 μ16 => some (r17, μ16)) else some ((-1 : Int32), μ1)))))))))) := Classical.choose_spec p_X12_variant_ex a1 a2 μ
set_option maxHeartbeats 4000000 in
set_option maxRecDepth 100000 in
theorem t_X12_variant (l : Launch) (G : Gt) (ad : Nat → Nat) (a1 : Int32) (a2 : Int32) (μ : Mem) {r : Int32} {μz : Mem} (h : p_X12_variant a1 a2 μ = some (r, μz)) : Mt l yX12_variant cX12_variant 3 (some .int) ({ frames := 2, cells := 0, slots := 0, locals := 45 } : Room) G [.ref (ad 0), .int a1, .int a2] (wd 1 G ad μ) (eI 1 G ad r μz) := by
  refine Bk.mt (by decide) rfl (Nat.le_of_ble_eq_true rfl) ?_
  intro p e s m below meth c A ls H locs cx hr hlk hA hl hw
  have hx := cx.1
  have hb := cx.2.1
  have hl : lv_has ls 3 [(0, .ref (ad 0)), (1, .int a1), (2, .int a2)] := hl
  rw [p_X12_variant_eq] at h
  refine lv_aload_n hx hb dX12_variant_0 rfl (lv_at hl 0 rfl) ?_
  refine lv_iload_n hx hb dX12_variant_1 rfl (lv_at hl 1 rfl) ?_
  obtain ⟨r2, μ1, gr2, h⟩ := bd_some h
  refine g_callVI (As := [.int a1]) (rest := []) cx hw hA (t_X12_isVariant l G ad a1 μ gr2) shm_0 rfl ml_X12_785 im_X12_isVariant se_X12_isVariant in_X12 co_X12_isVariant rfl hd_X12_isVariant rfl ⟨(Nat.le_of_ble_eq_true rfl), (Nat.le_of_ble_eq_true rfl)⟩ hl.1 rfl (Nat.le_of_ble_eq_true rfl) dX12_variant_2 ⟨rfl, rfl⟩ (fun H locs hw => ?_)
  refine lv_if_ne (tgt := 10) hx hb dX12_variant_5 (by decide) (fun c3 => ?_) (fun c3 => ?_)
  · rw [if_neg c3] at h
    refine lv_iload_n hx hb dX12_variant_10 rfl (lv_at hl 2 rfl) ?_
    refine lv_topi (fun v4 ev4 => ?_)
    by_cases c5 : a2 = (0 : Int32)
    · rw [if_pos c5] at h
      have z9 := ev4.trans c5
      subst z9
      refine lv_tableIn (tgt := 52) hx hb dX12_variant_11 (by decide +kernel) (by decide +kernel) rfl (by decide) ?_
      refine lv_aload_n hx hb dX12_variant_52 rfl (lv_at hl 0 rfl) ?_
      refine g_get cx hw inX12 (ci := 11) rfl 8 (by decide) rfl (v := .ref (ad 2)) shm_0 rfl fl_X12_17 dX12_variant_53 ?_
      refine lv_aload_n hx hb dX12_variant_56 rfl (lv_at hl 0 rfl) ?_
      refine g_get cx hw inX12 (ci := 11) rfl 100 (by decide) rfl (v := .ref (ad 57)) shm_0 rfl fl_X12_187 dX12_variant_57 ?_
      refine lv_iload_n hx hb dX12_variant_60 rfl (lv_at hl 1 rfl) ?_
      refine g_iald cx hw shm_57 h dX12_variant_61 (fun h => ?_)
      refine g_iald cx hw shm_2 h dX12_variant_62 (fun h => ?_)
      exact g_iret cx hr hlk hw h dX12_variant_63
    rw [if_neg c5] at h
    by_cases c6 : a2 = (1 : Int32)
    · rw [if_pos c6] at h
      have z9 := ev4.trans c6
      subst z9
      refine lv_tableIn (tgt := 64) hx hb dX12_variant_11 (by decide +kernel) (by decide +kernel) rfl (by decide) ?_
      refine lv_aload_n hx hb dX12_variant_64 rfl (lv_at hl 0 rfl) ?_
      refine g_get cx hw inX12 (ci := 11) rfl 108 (by decide) rfl (v := .ref (ad 65)) shm_0 rfl fl_X12_211 dX12_variant_65 ?_
      refine lv_iload_n hx hb dX12_variant_68 rfl (lv_at hl 1 rfl) ?_
      refine g_iald cx hw shm_65 h dX12_variant_69 (fun h => ?_)
      exact g_iret cx hr hlk hw h dX12_variant_70
    rw [if_neg c6] at h
    by_cases c7 : a2 = (2 : Int32)
    · rw [if_pos c7] at h
      have z9 := ev4.trans c7
      subst z9
      refine lv_tableIn (tgt := 71) hx hb dX12_variant_11 (by decide +kernel) (by decide +kernel) rfl (by decide) ?_
      refine lv_aload_n hx hb dX12_variant_71 rfl (lv_at hl 0 rfl) ?_
      refine g_get cx hw inX12 (ci := 11) rfl 102 (by decide) rfl (v := .ref (ad 59)) shm_0 rfl fl_X12_193 dX12_variant_72 ?_
      refine lv_iload_n hx hb dX12_variant_75 rfl (lv_at hl 1 rfl) ?_
      refine g_iald cx hw shm_59 h dX12_variant_76 (fun h => ?_)
      exact g_iret cx hr hlk hw h dX12_variant_77
    rw [if_neg c7] at h
    by_cases c8 : a2 = (3 : Int32)
    · rw [if_pos c8] at h
      have z9 := ev4.trans c8
      subst z9
      refine lv_tableIn (tgt := 78) hx hb dX12_variant_11 (by decide +kernel) (by decide +kernel) rfl (by decide) ?_
      refine lv_aload_n hx hb dX12_variant_78 rfl (lv_at hl 0 rfl) ?_
      refine lv_iload_n hx hb dX12_variant_79 rfl (lv_at hl 1 rfl) ?_
      obtain ⟨r10, μ9, gr10, h⟩ := bd_some h
      refine g_callVI (As := [.int a1]) (rest := []) cx hw hA (t_X12_instructionsOf l G ad a1 μ1 gr10) shm_0 rfl ml_X12_788 im_X12_instructionsOf se_X12_instructionsOf in_X12 co_X12_instructionsOf rfl hd_X12_instructionsOf rfl ⟨(Nat.le_of_ble_eq_true rfl), (Nat.le_of_ble_eq_true rfl)⟩ hl.1 rfl (Nat.le_of_ble_eq_true rfl) dX12_variant_80 ⟨rfl, rfl⟩ (fun H locs hw => ?_)
      exact g_iret cx hr hlk hw h dX12_variant_83
    rw [if_neg c8] at h
    by_cases c11 : a2 = (4 : Int32)
    · rw [if_pos c11] at h
      have z9 := ev4.trans c11
      subst z9
      refine lv_tableIn (tgt := 84) hx hb dX12_variant_11 (by decide +kernel) (by decide +kernel) rfl (by decide) ?_
      refine lv_aload_n hx hb dX12_variant_84 rfl (lv_at hl 0 rfl) ?_
      refine g_get cx hw inX12 (ci := 11) rfl 109 (by decide) rfl (v := .ref (ad 66)) shm_0 rfl fl_X12_214 dX12_variant_85 ?_
      refine lv_iload_n hx hb dX12_variant_88 rfl (lv_at hl 1 rfl) ?_
      refine g_iald cx hw shm_66 h dX12_variant_89 (fun h => ?_)
      exact g_iret cx hr hlk hw h dX12_variant_90
    rw [if_neg c11] at h
    by_cases c12 : a2 = (5 : Int32)
    · rw [if_pos c12] at h
      have z9 := ev4.trans c12
      subst z9
      refine lv_tableIn (tgt := 91) hx hb dX12_variant_11 (by decide +kernel) (by decide +kernel) rfl (by decide) ?_
      refine lv_aload_n hx hb dX12_variant_91 rfl (lv_at hl 0 rfl) ?_
      refine lv_iload_n hx hb dX12_variant_92 rfl (lv_at hl 1 rfl) ?_
      obtain ⟨r14, μ13, gr14, h⟩ := bd_some h
      refine g_callVI (As := [.int a1]) (rest := []) cx hw hA (t_X12_callsOf l G ad a1 μ1 gr14) shm_0 rfl ml_X12_791 im_X12_callsOf se_X12_callsOf in_X12 co_X12_callsOf rfl hd_X12_callsOf rfl ⟨(Nat.le_of_ble_eq_true rfl), (Nat.le_of_ble_eq_true rfl)⟩ hl.1 rfl (Nat.le_of_ble_eq_true rfl) dX12_variant_93 ⟨rfl, rfl⟩ (fun H locs hw => ?_)
      exact g_iret cx hr hlk hw h dX12_variant_96
    rw [if_neg c12] at h
    by_cases c15 : a2 = (6 : Int32)
    · rw [if_pos c15] at h
      have z9 := ev4.trans c15
      subst z9
      refine lv_tableIn (tgt := 97) hx hb dX12_variant_11 (by decide +kernel) (by decide +kernel) rfl (by decide) ?_
      refine lv_aload_n hx hb dX12_variant_97 rfl (lv_at hl 0 rfl) ?_
      refine lv_iload_n hx hb dX12_variant_98 rfl (lv_at hl 1 rfl) ?_
      obtain ⟨r17, μ16, gr17, h⟩ := bd_some h
      refine g_callVI (As := [.int a1]) (rest := []) cx hw hA (t_X12_knownIn l G ad a1 μ1 gr17) shm_0 rfl ml_X12_794 im_X12_knownIn se_X12_knownIn in_X12 co_X12_knownIn rfl hd_X12_knownIn rfl ⟨(Nat.le_of_ble_eq_true rfl), (Nat.le_of_ble_eq_true rfl)⟩ hl.1 rfl (Nat.le_of_ble_eq_true rfl) dX12_variant_99 ⟨rfl, rfl⟩ (fun H locs hw => ?_)
      exact g_iret cx hr hlk hw h dX12_variant_102
    rw [if_neg c15] at h
    rw [ev4]
    refine lv_tableOut (tgt := 103) hx hb dX12_variant_11 (sw_out (L := [(0 : Int32), (1 : Int32), (2 : Int32), (3 : Int32), (4 : Int32), (5 : Int32), (6 : Int32)]) (by decide +kernel) (by simp only [List.forall_mem_cons]; exact ⟨c5, c6, c7, c8, c11, c12, c15, fun _ q => absurd q List.not_mem_nil⟩)) (by decide) ?_
    refine lv_iconst (v := (-1)) hx hb dX12_variant_103 (by decide) ?_
    exact g_iret cx hr hlk hw h dX12_variant_104
  · rw [if_pos c3] at h
    refine lv_iconst (v := (-1)) hx hb dX12_variant_8 (by decide) ?_
    exact g_iret cx hr hlk hw h dX12_variant_9

theorem p_X12_kinds_ex : ∃ f : Int32 → Int32 → Mem → Option (Int32 × Mem), ∀ (a1 : Int32) (a2 : Int32) (μ : Mem), f a1 a2 μ = bd (p_X12_isVariant a1 μ) (fun r2 μ1 => (if r2 = (0 : Int32) then some ((-1 : Int32), μ1) else (if (s_X12_isIn a2 (0 : Int32) (12 : Int32)) = (0 : Int32) then some ((-1 : Int32), μ1) else bd (p_X12_countKind a1 a2 μ1) (fun r6 μ5 => some (r6, μ5))))) := ⟨fun (a1 : Int32) (a2 : Int32) (μ : Mem) => bd (p_X12_isVariant a1 μ) (fun r2 μ1 => (if r2 = (0 : Int32) then some ((-1 : Int32), μ1) else (if (s_X12_isIn a2 (0 : Int32) (12 : Int32)) = (0 : Int32) then some ((-1 : Int32), μ1) else bd (p_X12_countKind a1 a2 μ1) (fun r6 μ5 => some (r6, μ5))))), fun _ _ _ => rfl⟩
noncomputable def p_X12_kinds : Int32 → Int32 → Mem → Option (Int32 × Mem) := Classical.choose p_X12_kinds_ex
theorem p_X12_kinds_eq (a1 : Int32) (a2 : Int32) (μ : Mem) : p_X12_kinds a1 a2 μ = bd (p_X12_isVariant a1 μ) (fun r2 μ1 => (if r2 = (0 : Int32) then some ((-1 : Int32), μ1) else (if (s_X12_isIn a2 (0 : Int32) (12 : Int32)) = (0 : Int32) then some ((-1 : Int32), μ1) else bd (p_X12_countKind a1 a2 μ1) (fun r6 μ5 => some (r6, μ5))))) := Classical.choose_spec p_X12_kinds_ex a1 a2 μ
set_option maxHeartbeats 4000000 in
set_option maxRecDepth 100000 in
theorem t_X12_kinds (l : Launch) (G : Gt) (ad : Nat → Nat) (a1 : Int32) (a2 : Int32) (μ : Mem) {r : Int32} {μz : Mem} (h : p_X12_kinds a1 a2 μ = some (r, μz)) : Mt l yX12_kinds cX12_kinds 3 (some .int) ({ frames := 2, cells := 0, slots := 0, locals := 43 } : Room) G [.ref (ad 0), .int a1, .int a2] (wd 1 G ad μ) (eI 1 G ad r μz) := by
  refine Bk.mt (by decide) rfl (Nat.le_of_ble_eq_true rfl) ?_
  intro p e s m below meth c A ls H locs cx hr hlk hA hl hw
  have hx := cx.1
  have hb := cx.2.1
  have hl : lv_has ls 3 [(0, .ref (ad 0)), (1, .int a1), (2, .int a2)] := hl
  rw [p_X12_kinds_eq] at h
  refine lv_aload_n hx hb dX12_kinds_0 rfl (lv_at hl 0 rfl) ?_
  refine lv_iload_n hx hb dX12_kinds_1 rfl (lv_at hl 1 rfl) ?_
  obtain ⟨r2, μ1, gr2, h⟩ := bd_some h
  refine g_callVI (As := [.int a1]) (rest := []) cx hw hA (t_X12_isVariant l G ad a1 μ gr2) shm_0 rfl ml_X12_785 im_X12_isVariant se_X12_isVariant in_X12 co_X12_isVariant rfl hd_X12_isVariant rfl ⟨(Nat.le_of_ble_eq_true rfl), (Nat.le_of_ble_eq_true rfl)⟩ hl.1 rfl (Nat.le_of_ble_eq_true rfl) dX12_kinds_2 ⟨rfl, rfl⟩ (fun H locs hw => ?_)
  refine lv_if_eq (tgt := 27) hx hb dX12_kinds_5 (by decide) (fun c3 => ?_) (fun c3 => ?_)
  · rw [if_pos c3] at h
    refine lv_iconst (v := (-1)) hx hb dX12_kinds_27 (by decide) ?_
    exact g_iret cx hr hlk hw h dX12_kinds_28
  · rw [if_neg c3] at h
    refine lv_iload_n hx hb dX12_kinds_8 rfl (lv_at hl 2 rfl) ?_
    refine lv_iconst (v := 0) hx hb dX12_kinds_9 (by decide) ?_
    refine lv_bipush (v := 12) hx hb dX12_kinds_10 (by decide) ?_
    refine s_callI (As := [.int a2, .int 0, .int 12]) (rest := []) cx hw hA (t_X12_isIn l G a2 (0 : Int32) (12 : Int32)) ml_X12_359 st_X12_isIn in_X12 co_X12_isIn hd_X12_isIn rfl ⟨(Nat.le_of_ble_eq_true rfl), (Nat.le_of_ble_eq_true rfl)⟩ hl.1 rfl (Nat.le_of_ble_eq_true rfl) dX12_kinds_12 rfl (fun H locs hw => ?_)
    refine lv_if_eq (tgt := 27) hx hb dX12_kinds_15 (by decide) (fun c4 => ?_) (fun c4 => ?_)
    · rw [if_pos c4] at h
      refine lv_iconst (v := (-1)) hx hb dX12_kinds_27 (by decide) ?_
      exact g_iret cx hr hlk hw h dX12_kinds_28
    · rw [if_neg c4] at h
      refine lv_aload_n hx hb dX12_kinds_18 rfl (lv_at hl 0 rfl) ?_
      refine lv_iload_n hx hb dX12_kinds_19 rfl (lv_at hl 1 rfl) ?_
      refine lv_iload_n hx hb dX12_kinds_20 rfl (lv_at hl 2 rfl) ?_
      obtain ⟨r6, μ5, gr6, h⟩ := bd_some h
      refine g_callVI (As := [.int a1, .int a2]) (rest := []) cx hw hA (t_X12_countKind l G ad a1 a2 μ1 gr6) shm_0 rfl ml_X12_779 im_X12_countKind se_X12_countKind in_X12 co_X12_countKind rfl hd_X12_countKind rfl ⟨(Nat.le_of_ble_eq_true rfl), (Nat.le_of_ble_eq_true rfl)⟩ hl.1 rfl (Nat.le_of_ble_eq_true rfl) dX12_kinds_21 ⟨rfl, rfl⟩ (fun H locs hw => ?_)
      refine lv_goto (tgt := 28) hx hb dX12_kinds_24 (by decide) ?_
      exact g_iret cx hr hlk hw h dX12_kinds_28

theorem p_X12_beginRun_b32_ex : ∃ f : Nat → Int32 → Mem → Option Mem, (∀ (a1 : Int32) (μ : Mem), f  0 a1 μ = none) ∧ (∀ (n : Nat) (a1 : Int32) (μ : Mem), f  (n + 1) a1 μ = (if (8 : Int32) ≤ a1 then bw (p_X12_begin (0 : Int32) μ) (fun μ8 => bw (p_X12_buildLeaves μ8) (fun μ10 => some μ10)) else gd (inb a1 8) (bv (sF μ 42 a1.toNatClampNeg (0 : Int32)) (fun μ12 => bv (a1 + 1) (fun v13 => f n v13 μ12))))) := ⟨fun n => Nat.rec (fun (a1 : Int32) (μ : Mem) => none) (fun _ ih => fun (a1 : Int32) (μ : Mem) => (if (8 : Int32) ≤ a1 then bw (p_X12_begin (0 : Int32) μ) (fun μ8 => bw (p_X12_buildLeaves μ8) (fun μ10 => some μ10)) else gd (inb a1 8) (bv (sF μ 42 a1.toNatClampNeg (0 : Int32)) (fun μ12 => bv (a1 + 1) (fun v13 => ih v13 μ12))))) n, fun  _ _ => rfl, fun  _ _ _ => rfl⟩
noncomputable def p_X12_beginRun_b32 : Nat → Int32 → Mem → Option Mem := Classical.choose p_X12_beginRun_b32_ex
theorem p_X12_beginRun_b32_z (a1 : Int32) (μ : Mem) : p_X12_beginRun_b32  0 a1 μ = none := (Classical.choose_spec p_X12_beginRun_b32_ex).1  a1 μ
theorem p_X12_beginRun_b32_s (n : Nat) (a1 : Int32) (μ : Mem) : p_X12_beginRun_b32  (n + 1) a1 μ = (if (8 : Int32) ≤ a1 then bw (p_X12_begin (0 : Int32) μ) (fun μ8 => bw (p_X12_buildLeaves μ8) (fun μ10 => some μ10)) else gd (inb a1 8) (bv (sF μ 42 a1.toNatClampNeg (0 : Int32)) (fun μ12 => bv (a1 + 1) (fun v13 => p_X12_beginRun_b32  n v13 μ12)))) := (Classical.choose_spec p_X12_beginRun_b32_ex).2  n a1 μ
set_option maxHeartbeats 4000000 in
set_option maxRecDepth 100000 in
theorem t_X12_beginRun_b32 (l : Launch) (G : Gt) (ad : Nat → Nat) (av : List Value) {μz : Mem} : ∀ (n : Nat) (a1 : Int32) (μ : Mem), p_X12_beginRun_b32  n a1 μ = some μz → Bk l cX12_beginRun 2 RX12 none ({ frames := 4, cells := 0, slots := 0, locals := 89 } : Room) G av (eV 1 G ad μz) (wd 1 G ad μ) 32 [(0, .ref (ad 0)), (1, .int a1)] [] := by
  intro n
  induction n with
  | zero => intro a1 μ h; rw [p_X12_beginRun_b32_z] at h; cases h
  | succ n ih =>
    intro a1 μ h p e s m below meth c A ls H locs cx hr hlk hA hl hw
    have hx := cx.1
    have hb := cx.2.1
    rw [p_X12_beginRun_b32_s] at h
    refine lv_iload_n hx hb dX12_beginRun_32 rfl (lv_at hl 1 rfl) ?_
    refine lv_bipush (v := 8) hx hb dX12_beginRun_33 (by decide) ?_
    refine lv_icmp_ge (tgt := 51) hx hb dX12_beginRun_35 (by decide) (fun c7 => ?_) (fun c7 => ?_)
    · rw [if_pos c7] at h
      refine lv_aload_n hx hb dX12_beginRun_51 rfl (lv_at hl 0 rfl) ?_
      refine lv_iconst (v := 0) hx hb dX12_beginRun_52 (by decide) ?_
      obtain ⟨μ8, gμ8, h⟩ := bw_some h
      refine g_callVV (As := [.int 0]) (rest := []) cx hw hA (t_X12_begin l G ad (0 : Int32) μ gμ8) shm_0 rfl ml_X12_763 im_X12_begin se_X12_begin in_X12 co_X12_begin rfl hd_X12_begin rfl ⟨(Nat.le_of_ble_eq_true rfl), (Nat.le_of_ble_eq_true rfl)⟩ hl.1 rfl (Nat.le_of_ble_eq_true rfl) dX12_beginRun_53 ⟨rfl, rfl⟩ (fun H locs hw => ?_)
      refine lv_aload_n hx hb dX12_beginRun_56 rfl (lv_at hl 0 rfl) ?_
      obtain ⟨μ10, gμ10, h⟩ := bw_some h
      refine g_callVV (As := []) (rest := []) cx hw hA (t_X12_buildLeaves l G ad μ8 gμ10) shm_0 rfl ml_X12_800 im_X12_buildLeaves se_X12_buildLeaves in_X12 co_X12_buildLeaves rfl hd_X12_buildLeaves rfl ⟨(Nat.le_of_ble_eq_true rfl), (Nat.le_of_ble_eq_true rfl)⟩ hl.1 rfl (Nat.le_of_ble_eq_true rfl) dX12_beginRun_57 ⟨rfl, rfl⟩ (fun H locs hw => ?_)
      exact g_vret cx hr hlk hw h dX12_beginRun_60
    · rw [if_neg c7] at h
      refine lv_aload_n hx hb dX12_beginRun_38 rfl (lv_at hl 0 rfl) ?_
      refine g_get cx hw inX12 (ci := 11) rfl 70 (by decide) rfl (v := .ref (ad 42)) shm_0 rfl fl_X12_142 dX12_beginRun_39 ?_
      refine lv_iload_n hx hb dX12_beginRun_42 rfl (lv_at hl 1 rfl) ?_
      refine lv_iconst (v := 0) hx hb dX12_beginRun_43 (by decide) ?_
      refine g_iast cx hw shm_42 h dX12_beginRun_44 (fun μ12 H locs h hw => ?_)
      obtain ⟨v13, ev13, h⟩ := bv_ex h
      refine lv_iinc (v := v13) (lv' := [(1, .int v13), (0, .ref (ad 0))]) hx hb dX12_beginRun_45 hl (k := 1) rfl (by rw [ev13]; rfl) (by decide) rfl (fun ls hl => ?_)
      refine lv_goto (tgt := 32) hx hb dX12_beginRun_48 (by decide) ?_
      exact ih v13 μ12 h p e s m below meth c A ls H locs cx hr hlk hA (lv_sub hl [1, 0] rfl) hw
theorem p_X12_beginRun_ex : ∃ f : Mem → Option Mem, ∀  (μ : Mem), f  μ = bv (sF μ 0 56 (0 : Int32)) (fun μ1 => bv (sF μ1 0 75 (0 : Int32)) (fun μ2 => bv (sF μ2 0 76 (0 : Int32)) (fun μ3 => bv (sF μ3 0 77 (0 : Int32)) (fun μ4 => bv (sF μ4 0 73 (0 : Int32)) (fun μ5 => bv (sF μ5 0 122 (0 : Int32)) (fun μ6 => p_X12_beginRun_b32  FUEL (0 : Int32) μ6)))))) := ⟨fun  (μ : Mem) => bv (sF μ 0 56 (0 : Int32)) (fun μ1 => bv (sF μ1 0 75 (0 : Int32)) (fun μ2 => bv (sF μ2 0 76 (0 : Int32)) (fun μ3 => bv (sF μ3 0 77 (0 : Int32)) (fun μ4 => bv (sF μ4 0 73 (0 : Int32)) (fun μ5 => bv (sF μ5 0 122 (0 : Int32)) (fun μ6 => p_X12_beginRun_b32  FUEL (0 : Int32) μ6)))))), fun _ => rfl⟩
noncomputable def p_X12_beginRun : Mem → Option Mem := Classical.choose p_X12_beginRun_ex
theorem p_X12_beginRun_eq  (μ : Mem) : p_X12_beginRun  μ = bv (sF μ 0 56 (0 : Int32)) (fun μ1 => bv (sF μ1 0 75 (0 : Int32)) (fun μ2 => bv (sF μ2 0 76 (0 : Int32)) (fun μ3 => bv (sF μ3 0 77 (0 : Int32)) (fun μ4 => bv (sF μ4 0 73 (0 : Int32)) (fun μ5 => bv (sF μ5 0 122 (0 : Int32)) (fun μ6 => p_X12_beginRun_b32  FUEL (0 : Int32) μ6)))))) := Classical.choose_spec p_X12_beginRun_ex  μ
set_option maxHeartbeats 4000000 in
set_option maxRecDepth 100000 in
theorem t_X12_beginRun (l : Launch) (G : Gt) (ad : Nat → Nat)  (μ : Mem) {μz : Mem} (h : p_X12_beginRun  μ = some μz) : Mt l yX12_beginRun cX12_beginRun 2 none ({ frames := 4, cells := 0, slots := 0, locals := 89 } : Room) G [.ref (ad 0)] (wd 1 G ad μ) (eV 1 G ad μz) := by
  refine Bk.mt (by decide) rfl (Nat.le_of_ble_eq_true rfl) ?_
  intro p e s m below meth c A ls H locs cx hr hlk hA hl hw
  have hx := cx.1
  have hb := cx.2.1
  have hl : lv_has ls 2 [(0, .ref (ad 0))] := hl
  rw [p_X12_beginRun_eq] at h
  refine lv_aload_n hx hb dX12_beginRun_0 rfl (lv_at hl 0 rfl) ?_
  refine lv_iconst (v := 0) hx hb dX12_beginRun_1 (by decide) ?_
  refine g_put cx hw inX12 (ci := 11) rfl tyX12_ok nmX12 56 (by decide) rfl rfl rfl rfl shm_0 h fl_X12_524 dX12_beginRun_2 (fun μ1 H locs h hw => ?_)
  refine lv_aload_n hx hb dX12_beginRun_5 rfl (lv_at hl 0 rfl) ?_
  refine lv_iconst (v := 0) hx hb dX12_beginRun_6 (by decide) ?_
  refine g_put cx hw inX12 (ci := 11) rfl tyX12_ok nmX12 75 (by decide) rfl rfl rfl rfl shm_0 h fl_X12_658 dX12_beginRun_7 (fun μ2 H locs h hw => ?_)
  refine lv_aload_n hx hb dX12_beginRun_10 rfl (lv_at hl 0 rfl) ?_
  refine lv_iconst (v := 0) hx hb dX12_beginRun_11 (by decide) ?_
  refine g_put cx hw inX12 (ci := 11) rfl tyX12_ok nmX12 76 (by decide) rfl rfl rfl rfl shm_0 h fl_X12_661 dX12_beginRun_12 (fun μ3 H locs h hw => ?_)
  refine lv_aload_n hx hb dX12_beginRun_15 rfl (lv_at hl 0 rfl) ?_
  refine lv_iconst (v := 0) hx hb dX12_beginRun_16 (by decide) ?_
  refine g_put cx hw inX12 (ci := 11) rfl tyX12_ok nmX12 77 (by decide) rfl rfl rfl rfl shm_0 h fl_X12_664 dX12_beginRun_17 (fun μ4 H locs h hw => ?_)
  refine lv_aload_n hx hb dX12_beginRun_20 rfl (lv_at hl 0 rfl) ?_
  refine lv_iconst (v := 0) hx hb dX12_beginRun_21 (by decide) ?_
  refine g_put cx hw inX12 (ci := 11) rfl tyX12_ok nmX12 73 (by decide) rfl rfl rfl rfl shm_0 h fl_X12_649 dX12_beginRun_22 (fun μ5 H locs h hw => ?_)
  refine lv_aload_n hx hb dX12_beginRun_25 rfl (lv_at hl 0 rfl) ?_
  refine lv_iconst (v := 0) hx hb dX12_beginRun_26 (by decide) ?_
  refine g_put cx hw inX12 (ci := 11) rfl tyX12_ok nmX12 122 (by decide) rfl rfl rfl rfl shm_0 h fl_X12_797 dX12_beginRun_27 (fun μ6 H locs h hw => ?_)
  refine lv_iconst (v := 0) hx hb dX12_beginRun_30 (by decide) ?_
  refine lv_istore_n (lv' := [(1, .int 0), (0, .ref (ad 0))]) hx hb dX12_beginRun_31 rfl hl (by decide) rfl (fun ls hl => ?_)
  exact t_X12_beginRun_b32 l G ad _  FUEL (0 : Int32) μ6 h p e s m below meth c A ls H locs cx hr hlk hA (lv_sub hl [1, 0] rfl) hw

theorem p_X12_layRow_b66_ex : ∃ f : (Int32 → Mem → Option Mem) → Int32 → Int32 → Int32 → Int32 → Mem → Option Mem, ∀ (K9 : Int32 → Mem → Option Mem) (a2 : Int32) (a3 : Int32) (k0 : Int32) (k1 : Int32) (μ : Mem), f K9 a2 a3 k0 k1 μ = gd (inb k1 41) (bv (sF μ 75 k1.toNatClampNeg k0) (fun μ7 => bv (sF μ7 0 122 ((μ7.1 0 122) + (1 : Int32))) (fun μ8 => gd (inb a3 100000) ((if (μ8.1 30 a3.toNatClampNeg) = (2 : Int32) then gd (inb a3 100000) (gd (inb a2 200) (bv (sF μ8 55 a2.toNatClampNeg (μ8.1 32 a3.toNatClampNeg)) (fun μ10 => gd (inb a3 100000) (gd (inb (a2 + (1 : Int32)) 200) (bv (sF μ10 55 (a2 + (1 : Int32)).toNatClampNeg (μ10.1 31 a3.toNatClampNeg)) (fun μ11 => bv (a2 + 2) (fun v12 => K9 v12 μ11))))))) else K9 a2 μ8))))) := ⟨fun (K9 : Int32 → Mem → Option Mem) (a2 : Int32) (a3 : Int32) (k0 : Int32) (k1 : Int32) (μ : Mem) => gd (inb k1 41) (bv (sF μ 75 k1.toNatClampNeg k0) (fun μ7 => bv (sF μ7 0 122 ((μ7.1 0 122) + (1 : Int32))) (fun μ8 => gd (inb a3 100000) ((if (μ8.1 30 a3.toNatClampNeg) = (2 : Int32) then gd (inb a3 100000) (gd (inb a2 200) (bv (sF μ8 55 a2.toNatClampNeg (μ8.1 32 a3.toNatClampNeg)) (fun μ10 => gd (inb a3 100000) (gd (inb (a2 + (1 : Int32)) 200) (bv (sF μ10 55 (a2 + (1 : Int32)).toNatClampNeg (μ10.1 31 a3.toNatClampNeg)) (fun μ11 => bv (a2 + 2) (fun v12 => K9 v12 μ11))))))) else K9 a2 μ8))))), fun _ _ _ _ _ _ => rfl⟩
noncomputable def p_X12_layRow_b66 : (Int32 → Mem → Option Mem) → Int32 → Int32 → Int32 → Int32 → Mem → Option Mem := Classical.choose p_X12_layRow_b66_ex
theorem p_X12_layRow_b66_eq (K9 : Int32 → Mem → Option Mem) (a2 : Int32) (a3 : Int32) (k0 : Int32) (k1 : Int32) (μ : Mem) : p_X12_layRow_b66 K9 a2 a3 k0 k1 μ = gd (inb k1 41) (bv (sF μ 75 k1.toNatClampNeg k0) (fun μ7 => bv (sF μ7 0 122 ((μ7.1 0 122) + (1 : Int32))) (fun μ8 => gd (inb a3 100000) ((if (μ8.1 30 a3.toNatClampNeg) = (2 : Int32) then gd (inb a3 100000) (gd (inb a2 200) (bv (sF μ8 55 a2.toNatClampNeg (μ8.1 32 a3.toNatClampNeg)) (fun μ10 => gd (inb a3 100000) (gd (inb (a2 + (1 : Int32)) 200) (bv (sF μ10 55 (a2 + (1 : Int32)).toNatClampNeg (μ10.1 31 a3.toNatClampNeg)) (fun μ11 => bv (a2 + 2) (fun v12 => K9 v12 μ11))))))) else K9 a2 μ8))))) := Classical.choose_spec p_X12_layRow_b66_ex K9 a2 a3 k0 k1 μ
set_option maxHeartbeats 4000000 in
set_option maxRecDepth 100000 in
theorem t_X12_layRow_b66 (l : Launch) (G : Gt) (ad : Nat → Nat) (av : List Value) {μz : Mem} (K9 : Int32 → Mem → Option Mem) (hK9 : ∀ (z2 : Int32) (μ1 : Mem), K9 z2 μ1 = some μz → Bk l cX12_layRow 4 RX12 none ({ frames := 0, cells := 0, slots := 0, locals := 0 } : Room) G av (eV 1 G ad μz) (wd 1 G ad μ1) 9 [(0, .ref (ad 0)), (2, .int z2)] []) (a2 : Int32) (a3 : Int32) (k0 : Int32) (k1 : Int32) (μ : Mem) (h : p_X12_layRow_b66 K9 a2 a3 k0 k1 μ = some μz) : Bk l cX12_layRow 4 RX12 none ({ frames := 0, cells := 0, slots := 0, locals := 0 } : Room) G av (eV 1 G ad μz) (wd 1 G ad μ) 66 [(0, .ref (ad 0)), (2, .int a2), (3, .int a3)] [.int k0, .int k1, .ref (ad 75)] := by
  intro p e s m below meth c A ls H locs cx hr hlk hA hl hw
  have hx := cx.1
  have hb := cx.2.1
  rw [p_X12_layRow_b66_eq] at h
  refine g_iast cx hw shm_75 h dX12_layRow_66 (fun μ7 H locs h hw => ?_)
  refine lv_aload_n hx hb dX12_layRow_67 rfl (lv_at hl 0 rfl) ?_
  refine lv_dup hx hb dX12_layRow_68 rfl ?_
  refine g_get cx hw inX12 (ci := 11) rfl 122 (by decide) rfl (v := .int (μ7.1 0 122)) shm_0 rfl fl_X12_797 dX12_layRow_69 ?_
  refine lv_iconst (v := 1) hx hb dX12_layRow_72 (by decide) ?_
  refine lv_iadd hx hb dX12_layRow_73 ?_
  refine g_put cx hw inX12 (ci := 11) rfl tyX12_ok nmX12 122 (by decide) rfl rfl rfl rfl shm_0 h fl_X12_797 dX12_layRow_74 (fun μ8 H locs h hw => ?_)
  refine lv_aload_n hx hb dX12_layRow_77 rfl (lv_at hl 0 rfl) ?_
  refine g_get cx hw inX12 (ci := 11) rfl 51 (by decide) rfl (v := .ref (ad 30)) shm_0 rfl fl_X12_106 dX12_layRow_78 ?_
  refine lv_iload_n hx hb dX12_layRow_81 rfl (lv_at hl 2 rfl) ?_
  refine g_iald cx hw shm_30 h dX12_layRow_82 (fun h => ?_)
  refine lv_iconst (v := 2) hx hb dX12_layRow_83 (by decide) ?_
  refine lv_icmp_eq (tgt := 90) hx hb dX12_layRow_84 (by decide) (fun c9 => ?_) (fun c9 => ?_)
  · rw [if_pos c9] at h
    refine lv_aload_n hx hb dX12_layRow_90 rfl (lv_at hl 0 rfl) ?_
    refine g_get cx hw inX12 (ci := 11) rfl 98 (by decide) rfl (v := .ref (ad 55)) shm_0 rfl fl_X12_181 dX12_layRow_91 ?_
    refine lv_iload_n hx hb dX12_layRow_94 rfl (lv_at hl 1 rfl) ?_
    refine lv_aload_n hx hb dX12_layRow_95 rfl (lv_at hl 0 rfl) ?_
    refine g_get cx hw inX12 (ci := 11) rfl 53 (by decide) rfl (v := .ref (ad 32)) shm_0 rfl fl_X12_112 dX12_layRow_96 ?_
    refine lv_iload_n hx hb dX12_layRow_99 rfl (lv_at hl 2 rfl) ?_
    refine g_iald cx hw shm_32 h dX12_layRow_100 (fun h => ?_)
    refine g_iast cx hw shm_55 h dX12_layRow_101 (fun μ10 H locs h hw => ?_)
    refine lv_aload_n hx hb dX12_layRow_102 rfl (lv_at hl 0 rfl) ?_
    refine g_get cx hw inX12 (ci := 11) rfl 98 (by decide) rfl (v := .ref (ad 55)) shm_0 rfl fl_X12_181 dX12_layRow_103 ?_
    refine lv_iload_n hx hb dX12_layRow_106 rfl (lv_at hl 1 rfl) ?_
    refine lv_iconst (v := 1) hx hb dX12_layRow_107 (by decide) ?_
    refine lv_iadd hx hb dX12_layRow_108 ?_
    refine lv_aload_n hx hb dX12_layRow_109 rfl (lv_at hl 0 rfl) ?_
    refine g_get cx hw inX12 (ci := 11) rfl 52 (by decide) rfl (v := .ref (ad 31)) shm_0 rfl fl_X12_109 dX12_layRow_110 ?_
    refine lv_iload_n hx hb dX12_layRow_113 rfl (lv_at hl 2 rfl) ?_
    refine g_iald cx hw shm_31 h dX12_layRow_114 (fun h => ?_)
    refine g_iast cx hw shm_55 h dX12_layRow_115 (fun μ11 H locs h hw => ?_)
    obtain ⟨v12, ev12, h⟩ := bv_ex h
    refine lv_iinc (v := v12) (lv' := [(2, .int v12), (0, .ref (ad 0)), (3, .int a3)]) hx hb dX12_layRow_116 hl (k := 1) rfl (by rw [ev12]; rfl) (by decide) rfl (fun ls hl => ?_)
    refine lv_goto (tgt := 9) hx hb dX12_layRow_119 (by decide) ?_
    exact hK9 v12 μ11 h p e s m below meth c A ls H locs cx hr hlk hA (lv_sub hl [1, 0] rfl) hw
  · rw [if_neg c9] at h
    refine lv_goto (tgt := 9) hx hb dX12_layRow_87 (by decide) ?_
    exact hK9 a2 μ8 h p e s m below meth c A ls H locs cx hr hlk hA (lv_sub hl [0, 1] rfl) hw
theorem p_X12_layRow_b9_ex : ∃ f : Nat → Int32 → Mem → Option Mem, (∀ (a2 : Int32) (μ : Mem), f  0 a2 μ = none) ∧ (∀ (n : Nat) (a2 : Int32) (μ : Mem), f  (n + 1) a2 μ = (if a2 ≤ (0 : Int32) then some μ else bv (a2 + (-1)) (fun v3 => gd (inb v3 200) (bv (μ.1 55 v3.toNatClampNeg) (fun v4 => gd (inb v4 100000) (gd (inb (μ.1 0 122) 41) (bv (sF μ 74 (μ.1 0 122).toNatClampNeg (μ.1 30 v4.toNatClampNeg)) (fun μ5 => gd (inb v4 100000) ((if (μ5.1 30 v4.toNatClampNeg) = (2 : Int32) then p_X12_layRow_b66 (f n) v3 v4 (0 : Int32) (μ5.1 0 122) μ5 else gd (inb v4 100000) (p_X12_layRow_b66 (f n) v3 v4 (μ5.1 31 v4.toNatClampNeg) (μ5.1 0 122) μ5))))))))))) := ⟨fun n => Nat.rec (fun (a2 : Int32) (μ : Mem) => none) (fun _ ih => fun (a2 : Int32) (μ : Mem) => (if a2 ≤ (0 : Int32) then some μ else bv (a2 + (-1)) (fun v3 => gd (inb v3 200) (bv (μ.1 55 v3.toNatClampNeg) (fun v4 => gd (inb v4 100000) (gd (inb (μ.1 0 122) 41) (bv (sF μ 74 (μ.1 0 122).toNatClampNeg (μ.1 30 v4.toNatClampNeg)) (fun μ5 => gd (inb v4 100000) ((if (μ5.1 30 v4.toNatClampNeg) = (2 : Int32) then p_X12_layRow_b66 (ih) v3 v4 (0 : Int32) (μ5.1 0 122) μ5 else gd (inb v4 100000) (p_X12_layRow_b66 (ih) v3 v4 (μ5.1 31 v4.toNatClampNeg) (μ5.1 0 122) μ5))))))))))) n, fun  _ _ => rfl, fun  _ _ _ => rfl⟩
noncomputable def p_X12_layRow_b9 : Nat → Int32 → Mem → Option Mem := Classical.choose p_X12_layRow_b9_ex
theorem p_X12_layRow_b9_z (a2 : Int32) (μ : Mem) : p_X12_layRow_b9  0 a2 μ = none := (Classical.choose_spec p_X12_layRow_b9_ex).1  a2 μ
theorem p_X12_layRow_b9_s (n : Nat) (a2 : Int32) (μ : Mem) : p_X12_layRow_b9  (n + 1) a2 μ = (if a2 ≤ (0 : Int32) then some μ else bv (a2 + (-1)) (fun v3 => gd (inb v3 200) (bv (μ.1 55 v3.toNatClampNeg) (fun v4 => gd (inb v4 100000) (gd (inb (μ.1 0 122) 41) (bv (sF μ 74 (μ.1 0 122).toNatClampNeg (μ.1 30 v4.toNatClampNeg)) (fun μ5 => gd (inb v4 100000) ((if (μ5.1 30 v4.toNatClampNeg) = (2 : Int32) then p_X12_layRow_b66 (p_X12_layRow_b9  n) v3 v4 (0 : Int32) (μ5.1 0 122) μ5 else gd (inb v4 100000) (p_X12_layRow_b66 (p_X12_layRow_b9  n) v3 v4 (μ5.1 31 v4.toNatClampNeg) (μ5.1 0 122) μ5)))))))))) := (Classical.choose_spec p_X12_layRow_b9_ex).2  n a2 μ
set_option maxHeartbeats 4000000 in
set_option maxRecDepth 100000 in
theorem t_X12_layRow_b9 (l : Launch) (G : Gt) (ad : Nat → Nat) (av : List Value) {μz : Mem} : ∀ (n : Nat) (a2 : Int32) (μ : Mem), p_X12_layRow_b9  n a2 μ = some μz → Bk l cX12_layRow 4 RX12 none ({ frames := 0, cells := 0, slots := 0, locals := 0 } : Room) G av (eV 1 G ad μz) (wd 1 G ad μ) 9 [(0, .ref (ad 0)), (2, .int a2)] [] := by
  intro n
  induction n with
  | zero => intro a2 μ h; rw [p_X12_layRow_b9_z] at h; cases h
  | succ n ih =>
    intro a2 μ h p e s m below meth c A ls H locs cx hr hlk hA hl hw
    have hx := cx.1
    have hb := cx.2.1
    rw [p_X12_layRow_b9_s] at h
    refine lv_iload_n hx hb dX12_layRow_9 rfl (lv_at hl 1 rfl) ?_
    refine lv_if_le (tgt := 122) hx hb dX12_layRow_10 (by decide) (fun c2 => ?_) (fun c2 => ?_)
    · rw [if_pos c2] at h
      exact g_vret cx hr hlk hw h dX12_layRow_122
    · rw [if_neg c2] at h
      obtain ⟨v3, ev3, h⟩ := bv_ex h
      refine lv_iinc (v := v3) (lv' := [(2, .int v3), (0, .ref (ad 0))]) hx hb dX12_layRow_13 hl (k := 1) rfl (by rw [ev3]; rfl) (by decide) rfl (fun ls hl => ?_)
      refine lv_aload_n hx hb dX12_layRow_16 rfl (lv_at hl 1 rfl) ?_
      refine g_get cx hw inX12 (ci := 11) rfl 98 (by decide) rfl (v := .ref (ad 55)) shm_0 rfl fl_X12_181 dX12_layRow_17 ?_
      refine lv_iload_n hx hb dX12_layRow_20 rfl (lv_at hl 0 rfl) ?_
      refine g_iald cx hw shm_55 h dX12_layRow_21 (fun h => ?_)
      obtain ⟨v4, ev4, h⟩ := bv_ex h
      refine lv_topi (fun y9 z9 => ?_)
      obtain rfl : v4 = y9 := ev4.trans z9.symm
      refine lv_istore_n (lv' := [(3, .int v4), (2, .int v3), (0, .ref (ad 0))]) hx hb dX12_layRow_22 rfl hl (by decide) rfl (fun ls hl => ?_)
      refine lv_aload_n hx hb dX12_layRow_23 rfl (lv_at hl 2 rfl) ?_
      refine g_get cx hw inX12 (ci := 11) rfl 120 (by decide) rfl (v := .ref (ad 74)) shm_0 rfl fl_X12_238 dX12_layRow_24 ?_
      refine lv_aload_n hx hb dX12_layRow_27 rfl (lv_at hl 2 rfl) ?_
      refine g_get cx hw inX12 (ci := 11) rfl 122 (by decide) rfl (v := .int (μ.1 0 122)) shm_0 rfl fl_X12_797 dX12_layRow_28 ?_
      refine lv_aload_n hx hb dX12_layRow_31 rfl (lv_at hl 2 rfl) ?_
      refine g_get cx hw inX12 (ci := 11) rfl 51 (by decide) rfl (v := .ref (ad 30)) shm_0 rfl fl_X12_106 dX12_layRow_32 ?_
      refine lv_iload_n hx hb dX12_layRow_35 rfl (lv_at hl 0 rfl) ?_
      refine g_iald cx hw shm_30 h dX12_layRow_36 (fun h => ?_)
      refine g_iast cx hw shm_74 h dX12_layRow_37 (fun μ5 H locs h hw => ?_)
      refine lv_aload_n hx hb dX12_layRow_38 rfl (lv_at hl 2 rfl) ?_
      refine g_get cx hw inX12 (ci := 11) rfl 121 (by decide) rfl (v := .ref (ad 75)) shm_0 rfl fl_X12_241 dX12_layRow_39 ?_
      refine lv_aload_n hx hb dX12_layRow_42 rfl (lv_at hl 2 rfl) ?_
      refine g_get cx hw inX12 (ci := 11) rfl 122 (by decide) rfl (v := .int (μ5.1 0 122)) shm_0 rfl fl_X12_797 dX12_layRow_43 ?_
      refine lv_aload_n hx hb dX12_layRow_46 rfl (lv_at hl 2 rfl) ?_
      refine g_get cx hw inX12 (ci := 11) rfl 51 (by decide) rfl (v := .ref (ad 30)) shm_0 rfl fl_X12_106 dX12_layRow_47 ?_
      refine lv_iload_n hx hb dX12_layRow_50 rfl (lv_at hl 0 rfl) ?_
      refine g_iald cx hw shm_30 h dX12_layRow_51 (fun h => ?_)
      refine lv_iconst (v := 2) hx hb dX12_layRow_52 (by decide) ?_
      refine lv_icmp_ne (tgt := 60) hx hb dX12_layRow_53 (by decide) (fun c6 => ?_) (fun c6 => ?_)
      · rw [if_neg c6] at h
        refine lv_aload_n hx hb dX12_layRow_60 rfl (lv_at hl 2 rfl) ?_
        refine g_get cx hw inX12 (ci := 11) rfl 52 (by decide) rfl (v := .ref (ad 31)) shm_0 rfl fl_X12_109 dX12_layRow_61 ?_
        refine lv_iload_n hx hb dX12_layRow_64 rfl (lv_at hl 0 rfl) ?_
        refine g_iald cx hw shm_31 h dX12_layRow_65 (fun h => ?_)
        exact t_X12_layRow_b66 l G ad av _ ih v3 v4 (μ5.1 31 v4.toNatClampNeg) (μ5.1 0 122) μ5 h p e s m below meth c A ls H locs cx hr hlk hA (lv_sub hl [2, 1, 0] rfl) hw
      · rw [if_pos c6] at h
        refine lv_iconst (v := 0) hx hb dX12_layRow_56 (by decide) ?_
        refine lv_goto (tgt := 66) hx hb dX12_layRow_57 (by decide) ?_
        exact t_X12_layRow_b66 l G ad av _ ih v3 v4 (0 : Int32) (μ5.1 0 122) μ5 h p e s m below meth c A ls H locs cx hr hlk hA (lv_sub hl [2, 1, 0] rfl) hw
theorem p_X12_layRow_ex : ∃ f : Int32 → Mem → Option Mem, ∀ (a1 : Int32) (μ : Mem), f a1 μ = gd (inb (0 : Int32) 200) (bv (sF μ 55 (0 : Int32).toNatClampNeg a1) (fun μ1 => p_X12_layRow_b9  FUEL (1 : Int32) μ1)) := ⟨fun (a1 : Int32) (μ : Mem) => gd (inb (0 : Int32) 200) (bv (sF μ 55 (0 : Int32).toNatClampNeg a1) (fun μ1 => p_X12_layRow_b9  FUEL (1 : Int32) μ1)), fun _ _ => rfl⟩
noncomputable def p_X12_layRow : Int32 → Mem → Option Mem := Classical.choose p_X12_layRow_ex
theorem p_X12_layRow_eq (a1 : Int32) (μ : Mem) : p_X12_layRow a1 μ = gd (inb (0 : Int32) 200) (bv (sF μ 55 (0 : Int32).toNatClampNeg a1) (fun μ1 => p_X12_layRow_b9  FUEL (1 : Int32) μ1)) := Classical.choose_spec p_X12_layRow_ex a1 μ
set_option maxHeartbeats 4000000 in
set_option maxRecDepth 100000 in
theorem t_X12_layRow (l : Launch) (G : Gt) (ad : Nat → Nat) (a1 : Int32) (μ : Mem) {μz : Mem} (h : p_X12_layRow a1 μ = some μz) : Mt l yX12_layRow cX12_layRow 4 none ({ frames := 0, cells := 0, slots := 0, locals := 0 } : Room) G [.ref (ad 0), .int a1] (wd 1 G ad μ) (eV 1 G ad μz) := by
  refine Bk.mt (by decide) rfl (Nat.le_of_ble_eq_true rfl) ?_
  intro p e s m below meth c A ls H locs cx hr hlk hA hl hw
  have hx := cx.1
  have hb := cx.2.1
  have hl : lv_has ls 4 [(0, .ref (ad 0)), (1, .int a1)] := hl
  rw [p_X12_layRow_eq] at h
  refine lv_iconst (v := 1) hx hb dX12_layRow_0 (by decide) ?_
  refine lv_istore_n (lv' := [(2, .int 1), (0, .ref (ad 0)), (1, .int a1)]) hx hb dX12_layRow_1 rfl hl (by decide) rfl (fun ls hl => ?_)
  refine lv_aload_n hx hb dX12_layRow_2 rfl (lv_at hl 1 rfl) ?_
  refine g_get cx hw inX12 (ci := 11) rfl 98 (by decide) rfl (v := .ref (ad 55)) shm_0 rfl fl_X12_181 dX12_layRow_3 ?_
  refine lv_iconst (v := 0) hx hb dX12_layRow_6 (by decide) ?_
  refine lv_iload_n hx hb dX12_layRow_7 rfl (lv_at hl 2 rfl) ?_
  refine g_iast cx hw shm_55 h dX12_layRow_8 (fun μ1 H locs h hw => ?_)
  exact t_X12_layRow_b9 l G ad _  FUEL (1 : Int32) μ1 h p e s m below meth c A ls H locs cx hr hlk hA (lv_sub hl [1, 0] rfl) hw

theorem p_X12_endRun_b75_ex : ∃ f : Int32 → Int32 → Int32 → Mem → Option Mem, ∀ (a1 : Int32) (k0 : Int32) (k1 : Int32) (μ : Mem), f a1 k0 k1 μ = gd (inb k1 6) (bv (sF μ 73 k1.toNatClampNeg k0) (fun μ7 => gd (inb (5 : Int32) 6) (bv (sF μ7 73 (5 : Int32).toNatClampNeg (μ7.1 0 77)) (fun μ8 => (if (μ8.1 0 68) = (0 : Int32) then bw (p_X12_layRow a1 μ8) (fun μ10 => some μ10) else some μ8))))) := ⟨fun (a1 : Int32) (k0 : Int32) (k1 : Int32) (μ : Mem) => gd (inb k1 6) (bv (sF μ 73 k1.toNatClampNeg k0) (fun μ7 => gd (inb (5 : Int32) 6) (bv (sF μ7 73 (5 : Int32).toNatClampNeg (μ7.1 0 77)) (fun μ8 => (if (μ8.1 0 68) = (0 : Int32) then bw (p_X12_layRow a1 μ8) (fun μ10 => some μ10) else some μ8))))), fun _ _ _ _ => rfl⟩
noncomputable def p_X12_endRun_b75 : Int32 → Int32 → Int32 → Mem → Option Mem := Classical.choose p_X12_endRun_b75_ex
theorem p_X12_endRun_b75_eq (a1 : Int32) (k0 : Int32) (k1 : Int32) (μ : Mem) : p_X12_endRun_b75 a1 k0 k1 μ = gd (inb k1 6) (bv (sF μ 73 k1.toNatClampNeg k0) (fun μ7 => gd (inb (5 : Int32) 6) (bv (sF μ7 73 (5 : Int32).toNatClampNeg (μ7.1 0 77)) (fun μ8 => (if (μ8.1 0 68) = (0 : Int32) then bw (p_X12_layRow a1 μ8) (fun μ10 => some μ10) else some μ8))))) := Classical.choose_spec p_X12_endRun_b75_ex a1 k0 k1 μ
set_option maxHeartbeats 4000000 in
set_option maxRecDepth 100000 in
theorem t_X12_endRun_b75 (l : Launch) (G : Gt) (ad : Nat → Nat) (av : List Value) {μz : Mem} (a1 : Int32) (k0 : Int32) (k1 : Int32) (μ : Mem) (h : p_X12_endRun_b75  a1 k0 k1 μ = some μz) : Bk l cX12_endRun 2 RX12 none ({ frames := 1, cells := 0, slots := 0, locals := 23 } : Room) G av (eV 1 G ad μz) (wd 1 G ad μ) 75 [(0, .ref (ad 0)), (1, .int a1)] [.int k0, .int k1, .ref (ad 73)] := by
  intro p e s m below meth c A ls H locs cx hr hlk hA hl hw
  have hx := cx.1
  have hb := cx.2.1
  rw [p_X12_endRun_b75_eq] at h
  refine g_iast cx hw shm_73 h dX12_endRun_75 (fun μ7 H locs h hw => ?_)
  refine lv_aload_n hx hb dX12_endRun_76 rfl (lv_at hl 0 rfl) ?_
  refine g_get cx hw inX12 (ci := 11) rfl 119 (by decide) rfl (v := .ref (ad 73)) shm_0 rfl fl_X12_235 dX12_endRun_77 ?_
  refine lv_iconst (v := 5) hx hb dX12_endRun_80 (by decide) ?_
  refine lv_aload_n hx hb dX12_endRun_81 rfl (lv_at hl 0 rfl) ?_
  refine g_get cx hw inX12 (ci := 11) rfl 77 (by decide) rfl (v := .int (μ7.1 0 77)) shm_0 rfl fl_X12_664 dX12_endRun_82 ?_
  refine g_iast cx hw shm_73 h dX12_endRun_85 (fun μ8 H locs h hw => ?_)
  refine lv_aload_n hx hb dX12_endRun_86 rfl (lv_at hl 0 rfl) ?_
  refine g_get cx hw inX12 (ci := 11) rfl 68 (by decide) rfl (v := .int (μ8.1 0 68)) shm_0 rfl fl_X12_557 dX12_endRun_87 ?_
  refine lv_if_ne (tgt := 98) hx hb dX12_endRun_90 (by decide) (fun c9 => ?_) (fun c9 => ?_)
  · rw [if_neg c9] at h
    exact g_vret cx hr hlk hw h dX12_endRun_98
  · rw [if_pos c9] at h
    refine lv_aload_n hx hb dX12_endRun_93 rfl (lv_at hl 0 rfl) ?_
    refine lv_iload_n hx hb dX12_endRun_94 rfl (lv_at hl 1 rfl) ?_
    obtain ⟨μ10, gμ10, h⟩ := bw_some h
    refine g_callVV (As := [.int a1]) (rest := []) cx hw hA (t_X12_layRow l G ad a1 μ8 gμ10) shm_0 rfl ml_X12_803 im_X12_layRow se_X12_layRow in_X12 co_X12_layRow rfl hd_X12_layRow rfl ⟨(Nat.le_of_ble_eq_true rfl), (Nat.le_of_ble_eq_true rfl)⟩ hl.1 rfl (Nat.le_of_ble_eq_true rfl) dX12_endRun_95 ⟨rfl, rfl⟩ (fun H locs hw => ?_)
    exact g_vret cx hr hlk hw h dX12_endRun_98
theorem p_X12_endRun_b52_ex : ∃ f : Int32 → Int32 → Int32 → Mem → Option Mem, ∀ (a1 : Int32) (k0 : Int32) (k1 : Int32) (μ : Mem), f a1 k0 k1 μ = gd (inb k1 6) (bv (sF μ 73 k1.toNatClampNeg k0) (fun μ5 => (if (μ5.1 0 68) = (0 : Int32) then gd (inb a1 100000) (p_X12_endRun_b75  a1 (μ5.1 34 a1.toNatClampNeg) (4 : Int32) μ5) else p_X12_endRun_b75  a1 (0 : Int32) (4 : Int32) μ5))) := ⟨fun (a1 : Int32) (k0 : Int32) (k1 : Int32) (μ : Mem) => gd (inb k1 6) (bv (sF μ 73 k1.toNatClampNeg k0) (fun μ5 => (if (μ5.1 0 68) = (0 : Int32) then gd (inb a1 100000) (p_X12_endRun_b75  a1 (μ5.1 34 a1.toNatClampNeg) (4 : Int32) μ5) else p_X12_endRun_b75  a1 (0 : Int32) (4 : Int32) μ5))), fun _ _ _ _ => rfl⟩
noncomputable def p_X12_endRun_b52 : Int32 → Int32 → Int32 → Mem → Option Mem := Classical.choose p_X12_endRun_b52_ex
theorem p_X12_endRun_b52_eq (a1 : Int32) (k0 : Int32) (k1 : Int32) (μ : Mem) : p_X12_endRun_b52 a1 k0 k1 μ = gd (inb k1 6) (bv (sF μ 73 k1.toNatClampNeg k0) (fun μ5 => (if (μ5.1 0 68) = (0 : Int32) then gd (inb a1 100000) (p_X12_endRun_b75  a1 (μ5.1 34 a1.toNatClampNeg) (4 : Int32) μ5) else p_X12_endRun_b75  a1 (0 : Int32) (4 : Int32) μ5))) := Classical.choose_spec p_X12_endRun_b52_ex a1 k0 k1 μ
set_option maxHeartbeats 4000000 in
set_option maxRecDepth 100000 in
theorem t_X12_endRun_b52 (l : Launch) (G : Gt) (ad : Nat → Nat) (av : List Value) {μz : Mem} (a1 : Int32) (k0 : Int32) (k1 : Int32) (μ : Mem) (h : p_X12_endRun_b52  a1 k0 k1 μ = some μz) : Bk l cX12_endRun 2 RX12 none ({ frames := 1, cells := 0, slots := 0, locals := 23 } : Room) G av (eV 1 G ad μz) (wd 1 G ad μ) 52 [(0, .ref (ad 0)), (1, .int a1)] [.int k0, .int k1, .ref (ad 73)] := by
  intro p e s m below meth c A ls H locs cx hr hlk hA hl hw
  have hx := cx.1
  have hb := cx.2.1
  rw [p_X12_endRun_b52_eq] at h
  refine g_iast cx hw shm_73 h dX12_endRun_52 (fun μ5 H locs h hw => ?_)
  refine lv_aload_n hx hb dX12_endRun_53 rfl (lv_at hl 0 rfl) ?_
  refine g_get cx hw inX12 (ci := 11) rfl 119 (by decide) rfl (v := .ref (ad 73)) shm_0 rfl fl_X12_235 dX12_endRun_54 ?_
  refine lv_iconst (v := 4) hx hb dX12_endRun_57 (by decide) ?_
  refine lv_aload_n hx hb dX12_endRun_58 rfl (lv_at hl 0 rfl) ?_
  refine g_get cx hw inX12 (ci := 11) rfl 68 (by decide) rfl (v := .int (μ5.1 0 68)) shm_0 rfl fl_X12_557 dX12_endRun_59 ?_
  refine lv_if_ne (tgt := 74) hx hb dX12_endRun_62 (by decide) (fun c6 => ?_) (fun c6 => ?_)
  · rw [if_neg c6] at h
    refine lv_iconst (v := 0) hx hb dX12_endRun_74 (by decide) ?_
    exact t_X12_endRun_b75 l G ad av  a1 (0 : Int32) (4 : Int32) μ5 h p e s m below meth c A ls H locs cx hr hlk hA (lv_sub hl [0, 1] rfl) hw
  · rw [if_pos c6] at h
    refine lv_aload_n hx hb dX12_endRun_65 rfl (lv_at hl 0 rfl) ?_
    refine g_get cx hw inX12 (ci := 11) rfl 55 (by decide) rfl (v := .ref (ad 34)) shm_0 rfl fl_X12_118 dX12_endRun_66 ?_
    refine lv_iload_n hx hb dX12_endRun_69 rfl (lv_at hl 1 rfl) ?_
    refine g_iald cx hw shm_34 h dX12_endRun_70 (fun h => ?_)
    refine lv_goto (tgt := 75) hx hb dX12_endRun_71 (by decide) ?_
    exact t_X12_endRun_b75 l G ad av  a1 (μ5.1 34 a1.toNatClampNeg) (4 : Int32) μ5 h p e s m below meth c A ls H locs cx hr hlk hA (lv_sub hl [0, 1] rfl) hw
theorem p_X12_endRun_ex : ∃ f : Int32 → Mem → Option Mem, ∀ (a1 : Int32) (μ : Mem), f a1 μ = gd (inb (0 : Int32) 6) (bv (sF μ 73 (0 : Int32).toNatClampNeg (μ.1 0 68)) (fun μ1 => gd (inb (1 : Int32) 6) (bv (sF μ1 73 (1 : Int32).toNatClampNeg (μ1.1 0 75)) (fun μ2 => gd (inb (2 : Int32) 6) (bv (sF μ2 73 (2 : Int32).toNatClampNeg (μ2.1 0 73)) (fun μ3 => (if (μ3.1 0 68) = (0 : Int32) then gd (inb a1 100000) (p_X12_endRun_b52  a1 (μ3.1 33 a1.toNatClampNeg) (3 : Int32) μ3) else p_X12_endRun_b52  a1 (0 : Int32) (3 : Int32) μ3))))))) := ⟨fun (a1 : Int32) (μ : Mem) => gd (inb (0 : Int32) 6) (bv (sF μ 73 (0 : Int32).toNatClampNeg (μ.1 0 68)) (fun μ1 => gd (inb (1 : Int32) 6) (bv (sF μ1 73 (1 : Int32).toNatClampNeg (μ1.1 0 75)) (fun μ2 => gd (inb (2 : Int32) 6) (bv (sF μ2 73 (2 : Int32).toNatClampNeg (μ2.1 0 73)) (fun μ3 => (if (μ3.1 0 68) = (0 : Int32) then gd (inb a1 100000) (p_X12_endRun_b52  a1 (μ3.1 33 a1.toNatClampNeg) (3 : Int32) μ3) else p_X12_endRun_b52  a1 (0 : Int32) (3 : Int32) μ3))))))), fun _ _ => rfl⟩
noncomputable def p_X12_endRun : Int32 → Mem → Option Mem := Classical.choose p_X12_endRun_ex
theorem p_X12_endRun_eq (a1 : Int32) (μ : Mem) : p_X12_endRun a1 μ = gd (inb (0 : Int32) 6) (bv (sF μ 73 (0 : Int32).toNatClampNeg (μ.1 0 68)) (fun μ1 => gd (inb (1 : Int32) 6) (bv (sF μ1 73 (1 : Int32).toNatClampNeg (μ1.1 0 75)) (fun μ2 => gd (inb (2 : Int32) 6) (bv (sF μ2 73 (2 : Int32).toNatClampNeg (μ2.1 0 73)) (fun μ3 => (if (μ3.1 0 68) = (0 : Int32) then gd (inb a1 100000) (p_X12_endRun_b52  a1 (μ3.1 33 a1.toNatClampNeg) (3 : Int32) μ3) else p_X12_endRun_b52  a1 (0 : Int32) (3 : Int32) μ3))))))) := Classical.choose_spec p_X12_endRun_ex a1 μ
set_option maxHeartbeats 4000000 in
set_option maxRecDepth 100000 in
theorem t_X12_endRun (l : Launch) (G : Gt) (ad : Nat → Nat) (a1 : Int32) (μ : Mem) {μz : Mem} (h : p_X12_endRun a1 μ = some μz) : Mt l yX12_endRun cX12_endRun 2 none ({ frames := 1, cells := 0, slots := 0, locals := 23 } : Room) G [.ref (ad 0), .int a1] (wd 1 G ad μ) (eV 1 G ad μz) := by
  refine Bk.mt (by decide) rfl (Nat.le_of_ble_eq_true rfl) ?_
  intro p e s m below meth c A ls H locs cx hr hlk hA hl hw
  have hx := cx.1
  have hb := cx.2.1
  have hl : lv_has ls 2 [(0, .ref (ad 0)), (1, .int a1)] := hl
  rw [p_X12_endRun_eq] at h
  refine lv_aload_n hx hb dX12_endRun_0 rfl (lv_at hl 0 rfl) ?_
  refine g_get cx hw inX12 (ci := 11) rfl 119 (by decide) rfl (v := .ref (ad 73)) shm_0 rfl fl_X12_235 dX12_endRun_1 ?_
  refine lv_iconst (v := 0) hx hb dX12_endRun_4 (by decide) ?_
  refine lv_aload_n hx hb dX12_endRun_5 rfl (lv_at hl 0 rfl) ?_
  refine g_get cx hw inX12 (ci := 11) rfl 68 (by decide) rfl (v := .int (μ.1 0 68)) shm_0 rfl fl_X12_557 dX12_endRun_6 ?_
  refine g_iast cx hw shm_73 h dX12_endRun_9 (fun μ1 H locs h hw => ?_)
  refine lv_aload_n hx hb dX12_endRun_10 rfl (lv_at hl 0 rfl) ?_
  refine g_get cx hw inX12 (ci := 11) rfl 119 (by decide) rfl (v := .ref (ad 73)) shm_0 rfl fl_X12_235 dX12_endRun_11 ?_
  refine lv_iconst (v := 1) hx hb dX12_endRun_14 (by decide) ?_
  refine lv_aload_n hx hb dX12_endRun_15 rfl (lv_at hl 0 rfl) ?_
  refine g_get cx hw inX12 (ci := 11) rfl 75 (by decide) rfl (v := .int (μ1.1 0 75)) shm_0 rfl fl_X12_658 dX12_endRun_16 ?_
  refine g_iast cx hw shm_73 h dX12_endRun_19 (fun μ2 H locs h hw => ?_)
  refine lv_aload_n hx hb dX12_endRun_20 rfl (lv_at hl 0 rfl) ?_
  refine g_get cx hw inX12 (ci := 11) rfl 119 (by decide) rfl (v := .ref (ad 73)) shm_0 rfl fl_X12_235 dX12_endRun_21 ?_
  refine lv_iconst (v := 2) hx hb dX12_endRun_24 (by decide) ?_
  refine lv_aload_n hx hb dX12_endRun_25 rfl (lv_at hl 0 rfl) ?_
  refine g_get cx hw inX12 (ci := 11) rfl 73 (by decide) rfl (v := .int (μ2.1 0 73)) shm_0 rfl fl_X12_649 dX12_endRun_26 ?_
  refine g_iast cx hw shm_73 h dX12_endRun_29 (fun μ3 H locs h hw => ?_)
  refine lv_aload_n hx hb dX12_endRun_30 rfl (lv_at hl 0 rfl) ?_
  refine g_get cx hw inX12 (ci := 11) rfl 119 (by decide) rfl (v := .ref (ad 73)) shm_0 rfl fl_X12_235 dX12_endRun_31 ?_
  refine lv_iconst (v := 3) hx hb dX12_endRun_34 (by decide) ?_
  refine lv_aload_n hx hb dX12_endRun_35 rfl (lv_at hl 0 rfl) ?_
  refine g_get cx hw inX12 (ci := 11) rfl 68 (by decide) rfl (v := .int (μ3.1 0 68)) shm_0 rfl fl_X12_557 dX12_endRun_36 ?_
  refine lv_if_ne (tgt := 51) hx hb dX12_endRun_39 (by decide) (fun c4 => ?_) (fun c4 => ?_)
  · rw [if_neg c4] at h
    refine lv_iconst (v := 0) hx hb dX12_endRun_51 (by decide) ?_
    exact t_X12_endRun_b52 l G ad _  a1 (0 : Int32) (3 : Int32) μ3 h p e s m below meth c A ls H locs cx hr hlk hA (lv_sub hl [0, 1] rfl) hw
  · rw [if_pos c4] at h
    refine lv_aload_n hx hb dX12_endRun_42 rfl (lv_at hl 0 rfl) ?_
    refine g_get cx hw inX12 (ci := 11) rfl 54 (by decide) rfl (v := .ref (ad 33)) shm_0 rfl fl_X12_115 dX12_endRun_43 ?_
    refine lv_iload_n hx hb dX12_endRun_46 rfl (lv_at hl 1 rfl) ?_
    refine g_iald cx hw shm_33 h dX12_endRun_47 (fun h => ?_)
    refine lv_goto (tgt := 52) hx hb dX12_endRun_48 (by decide) ?_
    exact t_X12_endRun_b52 l G ad _  a1 (μ3.1 33 a1.toNatClampNeg) (3 : Int32) μ3 h p e s m below meth c A ls H locs cx hr hlk hA (lv_sub hl [0, 1] rfl) hw

theorem p_X12_runTask_b99_ex : ∃ f : Mem → Option Mem, ∀  (μ : Mem), f  μ = (if (μ.1 0 68) = (0 : Int32) then bd (p_X12_gone μ) (fun r14 μ13 => bw (p_X12_endRun r14 μ13) (fun μ15 => some μ15)) else bw (p_X12_endRun (-1 : Int32) μ) (fun μ11 => some μ11)) := ⟨fun  (μ : Mem) => (if (μ.1 0 68) = (0 : Int32) then bd (p_X12_gone μ) (fun r14 μ13 => bw (p_X12_endRun r14 μ13) (fun μ15 => some μ15)) else bw (p_X12_endRun (-1 : Int32) μ) (fun μ11 => some μ11)), fun _ => rfl⟩
noncomputable def p_X12_runTask_b99 : Mem → Option Mem := Classical.choose p_X12_runTask_b99_ex
theorem p_X12_runTask_b99_eq  (μ : Mem) : p_X12_runTask_b99  μ = (if (μ.1 0 68) = (0 : Int32) then bd (p_X12_gone μ) (fun r14 μ13 => bw (p_X12_endRun r14 μ13) (fun μ15 => some μ15)) else bw (p_X12_endRun (-1 : Int32) μ) (fun μ11 => some μ11)) := Classical.choose_spec p_X12_runTask_b99_ex  μ
set_option maxHeartbeats 4000000 in
set_option maxRecDepth 100000 in
theorem t_X12_runTask_b99 (l : Launch) (G : Gt) (ad : Nat → Nat) (av : List Value) {μz : Mem}  (μ : Mem) (h : p_X12_runTask_b99   μ = some μz) : Bk l cX12_runTask 2 RX12 none ({ frames := 12, cells := 0, slots := 0, locals := 275 } : Room) G av (eV 1 G ad μz) (wd 1 G ad μ) 99 [(0, .ref (ad 0))] [] := by
  intro p e s m below meth c A ls H locs cx hr hlk hA hl hw
  have hx := cx.1
  have hb := cx.2.1
  rw [p_X12_runTask_b99_eq] at h
  refine lv_aload_n hx hb dX12_runTask_99 rfl (lv_at hl 0 rfl) ?_
  refine lv_aload_n hx hb dX12_runTask_100 rfl (lv_at hl 0 rfl) ?_
  refine g_get cx hw inX12 (ci := 11) rfl 68 (by decide) rfl (v := .int (μ.1 0 68)) shm_0 rfl fl_X12_557 dX12_runTask_101 ?_
  refine lv_if_ne (tgt := 114) hx hb dX12_runTask_104 (by decide) (fun c10 => ?_) (fun c10 => ?_)
  · rw [if_neg c10] at h
    refine lv_iconst (v := (-1)) hx hb dX12_runTask_114 (by decide) ?_
    obtain ⟨μ11, gμ11, h⟩ := bw_some h
    refine g_callVV (As := [.int (-1)]) (rest := []) cx hw hA (t_X12_endRun l G ad (-1 : Int32) μ gμ11) shm_0 rfl ml_X12_809 im_X12_endRun se_X12_endRun in_X12 co_X12_endRun rfl hd_X12_endRun rfl ⟨(Nat.le_of_ble_eq_true rfl), (Nat.le_of_ble_eq_true rfl)⟩ hl.1 rfl (Nat.le_of_ble_eq_true rfl) dX12_runTask_115 ⟨rfl, rfl⟩ (fun H locs hw => ?_)
    exact g_vret cx hr hlk hw h dX12_runTask_118
  · rw [if_pos c10] at h
    refine lv_aload_n hx hb dX12_runTask_107 rfl (lv_at hl 0 rfl) ?_
    obtain ⟨r14, μ13, gr14, h⟩ := bd_some h
    refine g_callVI (As := []) (rest := [.ref (ad 0)]) cx hw hA (t_X12_gone l G ad μ gr14) shm_0 rfl ml_X12_594 im_X12_gone se_X12_gone in_X12 co_X12_gone rfl hd_X12_gone rfl ⟨(Nat.le_of_ble_eq_true rfl), (Nat.le_of_ble_eq_true rfl)⟩ hl.1 rfl (Nat.le_of_ble_eq_true rfl) dX12_runTask_108 ⟨rfl, rfl⟩ (fun H locs hw => ?_)
    refine lv_goto (tgt := 115) hx hb dX12_runTask_111 (by decide) ?_
    obtain ⟨μ15, gμ15, h⟩ := bw_some h
    refine g_callVV (As := [.int r14]) (rest := []) cx hw hA (t_X12_endRun l G ad r14 μ13 gμ15) shm_0 rfl ml_X12_809 im_X12_endRun se_X12_endRun in_X12 co_X12_endRun rfl hd_X12_endRun rfl ⟨(Nat.le_of_ble_eq_true rfl), (Nat.le_of_ble_eq_true rfl)⟩ hl.1 rfl (Nat.le_of_ble_eq_true rfl) dX12_runTask_115 ⟨rfl, rfl⟩ (fun H locs hw => ?_)
    exact g_vret cx hr hlk hw h dX12_runTask_118
theorem p_X12_runTask_b76_ex : ∃ f : Int32 → Mem → Option Mem, ∀ (a1 : Int32) (μ : Mem), f a1 μ = (if (μ.1 0 68) = (0 : Int32) then bd (p_X12_beginsCall μ) (fun r18 μ17 => (if r18 = (0 : Int32) then p_X12_runTask_b99  μ17 else bw (p_X12_enter a1 μ17) (fun μ20 => bw (p_X12_goAll μ20) (fun μ22 => p_X12_runTask_b99  μ22)))) else p_X12_runTask_b99  μ) := ⟨fun (a1 : Int32) (μ : Mem) => (if (μ.1 0 68) = (0 : Int32) then bd (p_X12_beginsCall μ) (fun r18 μ17 => (if r18 = (0 : Int32) then p_X12_runTask_b99  μ17 else bw (p_X12_enter a1 μ17) (fun μ20 => bw (p_X12_goAll μ20) (fun μ22 => p_X12_runTask_b99  μ22)))) else p_X12_runTask_b99  μ), fun _ _ => rfl⟩
noncomputable def p_X12_runTask_b76 : Int32 → Mem → Option Mem := Classical.choose p_X12_runTask_b76_ex
theorem p_X12_runTask_b76_eq (a1 : Int32) (μ : Mem) : p_X12_runTask_b76 a1 μ = (if (μ.1 0 68) = (0 : Int32) then bd (p_X12_beginsCall μ) (fun r18 μ17 => (if r18 = (0 : Int32) then p_X12_runTask_b99  μ17 else bw (p_X12_enter a1 μ17) (fun μ20 => bw (p_X12_goAll μ20) (fun μ22 => p_X12_runTask_b99  μ22)))) else p_X12_runTask_b99  μ) := Classical.choose_spec p_X12_runTask_b76_ex a1 μ
set_option maxHeartbeats 4000000 in
set_option maxRecDepth 100000 in
theorem t_X12_runTask_b76 (l : Launch) (G : Gt) (ad : Nat → Nat) (av : List Value) {μz : Mem} (a1 : Int32) (μ : Mem) (h : p_X12_runTask_b76  a1 μ = some μz) : Bk l cX12_runTask 2 RX12 none ({ frames := 12, cells := 0, slots := 0, locals := 275 } : Room) G av (eV 1 G ad μz) (wd 1 G ad μ) 76 [(0, .ref (ad 0)), (1, .int a1)] [] := by
  intro p e s m below meth c A ls H locs cx hr hlk hA hl hw
  have hx := cx.1
  have hb := cx.2.1
  rw [p_X12_runTask_b76_eq] at h
  refine lv_aload_n hx hb dX12_runTask_76 rfl (lv_at hl 0 rfl) ?_
  refine g_get cx hw inX12 (ci := 11) rfl 68 (by decide) rfl (v := .int (μ.1 0 68)) shm_0 rfl fl_X12_557 dX12_runTask_77 ?_
  refine lv_if_ne (tgt := 99) hx hb dX12_runTask_80 (by decide) (fun c9 => ?_) (fun c9 => ?_)
  · rw [if_neg c9] at h
    exact t_X12_runTask_b99 l G ad av  μ h p e s m below meth c A ls H locs cx hr hlk hA (lv_sub hl [0] rfl) hw
  · rw [if_pos c9] at h
    refine lv_aload_n hx hb dX12_runTask_83 rfl (lv_at hl 0 rfl) ?_
    obtain ⟨r18, μ17, gr18, h⟩ := bd_some h
    refine g_callVI (As := []) (rest := []) cx hw hA (t_X12_beginsCall l G ad μ gr18) shm_0 rfl ml_X12_673 im_X12_beginsCall se_X12_beginsCall in_X12 co_X12_beginsCall rfl hd_X12_beginsCall rfl ⟨(Nat.le_of_ble_eq_true rfl), (Nat.le_of_ble_eq_true rfl)⟩ hl.1 rfl (Nat.le_of_ble_eq_true rfl) dX12_runTask_84 ⟨rfl, rfl⟩ (fun H locs hw => ?_)
    refine lv_if_eq (tgt := 99) hx hb dX12_runTask_87 (by decide) (fun c19 => ?_) (fun c19 => ?_)
    · rw [if_pos c19] at h
      exact t_X12_runTask_b99 l G ad av  μ17 h p e s m below meth c A ls H locs cx hr hlk hA (lv_sub hl [0] rfl) hw
    · rw [if_neg c19] at h
      refine lv_aload_n hx hb dX12_runTask_90 rfl (lv_at hl 0 rfl) ?_
      refine lv_iload_n hx hb dX12_runTask_91 rfl (lv_at hl 1 rfl) ?_
      obtain ⟨μ20, gμ20, h⟩ := bw_some h
      refine g_callVV (As := [.int a1]) (rest := []) cx hw hA (t_X12_enter l G ad a1 μ17 gμ20) shm_0 rfl ml_X12_676 im_X12_enter se_X12_enter in_X12 co_X12_enter rfl hd_X12_enter rfl ⟨(Nat.le_of_ble_eq_true rfl), (Nat.le_of_ble_eq_true rfl)⟩ hl.1 rfl (Nat.le_of_ble_eq_true rfl) dX12_runTask_92 ⟨rfl, rfl⟩ (fun H locs hw => ?_)
      refine lv_aload_n hx hb dX12_runTask_95 rfl (lv_at hl 0 rfl) ?_
      obtain ⟨μ22, gμ22, h⟩ := bw_some h
      refine g_callVV (As := []) (rest := []) cx hw hA (t_X12_goAll l G ad μ20 gμ22) shm_0 rfl ml_X12_767 im_X12_goAll se_X12_goAll in_X12 co_X12_goAll rfl hd_X12_goAll rfl ⟨(Nat.le_of_ble_eq_true rfl), (Nat.le_of_ble_eq_true rfl)⟩ hl.1 rfl (Nat.le_of_ble_eq_true rfl) dX12_runTask_96 ⟨rfl, rfl⟩ (fun H locs hw => ?_)
      exact t_X12_runTask_b99 l G ad av  μ22 h p e s m below meth c A ls H locs cx hr hlk hA (lv_sub hl [0] rfl) hw
theorem p_X12_runTask_b40_ex : ∃ f : (Int32 → Mem → Option Mem) → Int32 → Mem → Option Mem, ∀ (K11 : Int32 → Mem → Option Mem) (a1 : Int32) (μ : Mem), f K11 a1 μ = bv (a1 + 1) (fun v27 => K11 v27 μ) := ⟨fun (K11 : Int32 → Mem → Option Mem) (a1 : Int32) (μ : Mem) => bv (a1 + 1) (fun v27 => K11 v27 μ), fun _ _ _ => rfl⟩
noncomputable def p_X12_runTask_b40 : (Int32 → Mem → Option Mem) → Int32 → Mem → Option Mem := Classical.choose p_X12_runTask_b40_ex
theorem p_X12_runTask_b40_eq (K11 : Int32 → Mem → Option Mem) (a1 : Int32) (μ : Mem) : p_X12_runTask_b40 K11 a1 μ = bv (a1 + 1) (fun v27 => K11 v27 μ) := Classical.choose_spec p_X12_runTask_b40_ex K11 a1 μ
set_option maxHeartbeats 4000000 in
set_option maxRecDepth 100000 in
theorem t_X12_runTask_b40 (l : Launch) (G : Gt) (ad : Nat → Nat) (av : List Value) {μz : Mem} (K11 : Int32 → Mem → Option Mem) (hK11 : ∀ (z1 : Int32) (μ1 : Mem), K11 z1 μ1 = some μz → Bk l cX12_runTask 2 RX12 none ({ frames := 12, cells := 0, slots := 0, locals := 275 } : Room) G av (eV 1 G ad μz) (wd 1 G ad μ1) 11 [(0, .ref (ad 0)), (1, .int z1)] []) (a1 : Int32) (μ : Mem) (h : p_X12_runTask_b40 K11 a1 μ = some μz) : Bk l cX12_runTask 2 RX12 none ({ frames := 12, cells := 0, slots := 0, locals := 275 } : Room) G av (eV 1 G ad μz) (wd 1 G ad μ) 40 [(0, .ref (ad 0)), (1, .int a1)] [] := by
  intro p e s m below meth c A ls H locs cx hr hlk hA hl hw
  have hx := cx.1
  have hb := cx.2.1
  rw [p_X12_runTask_b40_eq] at h
  obtain ⟨v27, ev27, h⟩ := bv_ex h
  refine lv_iinc (v := v27) (lv' := [(1, .int v27), (0, .ref (ad 0))]) hx hb dX12_runTask_40 hl (k := 1) rfl (by rw [ev27]; rfl) (by decide) rfl (fun ls hl => ?_)
  refine lv_goto (tgt := 11) hx hb dX12_runTask_43 (by decide) ?_
  exact hK11 v27 μ h p e s m below meth c A ls H locs cx hr hlk hA (lv_sub hl [1, 0] rfl) hw
theorem p_X12_runTask_b11_ex : ∃ f : Nat → Int32 → Mem → Option Mem, (∀ (a1 : Int32) (μ : Mem), f  0 a1 μ = none) ∧ (∀ (n : Nat) (a1 : Int32) (μ : Mem), f  (n + 1) a1 μ = (if (μ.1 0 43) ≤ a1 then bd (p_X12_functionOf (μ.1 0 42) (μ.1 0 43) μ) (fun r7 μ6 => (if (μ6.1 0 68) = (0 : Int32) then (if r7 = (-1 : Int32) then bv (sF μ6 0 68 (4 : Int32)) (fun μ25 => p_X12_runTask_b76  r7 μ25) else p_X12_runTask_b76  r7 μ6) else p_X12_runTask_b76  r7 μ6)) else gd (inb a1 5) (gd (inb (μ.1 45 a1.toNatClampNeg) 100000) ((if (μ.1 33 (μ.1 45 a1.toNatClampNeg).toNatClampNeg) ≤ (40 : Int32) then p_X12_runTask_b40 (f n) a1 μ else bv (sF μ 0 68 (2 : Int32)) (fun μ28 => p_X12_runTask_b40 (f n) a1 μ28)))))) := ⟨fun n => Nat.rec (fun (a1 : Int32) (μ : Mem) => none) (fun _ ih => fun (a1 : Int32) (μ : Mem) => (if (μ.1 0 43) ≤ a1 then bd (p_X12_functionOf (μ.1 0 42) (μ.1 0 43) μ) (fun r7 μ6 => (if (μ6.1 0 68) = (0 : Int32) then (if r7 = (-1 : Int32) then bv (sF μ6 0 68 (4 : Int32)) (fun μ25 => p_X12_runTask_b76  r7 μ25) else p_X12_runTask_b76  r7 μ6) else p_X12_runTask_b76  r7 μ6)) else gd (inb a1 5) (gd (inb (μ.1 45 a1.toNatClampNeg) 100000) ((if (μ.1 33 (μ.1 45 a1.toNatClampNeg).toNatClampNeg) ≤ (40 : Int32) then p_X12_runTask_b40 (ih) a1 μ else bv (sF μ 0 68 (2 : Int32)) (fun μ28 => p_X12_runTask_b40 (ih) a1 μ28)))))) n, fun  _ _ => rfl, fun  _ _ _ => rfl⟩
noncomputable def p_X12_runTask_b11 : Nat → Int32 → Mem → Option Mem := Classical.choose p_X12_runTask_b11_ex
theorem p_X12_runTask_b11_z (a1 : Int32) (μ : Mem) : p_X12_runTask_b11  0 a1 μ = none := (Classical.choose_spec p_X12_runTask_b11_ex).1  a1 μ
theorem p_X12_runTask_b11_s (n : Nat) (a1 : Int32) (μ : Mem) : p_X12_runTask_b11  (n + 1) a1 μ = (if (μ.1 0 43) ≤ a1 then bd (p_X12_functionOf (μ.1 0 42) (μ.1 0 43) μ) (fun r7 μ6 => (if (μ6.1 0 68) = (0 : Int32) then (if r7 = (-1 : Int32) then bv (sF μ6 0 68 (4 : Int32)) (fun μ25 => p_X12_runTask_b76  r7 μ25) else p_X12_runTask_b76  r7 μ6) else p_X12_runTask_b76  r7 μ6)) else gd (inb a1 5) (gd (inb (μ.1 45 a1.toNatClampNeg) 100000) ((if (μ.1 33 (μ.1 45 a1.toNatClampNeg).toNatClampNeg) ≤ (40 : Int32) then p_X12_runTask_b40 (p_X12_runTask_b11  n) a1 μ else bv (sF μ 0 68 (2 : Int32)) (fun μ28 => p_X12_runTask_b40 (p_X12_runTask_b11  n) a1 μ28))))) := (Classical.choose_spec p_X12_runTask_b11_ex).2  n a1 μ
set_option maxHeartbeats 4000000 in
set_option maxRecDepth 100000 in
theorem t_X12_runTask_b11 (l : Launch) (G : Gt) (ad : Nat → Nat) (av : List Value) {μz : Mem} : ∀ (n : Nat) (a1 : Int32) (μ : Mem), p_X12_runTask_b11  n a1 μ = some μz → Bk l cX12_runTask 2 RX12 none ({ frames := 12, cells := 0, slots := 0, locals := 275 } : Room) G av (eV 1 G ad μz) (wd 1 G ad μ) 11 [(0, .ref (ad 0)), (1, .int a1)] [] := by
  intro n
  induction n with
  | zero => intro a1 μ h; rw [p_X12_runTask_b11_z] at h; cases h
  | succ n ih =>
    intro a1 μ h p e s m below meth c A ls H locs cx hr hlk hA hl hw
    have hx := cx.1
    have hb := cx.2.1
    rw [p_X12_runTask_b11_s] at h
    refine lv_iload_n hx hb dX12_runTask_11 rfl (lv_at hl 1 rfl) ?_
    refine lv_aload_n hx hb dX12_runTask_12 rfl (lv_at hl 0 rfl) ?_
    refine g_get cx hw inX12 (ci := 11) rfl 43 (by decide) rfl (v := .int (μ.1 0 43)) shm_0 rfl fl_X12_503 dX12_runTask_13 ?_
    refine lv_icmp_ge (tgt := 46) hx hb dX12_runTask_16 (by decide) (fun c5 => ?_) (fun c5 => ?_)
    · rw [if_pos c5] at h
      refine lv_aload_n hx hb dX12_runTask_46 rfl (lv_at hl 0 rfl) ?_
      refine lv_aload_n hx hb dX12_runTask_47 rfl (lv_at hl 0 rfl) ?_
      refine g_get cx hw inX12 (ci := 11) rfl 42 (by decide) rfl (v := .int (μ.1 0 42)) shm_0 rfl fl_X12_99 dX12_runTask_48 ?_
      refine lv_aload_n hx hb dX12_runTask_51 rfl (lv_at hl 0 rfl) ?_
      refine g_get cx hw inX12 (ci := 11) rfl 43 (by decide) rfl (v := .int (μ.1 0 43)) shm_0 rfl fl_X12_503 dX12_runTask_52 ?_
      obtain ⟨r7, μ6, gr7, h⟩ := bd_some h
      refine g_callVI (As := [.int (μ.1 0 42), .int (μ.1 0 43)]) (rest := []) cx hw hA (t_X12_functionOf l G ad (μ.1 0 42) (μ.1 0 43) μ gr7) shm_0 rfl ml_X12_667 im_X12_functionOf se_X12_functionOf in_X12 co_X12_functionOf rfl hd_X12_functionOf rfl ⟨(Nat.le_of_ble_eq_true rfl), (Nat.le_of_ble_eq_true rfl)⟩ hl.1 rfl (Nat.le_of_ble_eq_true rfl) dX12_runTask_55 ⟨rfl, rfl⟩ (fun H locs hw => ?_)
      refine lv_istore_n (lv' := [(1, .int r7), (0, .ref (ad 0))]) hx hb dX12_runTask_58 rfl hl (by decide) rfl (fun ls hl => ?_)
      refine lv_aload_n hx hb dX12_runTask_59 rfl (lv_at hl 1 rfl) ?_
      refine g_get cx hw inX12 (ci := 11) rfl 68 (by decide) rfl (v := .int (μ6.1 0 68)) shm_0 rfl fl_X12_557 dX12_runTask_60 ?_
      refine lv_if_ne (tgt := 76) hx hb dX12_runTask_63 (by decide) (fun c8 => ?_) (fun c8 => ?_)
      · rw [if_neg c8] at h
        exact t_X12_runTask_b76 l G ad av  r7 μ6 h p e s m below meth c A ls H locs cx hr hlk hA (lv_sub hl [1, 0] rfl) hw
      · rw [if_pos c8] at h
        refine lv_iload_n hx hb dX12_runTask_66 rfl (lv_at hl 0 rfl) ?_
        refine lv_iconst (v := (-1)) hx hb dX12_runTask_67 (by decide) ?_
        refine lv_icmp_ne (tgt := 76) hx hb dX12_runTask_68 (by decide) (fun c24 => ?_) (fun c24 => ?_)
        · rw [if_neg c24] at h
          exact t_X12_runTask_b76 l G ad av  r7 μ6 h p e s m below meth c A ls H locs cx hr hlk hA (lv_sub hl [1, 0] rfl) hw
        · rw [if_pos c24] at h
          refine lv_aload_n hx hb dX12_runTask_71 rfl (lv_at hl 1 rfl) ?_
          refine lv_iconst (v := 4) hx hb dX12_runTask_72 (by decide) ?_
          refine g_put cx hw inX12 (ci := 11) rfl tyX12_ok nmX12 68 (by decide) rfl rfl rfl rfl shm_0 h fl_X12_557 dX12_runTask_73 (fun μ25 H locs h hw => ?_)
          exact t_X12_runTask_b76 l G ad av  r7 μ25 h p e s m below meth c A ls H locs cx hr hlk hA (lv_sub hl [1, 0] rfl) hw
    · rw [if_neg c5] at h
      refine lv_aload_n hx hb dX12_runTask_19 rfl (lv_at hl 0 rfl) ?_
      refine g_get cx hw inX12 (ci := 11) rfl 54 (by decide) rfl (v := .ref (ad 33)) shm_0 rfl fl_X12_115 dX12_runTask_20 ?_
      refine lv_aload_n hx hb dX12_runTask_23 rfl (lv_at hl 0 rfl) ?_
      refine g_get cx hw inX12 (ci := 11) rfl 74 (by decide) rfl (v := .ref (ad 45)) shm_0 rfl fl_X12_151 dX12_runTask_24 ?_
      refine lv_iload_n hx hb dX12_runTask_27 rfl (lv_at hl 1 rfl) ?_
      refine g_iald cx hw shm_45 h dX12_runTask_28 (fun h => ?_)
      refine g_iald cx hw shm_33 h dX12_runTask_29 (fun h => ?_)
      refine lv_bipush (v := 40) hx hb dX12_runTask_30 (by decide) ?_
      refine lv_icmp_le (tgt := 40) hx hb dX12_runTask_32 (by decide) (fun c26 => ?_) (fun c26 => ?_)
      · rw [if_pos c26] at h
        exact t_X12_runTask_b40 l G ad av _ ih a1 μ h p e s m below meth c A ls H locs cx hr hlk hA (lv_sub hl [0, 1] rfl) hw
      · rw [if_neg c26] at h
        refine lv_aload_n hx hb dX12_runTask_35 rfl (lv_at hl 0 rfl) ?_
        refine lv_iconst (v := 2) hx hb dX12_runTask_36 (by decide) ?_
        refine g_put cx hw inX12 (ci := 11) rfl tyX12_ok nmX12 68 (by decide) rfl rfl rfl rfl shm_0 h fl_X12_557 dX12_runTask_37 (fun μ28 H locs h hw => ?_)
        exact t_X12_runTask_b40 l G ad av _ ih a1 μ28 h p e s m below meth c A ls H locs cx hr hlk hA (lv_sub hl [0, 1] rfl) hw
theorem p_X12_runTask_ex : ∃ f : Mem → Option Mem, ∀  (μ : Mem), f  μ = bw (p_X12_beginRun μ) (fun μ1 => bw (p_X12_buildTask (1 : Int32) μ1) (fun μ3 => p_X12_runTask_b11  FUEL (0 : Int32) μ3)) := ⟨fun  (μ : Mem) => bw (p_X12_beginRun μ) (fun μ1 => bw (p_X12_buildTask (1 : Int32) μ1) (fun μ3 => p_X12_runTask_b11  FUEL (0 : Int32) μ3)), fun _ => rfl⟩
noncomputable def p_X12_runTask : Mem → Option Mem := Classical.choose p_X12_runTask_ex
theorem p_X12_runTask_eq  (μ : Mem) : p_X12_runTask  μ = bw (p_X12_beginRun μ) (fun μ1 => bw (p_X12_buildTask (1 : Int32) μ1) (fun μ3 => p_X12_runTask_b11  FUEL (0 : Int32) μ3)) := Classical.choose_spec p_X12_runTask_ex  μ
set_option maxHeartbeats 4000000 in
set_option maxRecDepth 100000 in
theorem t_X12_runTask (l : Launch) (G : Gt) (ad : Nat → Nat)  (μ : Mem) {μz : Mem} (h : p_X12_runTask  μ = some μz) : Mt l yX12_runTask cX12_runTask 2 none ({ frames := 12, cells := 0, slots := 0, locals := 275 } : Room) G [.ref (ad 0)] (wd 1 G ad μ) (eV 1 G ad μz) := by
  refine Bk.mt (by decide) rfl (Nat.le_of_ble_eq_true rfl) ?_
  intro p e s m below meth c A ls H locs cx hr hlk hA hl hw
  have hx := cx.1
  have hb := cx.2.1
  have hl : lv_has ls 2 [(0, .ref (ad 0))] := hl
  rw [p_X12_runTask_eq] at h
  refine lv_aload_n hx hb dX12_runTask_0 rfl (lv_at hl 0 rfl) ?_
  obtain ⟨μ1, gμ1, h⟩ := bw_some h
  refine g_callVV (As := []) (rest := []) cx hw hA (t_X12_beginRun l G ad μ gμ1) shm_0 rfl ml_X12_806 im_X12_beginRun se_X12_beginRun in_X12 co_X12_beginRun rfl hd_X12_beginRun rfl ⟨(Nat.le_of_ble_eq_true rfl), (Nat.le_of_ble_eq_true rfl)⟩ hl.1 rfl (Nat.le_of_ble_eq_true rfl) dX12_runTask_1 ⟨rfl, rfl⟩ (fun H locs hw => ?_)
  refine lv_aload_n hx hb dX12_runTask_4 rfl (lv_at hl 0 rfl) ?_
  refine lv_iconst (v := 1) hx hb dX12_runTask_5 (by decide) ?_
  obtain ⟨μ3, gμ3, h⟩ := bw_some h
  refine g_callVV (As := [.int 1]) (rest := []) cx hw hA (t_X12_buildTask l G ad (1 : Int32) μ1 gμ3) shm_0 rfl ml_X12_770 im_X12_buildTask se_X12_buildTask in_X12 co_X12_buildTask rfl hd_X12_buildTask rfl ⟨(Nat.le_of_ble_eq_true rfl), (Nat.le_of_ble_eq_true rfl)⟩ hl.1 rfl (Nat.le_of_ble_eq_true rfl) dX12_runTask_6 ⟨rfl, rfl⟩ (fun H locs hw => ?_)
  refine lv_iconst (v := 0) hx hb dX12_runTask_9 (by decide) ?_
  refine lv_istore_n (lv' := [(1, .int 0), (0, .ref (ad 0))]) hx hb dX12_runTask_10 rfl hl (by decide) rfl (fun ls hl => ?_)
  exact t_X12_runTask_b11 l G ad _  FUEL (0 : Int32) μ3 h p e s m below meth c A ls H locs cx hr hlk hA (lv_sub hl [1, 0] rfl) hw

theorem p_X12_enterVariant_ex : ∃ f : Int32 → Int32 → Mem → Option Mem, ∀ (a1 : Int32) (a2 : Int32) (μ : Mem), f a1 a2 μ = gd (inb ((μ.1 0 76) - (1 : Int32)) 31) (bv (sF μ 77 ((μ.1 0 76) - (1 : Int32)).toNatClampNeg a2) (fun μ1 => gd (inb ((μ1.1 0 76) - (1 : Int32)) 31) (bv (sF μ1 78 ((μ1.1 0 76) - (1 : Int32)).toNatClampNeg a1) (fun μ2 => some μ2)))) := ⟨fun (a1 : Int32) (a2 : Int32) (μ : Mem) => gd (inb ((μ.1 0 76) - (1 : Int32)) 31) (bv (sF μ 77 ((μ.1 0 76) - (1 : Int32)).toNatClampNeg a2) (fun μ1 => gd (inb ((μ1.1 0 76) - (1 : Int32)) 31) (bv (sF μ1 78 ((μ1.1 0 76) - (1 : Int32)).toNatClampNeg a1) (fun μ2 => some μ2)))), fun _ _ _ => rfl⟩
noncomputable def p_X12_enterVariant : Int32 → Int32 → Mem → Option Mem := Classical.choose p_X12_enterVariant_ex
theorem p_X12_enterVariant_eq (a1 : Int32) (a2 : Int32) (μ : Mem) : p_X12_enterVariant a1 a2 μ = gd (inb ((μ.1 0 76) - (1 : Int32)) 31) (bv (sF μ 77 ((μ.1 0 76) - (1 : Int32)).toNatClampNeg a2) (fun μ1 => gd (inb ((μ1.1 0 76) - (1 : Int32)) 31) (bv (sF μ1 78 ((μ1.1 0 76) - (1 : Int32)).toNatClampNeg a1) (fun μ2 => some μ2)))) := Classical.choose_spec p_X12_enterVariant_ex a1 a2 μ
set_option maxHeartbeats 4000000 in
set_option maxRecDepth 100000 in
theorem t_X12_enterVariant (l : Launch) (G : Gt) (ad : Nat → Nat) (a1 : Int32) (a2 : Int32) (μ : Mem) {μz : Mem} (h : p_X12_enterVariant a1 a2 μ = some μz) : Mt l yX12_enterVariant cX12_enterVariant 3 none ({ frames := 0, cells := 0, slots := 0, locals := 0 } : Room) G [.ref (ad 0), .int a1, .int a2] (wd 1 G ad μ) (eV 1 G ad μz) := by
  refine Bk.mt (by decide) rfl (Nat.le_of_ble_eq_true rfl) ?_
  intro p e s m below meth c A ls H locs cx hr hlk hA hl hw
  have hx := cx.1
  have hb := cx.2.1
  have hl : lv_has ls 3 [(0, .ref (ad 0)), (1, .int a1), (2, .int a2)] := hl
  rw [p_X12_enterVariant_eq] at h
  refine lv_aload_n hx hb dX12_enterVariant_0 rfl (lv_at hl 0 rfl) ?_
  refine g_get cx hw inX12 (ci := 11) rfl 124 (by decide) rfl (v := .ref (ad 77)) shm_0 rfl fl_X12_247 dX12_enterVariant_1 ?_
  refine lv_aload_n hx hb dX12_enterVariant_4 rfl (lv_at hl 0 rfl) ?_
  refine g_get cx hw inX12 (ci := 11) rfl 76 (by decide) rfl (v := .int (μ.1 0 76)) shm_0 rfl fl_X12_661 dX12_enterVariant_5 ?_
  refine lv_iconst (v := 1) hx hb dX12_enterVariant_8 (by decide) ?_
  refine lv_isub hx hb dX12_enterVariant_9 ?_
  refine lv_iload_n hx hb dX12_enterVariant_10 rfl (lv_at hl 2 rfl) ?_
  refine g_iast cx hw shm_77 h dX12_enterVariant_11 (fun μ1 H locs h hw => ?_)
  refine lv_aload_n hx hb dX12_enterVariant_12 rfl (lv_at hl 0 rfl) ?_
  refine g_get cx hw inX12 (ci := 11) rfl 125 (by decide) rfl (v := .ref (ad 78)) shm_0 rfl fl_X12_250 dX12_enterVariant_13 ?_
  refine lv_aload_n hx hb dX12_enterVariant_16 rfl (lv_at hl 0 rfl) ?_
  refine g_get cx hw inX12 (ci := 11) rfl 76 (by decide) rfl (v := .int (μ1.1 0 76)) shm_0 rfl fl_X12_661 dX12_enterVariant_17 ?_
  refine lv_iconst (v := 1) hx hb dX12_enterVariant_20 (by decide) ?_
  refine lv_isub hx hb dX12_enterVariant_21 ?_
  refine lv_iload_n hx hb dX12_enterVariant_22 rfl (lv_at hl 1 rfl) ?_
  refine g_iast cx hw shm_78 h dX12_enterVariant_23 (fun μ2 H locs h hw => ?_)
  exact g_vret cx hr hlk hw h dX12_enterVariant_24

theorem p_X12_valueOf_ex : ∃ f : Int32 → Mem → Option (Int32 × Mem), ∀ (a1 : Int32) (μ : Mem), f a1 μ = gd (inb a1 4200) ((if (μ.1 53 a1.toNatClampNeg) = (3 : Int32) then gd (inb a1 4200) (gd (inb ((μ.1 0 126) + (μ.1 54 a1.toNatClampNeg)) 10000) (some ((μ.1 76 ((μ.1 0 126) + (μ.1 54 a1.toNatClampNeg)).toNatClampNeg), μ))) else gd (inb a1 4200) (gd (inb a1 4200) (bd (p_X12_node (μ.1 53 a1.toNatClampNeg) (μ.1 54 a1.toNatClampNeg) μ) (fun r3 μ2 => some (r3, μ2)))))) := ⟨fun (a1 : Int32) (μ : Mem) => gd (inb a1 4200) ((if (μ.1 53 a1.toNatClampNeg) = (3 : Int32) then gd (inb a1 4200) (gd (inb ((μ.1 0 126) + (μ.1 54 a1.toNatClampNeg)) 10000) (some ((μ.1 76 ((μ.1 0 126) + (μ.1 54 a1.toNatClampNeg)).toNatClampNeg), μ))) else gd (inb a1 4200) (gd (inb a1 4200) (bd (p_X12_node (μ.1 53 a1.toNatClampNeg) (μ.1 54 a1.toNatClampNeg) μ) (fun r3 μ2 => some (r3, μ2)))))), fun _ _ => rfl⟩
noncomputable def p_X12_valueOf : Int32 → Mem → Option (Int32 × Mem) := Classical.choose p_X12_valueOf_ex
theorem p_X12_valueOf_eq (a1 : Int32) (μ : Mem) : p_X12_valueOf a1 μ = gd (inb a1 4200) ((if (μ.1 53 a1.toNatClampNeg) = (3 : Int32) then gd (inb a1 4200) (gd (inb ((μ.1 0 126) + (μ.1 54 a1.toNatClampNeg)) 10000) (some ((μ.1 76 ((μ.1 0 126) + (μ.1 54 a1.toNatClampNeg)).toNatClampNeg), μ))) else gd (inb a1 4200) (gd (inb a1 4200) (bd (p_X12_node (μ.1 53 a1.toNatClampNeg) (μ.1 54 a1.toNatClampNeg) μ) (fun r3 μ2 => some (r3, μ2)))))) := Classical.choose_spec p_X12_valueOf_ex a1 μ
set_option maxHeartbeats 4000000 in
set_option maxRecDepth 100000 in
theorem t_X12_valueOf (l : Launch) (G : Gt) (ad : Nat → Nat) (a1 : Int32) (μ : Mem) {r : Int32} {μz : Mem} (h : p_X12_valueOf a1 μ = some (r, μz)) : Mt l yX12_valueOf cX12_valueOf 2 (some .int) ({ frames := 1, cells := 0, slots := 0, locals := 22 } : Room) G [.ref (ad 0), .int a1] (wd 1 G ad μ) (eI 1 G ad r μz) := by
  refine Bk.mt (by decide) rfl (Nat.le_of_ble_eq_true rfl) ?_
  intro p e s m below meth c A ls H locs cx hr hlk hA hl hw
  have hx := cx.1
  have hb := cx.2.1
  have hl : lv_has ls 2 [(0, .ref (ad 0)), (1, .int a1)] := hl
  rw [p_X12_valueOf_eq] at h
  refine lv_aload_n hx hb dX12_valueOf_0 rfl (lv_at hl 0 rfl) ?_
  refine g_get cx hw inX12 (ci := 11) rfl 85 (by decide) rfl (v := .ref (ad 53)) shm_0 rfl fl_X12_175 dX12_valueOf_1 ?_
  refine lv_iload_n hx hb dX12_valueOf_4 rfl (lv_at hl 1 rfl) ?_
  refine g_iald cx hw shm_53 h dX12_valueOf_5 (fun h => ?_)
  refine lv_iconst (v := 3) hx hb dX12_valueOf_6 (by decide) ?_
  refine lv_icmp_ne (tgt := 29) hx hb dX12_valueOf_7 (by decide) (fun c1 => ?_) (fun c1 => ?_)
  · rw [if_neg c1] at h
    refine lv_aload_n hx hb dX12_valueOf_29 rfl (lv_at hl 0 rfl) ?_
    refine lv_aload_n hx hb dX12_valueOf_30 rfl (lv_at hl 0 rfl) ?_
    refine g_get cx hw inX12 (ci := 11) rfl 85 (by decide) rfl (v := .ref (ad 53)) shm_0 rfl fl_X12_175 dX12_valueOf_31 ?_
    refine lv_iload_n hx hb dX12_valueOf_34 rfl (lv_at hl 1 rfl) ?_
    refine g_iald cx hw shm_53 h dX12_valueOf_35 (fun h => ?_)
    refine lv_aload_n hx hb dX12_valueOf_36 rfl (lv_at hl 0 rfl) ?_
    refine g_get cx hw inX12 (ci := 11) rfl 86 (by decide) rfl (v := .ref (ad 54)) shm_0 rfl fl_X12_178 dX12_valueOf_37 ?_
    refine lv_iload_n hx hb dX12_valueOf_40 rfl (lv_at hl 1 rfl) ?_
    refine g_iald cx hw shm_54 h dX12_valueOf_41 (fun h => ?_)
    obtain ⟨r3, μ2, gr3, h⟩ := bd_some h
    refine g_callVI (As := [.int (μ.1 53 a1.toNatClampNeg), .int (μ.1 54 a1.toNatClampNeg)]) (rest := []) cx hw hA (t_X12_node l G ad (μ.1 53 a1.toNatClampNeg) (μ.1 54 a1.toNatClampNeg) μ gr3) shm_0 rfl ml_X12_527 im_X12_node se_X12_node in_X12 co_X12_node rfl hd_X12_node rfl ⟨(Nat.le_of_ble_eq_true rfl), (Nat.le_of_ble_eq_true rfl)⟩ hl.1 rfl (Nat.le_of_ble_eq_true rfl) dX12_valueOf_42 ⟨rfl, rfl⟩ (fun H locs hw => ?_)
    exact g_iret cx hr hlk hw h dX12_valueOf_45
  · rw [if_pos c1] at h
    refine lv_aload_n hx hb dX12_valueOf_10 rfl (lv_at hl 0 rfl) ?_
    refine g_get cx hw inX12 (ci := 11) rfl 123 (by decide) rfl (v := .ref (ad 76)) shm_0 rfl fl_X12_244 dX12_valueOf_11 ?_
    refine lv_aload_n hx hb dX12_valueOf_14 rfl (lv_at hl 0 rfl) ?_
    refine g_get cx hw inX12 (ci := 11) rfl 126 (by decide) rfl (v := .int (μ.1 0 126)) shm_0 rfl fl_X12_812 dX12_valueOf_15 ?_
    refine lv_aload_n hx hb dX12_valueOf_18 rfl (lv_at hl 0 rfl) ?_
    refine g_get cx hw inX12 (ci := 11) rfl 86 (by decide) rfl (v := .ref (ad 54)) shm_0 rfl fl_X12_178 dX12_valueOf_19 ?_
    refine lv_iload_n hx hb dX12_valueOf_22 rfl (lv_at hl 1 rfl) ?_
    refine g_iald cx hw shm_54 h dX12_valueOf_23 (fun h => ?_)
    refine lv_iadd hx hb dX12_valueOf_24 ?_
    refine g_iald cx hw shm_76 h dX12_valueOf_25 (fun h => ?_)
    refine lv_goto (tgt := 45) hx hb dX12_valueOf_26 (by decide) ?_
    exact g_iret cx hr hlk hw h dX12_valueOf_45

theorem p_X12_hold_ex : ∃ f : Int32 → Int32 → Mem → Option Mem, ∀ (a1 : Int32) (a2 : Int32) (μ : Mem), f a1 a2 μ = gd (inb a1 960) (gd (inb ((μ.1 0 126) + (μ.1 47 a1.toNatClampNeg)) 10000) (bv (sF μ 76 ((μ.1 0 126) + (μ.1 47 a1.toNatClampNeg)).toNatClampNeg a2) (fun μ1 => some μ1))) := ⟨fun (a1 : Int32) (a2 : Int32) (μ : Mem) => gd (inb a1 960) (gd (inb ((μ.1 0 126) + (μ.1 47 a1.toNatClampNeg)) 10000) (bv (sF μ 76 ((μ.1 0 126) + (μ.1 47 a1.toNatClampNeg)).toNatClampNeg a2) (fun μ1 => some μ1))), fun _ _ _ => rfl⟩
noncomputable def p_X12_hold : Int32 → Int32 → Mem → Option Mem := Classical.choose p_X12_hold_ex
theorem p_X12_hold_eq (a1 : Int32) (a2 : Int32) (μ : Mem) : p_X12_hold a1 a2 μ = gd (inb a1 960) (gd (inb ((μ.1 0 126) + (μ.1 47 a1.toNatClampNeg)) 10000) (bv (sF μ 76 ((μ.1 0 126) + (μ.1 47 a1.toNatClampNeg)).toNatClampNeg a2) (fun μ1 => some μ1))) := Classical.choose_spec p_X12_hold_ex a1 a2 μ
set_option maxHeartbeats 4000000 in
set_option maxRecDepth 100000 in
theorem t_X12_hold (l : Launch) (G : Gt) (ad : Nat → Nat) (a1 : Int32) (a2 : Int32) (μ : Mem) {μz : Mem} (h : p_X12_hold a1 a2 μ = some μz) : Mt l yX12_hold cX12_hold 3 none ({ frames := 0, cells := 0, slots := 0, locals := 0 } : Room) G [.ref (ad 0), .int a1, .int a2] (wd 1 G ad μ) (eV 1 G ad μz) := by
  refine Bk.mt (by decide) rfl (Nat.le_of_ble_eq_true rfl) ?_
  intro p e s m below meth c A ls H locs cx hr hlk hA hl hw
  have hx := cx.1
  have hb := cx.2.1
  have hl : lv_has ls 3 [(0, .ref (ad 0)), (1, .int a1), (2, .int a2)] := hl
  rw [p_X12_hold_eq] at h
  refine lv_aload_n hx hb dX12_hold_0 rfl (lv_at hl 0 rfl) ?_
  refine g_get cx hw inX12 (ci := 11) rfl 123 (by decide) rfl (v := .ref (ad 76)) shm_0 rfl fl_X12_244 dX12_hold_1 ?_
  refine lv_aload_n hx hb dX12_hold_4 rfl (lv_at hl 0 rfl) ?_
  refine g_get cx hw inX12 (ci := 11) rfl 126 (by decide) rfl (v := .int (μ.1 0 126)) shm_0 rfl fl_X12_812 dX12_hold_5 ?_
  refine lv_aload_n hx hb dX12_hold_8 rfl (lv_at hl 0 rfl) ?_
  refine g_get cx hw inX12 (ci := 11) rfl 79 (by decide) rfl (v := .ref (ad 47)) shm_0 rfl fl_X12_157 dX12_hold_9 ?_
  refine lv_iload_n hx hb dX12_hold_12 rfl (lv_at hl 1 rfl) ?_
  refine g_iald cx hw shm_47 h dX12_hold_13 (fun h => ?_)
  refine lv_iadd hx hb dX12_hold_14 ?_
  refine lv_iload_n hx hb dX12_hold_15 rfl (lv_at hl 2 rfl) ?_
  refine g_iast cx hw shm_76 h dX12_hold_16 (fun μ1 H locs h hw => ?_)
  exact g_vret cx hr hlk hw h dX12_hold_17

theorem p_X12_runCall_b11_ex : ∃ f : Nat → Int32 → Int32 → Mem → Option (Int32 × Mem), (∀ (a1 : Int32) (a2 : Int32) (μ : Mem), f  0 a1 a2 μ = none) ∧ (∀ (n : Nat) (a1 : Int32) (a2 : Int32) (μ : Mem), f  (n + 1) a1 a2 μ = gd (inb a1 960) ((if (μ.1 52 a1.toNatClampNeg) ≤ a2 then bv (sF μ 0 126 ((μ.1 0 126) + (320 : Int32))) (fun μ5 => gd (inb a1 960) (bw (p_X12_enterVariant (μ5.1 48 a1.toNatClampNeg) a1 μ5) (fun μ6 => gd (inb a1 960) (gd (inb (μ6.1 48 a1.toNatClampNeg) 25) (some ((μ6.1 62 (μ6.1 48 a1.toNatClampNeg).toNatClampNeg), μ6)))))) else gd (inb a1 960) (bd (p_X12_valueOf ((μ.1 51 a1.toNatClampNeg) + a2) μ) (fun r9 μ8 => gd (inb (((μ.1 0 126) + (320 : Int32)) + a2) 10000) (bv (sF μ8 76 (((μ.1 0 126) + (320 : Int32)) + a2).toNatClampNeg r9) (fun μ10 => bv (a2 + 1) (fun v11 => f n a1 v11 μ10)))))))) := ⟨fun n => Nat.rec (fun (a1 : Int32) (a2 : Int32) (μ : Mem) => none) (fun _ ih => fun (a1 : Int32) (a2 : Int32) (μ : Mem) => gd (inb a1 960) ((if (μ.1 52 a1.toNatClampNeg) ≤ a2 then bv (sF μ 0 126 ((μ.1 0 126) + (320 : Int32))) (fun μ5 => gd (inb a1 960) (bw (p_X12_enterVariant (μ5.1 48 a1.toNatClampNeg) a1 μ5) (fun μ6 => gd (inb a1 960) (gd (inb (μ6.1 48 a1.toNatClampNeg) 25) (some ((μ6.1 62 (μ6.1 48 a1.toNatClampNeg).toNatClampNeg), μ6)))))) else gd (inb a1 960) (bd (p_X12_valueOf ((μ.1 51 a1.toNatClampNeg) + a2) μ) (fun r9 μ8 => gd (inb (((μ.1 0 126) + (320 : Int32)) + a2) 10000) (bv (sF μ8 76 (((μ.1 0 126) + (320 : Int32)) + a2).toNatClampNeg r9) (fun μ10 => bv (a2 + 1) (fun v11 => ih a1 v11 μ10)))))))) n, fun  _ _ _ => rfl, fun  _ _ _ _ => rfl⟩
noncomputable def p_X12_runCall_b11 : Nat → Int32 → Int32 → Mem → Option (Int32 × Mem) := Classical.choose p_X12_runCall_b11_ex
theorem p_X12_runCall_b11_z (a1 : Int32) (a2 : Int32) (μ : Mem) : p_X12_runCall_b11  0 a1 a2 μ = none := (Classical.choose_spec p_X12_runCall_b11_ex).1  a1 a2 μ
theorem p_X12_runCall_b11_s (n : Nat) (a1 : Int32) (a2 : Int32) (μ : Mem) : p_X12_runCall_b11  (n + 1) a1 a2 μ = gd (inb a1 960) ((if (μ.1 52 a1.toNatClampNeg) ≤ a2 then bv (sF μ 0 126 ((μ.1 0 126) + (320 : Int32))) (fun μ5 => gd (inb a1 960) (bw (p_X12_enterVariant (μ5.1 48 a1.toNatClampNeg) a1 μ5) (fun μ6 => gd (inb a1 960) (gd (inb (μ6.1 48 a1.toNatClampNeg) 25) (some ((μ6.1 62 (μ6.1 48 a1.toNatClampNeg).toNatClampNeg), μ6)))))) else gd (inb a1 960) (bd (p_X12_valueOf ((μ.1 51 a1.toNatClampNeg) + a2) μ) (fun r9 μ8 => gd (inb (((μ.1 0 126) + (320 : Int32)) + a2) 10000) (bv (sF μ8 76 (((μ.1 0 126) + (320 : Int32)) + a2).toNatClampNeg r9) (fun μ10 => bv (a2 + 1) (fun v11 => p_X12_runCall_b11  n a1 v11 μ10))))))) := (Classical.choose_spec p_X12_runCall_b11_ex).2  n a1 a2 μ
set_option maxHeartbeats 4000000 in
set_option maxRecDepth 100000 in
theorem t_X12_runCall_b11 (l : Launch) (G : Gt) (ad : Nat → Nat) (av : List Value) {r : Int32} {μz : Mem} : ∀ (n : Nat) (a1 : Int32) (a2 : Int32) (μ : Mem), p_X12_runCall_b11  n a1 a2 μ = some (r, μz) → Bk l cX12_runCall 3 RX12 (some .int) ({ frames := 2, cells := 0, slots := 0, locals := 43 } : Room) G av (eI 1 G ad r μz) (wd 1 G ad μ) 11 [(0, .ref (ad 0)), (1, .int a1), (2, .int a2)] [] := by
  intro n
  induction n with
  | zero => intro a1 a2 μ h; rw [p_X12_runCall_b11_z] at h; cases h
  | succ n ih =>
    intro a1 a2 μ h p e s m below meth c A ls H locs cx hr hlk hA hl hw
    have hx := cx.1
    have hb := cx.2.1
    rw [p_X12_runCall_b11_s] at h
    refine lv_iload_n hx hb dX12_runCall_11 rfl (lv_at hl 2 rfl) ?_
    refine lv_aload_n hx hb dX12_runCall_12 rfl (lv_at hl 0 rfl) ?_
    refine g_get cx hw inX12 (ci := 11) rfl 84 (by decide) rfl (v := .ref (ad 52)) shm_0 rfl fl_X12_172 dX12_runCall_13 ?_
    refine lv_iload_n hx hb dX12_runCall_16 rfl (lv_at hl 1 rfl) ?_
    refine g_iald cx hw shm_52 h dX12_runCall_17 (fun h => ?_)
    refine lv_icmp_ge (tgt := 54) hx hb dX12_runCall_18 (by decide) (fun c4 => ?_) (fun c4 => ?_)
    · rw [if_pos c4] at h
      refine lv_aload_n hx hb dX12_runCall_54 rfl (lv_at hl 0 rfl) ?_
      refine lv_dup hx hb dX12_runCall_55 rfl ?_
      refine g_get cx hw inX12 (ci := 11) rfl 126 (by decide) rfl (v := .int (μ.1 0 126)) shm_0 rfl fl_X12_812 dX12_runCall_56 ?_
      refine lv_sipush (v := 320) hx hb dX12_runCall_59 (by decide) ?_
      refine lv_iadd hx hb dX12_runCall_62 ?_
      refine g_put cx hw inX12 (ci := 11) rfl tyX12_ok nmX12 126 (by decide) rfl rfl rfl rfl shm_0 h fl_X12_812 dX12_runCall_63 (fun μ5 H locs h hw => ?_)
      refine lv_aload_n hx hb dX12_runCall_66 rfl (lv_at hl 0 rfl) ?_
      refine lv_aload_n hx hb dX12_runCall_67 rfl (lv_at hl 0 rfl) ?_
      refine g_get cx hw inX12 (ci := 11) rfl 80 (by decide) rfl (v := .ref (ad 48)) shm_0 rfl fl_X12_160 dX12_runCall_68 ?_
      refine lv_iload_n hx hb dX12_runCall_71 rfl (lv_at hl 1 rfl) ?_
      refine g_iald cx hw shm_48 h dX12_runCall_72 (fun h => ?_)
      refine lv_iload_n hx hb dX12_runCall_73 rfl (lv_at hl 1 rfl) ?_
      obtain ⟨μ6, gμ6, h⟩ := bw_some h
      refine g_callVV (As := [.int (μ5.1 48 a1.toNatClampNeg), .int a1]) (rest := []) cx hw hA (t_X12_enterVariant l G ad (μ5.1 48 a1.toNatClampNeg) a1 μ5 gμ6) shm_0 rfl ml_X12_815 im_X12_enterVariant se_X12_enterVariant in_X12 co_X12_enterVariant rfl hd_X12_enterVariant rfl ⟨(Nat.le_of_ble_eq_true rfl), (Nat.le_of_ble_eq_true rfl)⟩ hl.1 rfl (Nat.le_of_ble_eq_true rfl) dX12_runCall_74 ⟨rfl, rfl⟩ (fun H locs hw => ?_)
      refine lv_aload_n hx hb dX12_runCall_77 rfl (lv_at hl 0 rfl) ?_
      refine g_get cx hw inX12 (ci := 11) rfl 105 (by decide) rfl (v := .ref (ad 62)) shm_0 rfl fl_X12_202 dX12_runCall_78 ?_
      refine lv_aload_n hx hb dX12_runCall_81 rfl (lv_at hl 0 rfl) ?_
      refine g_get cx hw inX12 (ci := 11) rfl 80 (by decide) rfl (v := .ref (ad 48)) shm_0 rfl fl_X12_160 dX12_runCall_82 ?_
      refine lv_iload_n hx hb dX12_runCall_85 rfl (lv_at hl 1 rfl) ?_
      refine g_iald cx hw shm_48 h dX12_runCall_86 (fun h => ?_)
      refine g_iald cx hw shm_62 h dX12_runCall_87 (fun h => ?_)
      exact g_iret cx hr hlk hw h dX12_runCall_88
    · rw [if_neg c4] at h
      refine lv_aload_n hx hb dX12_runCall_21 rfl (lv_at hl 0 rfl) ?_
      refine g_get cx hw inX12 (ci := 11) rfl 123 (by decide) rfl (v := .ref (ad 76)) shm_0 rfl fl_X12_244 dX12_runCall_22 ?_
      refine lv_aload_n hx hb dX12_runCall_25 rfl (lv_at hl 0 rfl) ?_
      refine g_get cx hw inX12 (ci := 11) rfl 126 (by decide) rfl (v := .int (μ.1 0 126)) shm_0 rfl fl_X12_812 dX12_runCall_26 ?_
      refine lv_sipush (v := 320) hx hb dX12_runCall_29 (by decide) ?_
      refine lv_iadd hx hb dX12_runCall_32 ?_
      refine lv_iload_n hx hb dX12_runCall_33 rfl (lv_at hl 2 rfl) ?_
      refine lv_iadd hx hb dX12_runCall_34 ?_
      refine lv_aload_n hx hb dX12_runCall_35 rfl (lv_at hl 0 rfl) ?_
      refine lv_aload_n hx hb dX12_runCall_36 rfl (lv_at hl 0 rfl) ?_
      refine g_get cx hw inX12 (ci := 11) rfl 83 (by decide) rfl (v := .ref (ad 51)) shm_0 rfl fl_X12_169 dX12_runCall_37 ?_
      refine lv_iload_n hx hb dX12_runCall_40 rfl (lv_at hl 1 rfl) ?_
      refine g_iald cx hw shm_51 h dX12_runCall_41 (fun h => ?_)
      refine lv_iload_n hx hb dX12_runCall_42 rfl (lv_at hl 2 rfl) ?_
      refine lv_iadd hx hb dX12_runCall_43 ?_
      obtain ⟨r9, μ8, gr9, h⟩ := bd_some h
      refine g_callVI (As := [.int ((μ.1 51 a1.toNatClampNeg) + a2)]) (rest := [.int (((μ.1 0 126) + (320 : Int32)) + a2), .ref (ad 76)]) cx hw hA (t_X12_valueOf l G ad ((μ.1 51 a1.toNatClampNeg) + a2) μ gr9) shm_0 rfl ml_X12_821 im_X12_valueOf se_X12_valueOf in_X12 co_X12_valueOf rfl hd_X12_valueOf rfl ⟨(Nat.le_of_ble_eq_true rfl), (Nat.le_of_ble_eq_true rfl)⟩ hl.1 rfl (Nat.le_of_ble_eq_true rfl) dX12_runCall_44 ⟨rfl, rfl⟩ (fun H locs hw => ?_)
      refine g_iast cx hw shm_76 h dX12_runCall_47 (fun μ10 H locs h hw => ?_)
      obtain ⟨v11, ev11, h⟩ := bv_ex h
      refine lv_iinc (v := v11) (lv' := [(2, .int v11), (0, .ref (ad 0)), (1, .int a1)]) hx hb dX12_runCall_48 hl (k := 2) rfl (by rw [ev11]; rfl) (by decide) rfl (fun ls hl => ?_)
      refine lv_goto (tgt := 11) hx hb dX12_runCall_51 (by decide) ?_
      exact ih a1 v11 μ10 h p e s m below meth c A ls H locs cx hr hlk hA (lv_sub hl [1, 2, 0] rfl) hw
theorem p_X12_runCall_ex : ∃ f : Int32 → Mem → Option (Int32 × Mem), ∀ (a1 : Int32) (μ : Mem), f a1 μ = bd (p_X12_beginsCall μ) (fun r2 μ1 => (if r2 = (0 : Int32) then some (a1, μ1) else p_X12_runCall_b11  FUEL a1 (0 : Int32) μ1)) := ⟨fun (a1 : Int32) (μ : Mem) => bd (p_X12_beginsCall μ) (fun r2 μ1 => (if r2 = (0 : Int32) then some (a1, μ1) else p_X12_runCall_b11  FUEL a1 (0 : Int32) μ1)), fun _ _ => rfl⟩
noncomputable def p_X12_runCall : Int32 → Mem → Option (Int32 × Mem) := Classical.choose p_X12_runCall_ex
theorem p_X12_runCall_eq (a1 : Int32) (μ : Mem) : p_X12_runCall a1 μ = bd (p_X12_beginsCall μ) (fun r2 μ1 => (if r2 = (0 : Int32) then some (a1, μ1) else p_X12_runCall_b11  FUEL a1 (0 : Int32) μ1)) := Classical.choose_spec p_X12_runCall_ex a1 μ
set_option maxHeartbeats 4000000 in
set_option maxRecDepth 100000 in
theorem t_X12_runCall (l : Launch) (G : Gt) (ad : Nat → Nat) (a1 : Int32) (μ : Mem) {r : Int32} {μz : Mem} (h : p_X12_runCall a1 μ = some (r, μz)) : Mt l yX12_runCall cX12_runCall 3 (some .int) ({ frames := 2, cells := 0, slots := 0, locals := 43 } : Room) G [.ref (ad 0), .int a1] (wd 1 G ad μ) (eI 1 G ad r μz) := by
  refine Bk.mt (by decide) rfl (Nat.le_of_ble_eq_true rfl) ?_
  intro p e s m below meth c A ls H locs cx hr hlk hA hl hw
  have hx := cx.1
  have hb := cx.2.1
  have hl : lv_has ls 3 [(0, .ref (ad 0)), (1, .int a1)] := hl
  rw [p_X12_runCall_eq] at h
  refine lv_aload_n hx hb dX12_runCall_0 rfl (lv_at hl 0 rfl) ?_
  obtain ⟨r2, μ1, gr2, h⟩ := bd_some h
  refine g_callVI (As := []) (rest := []) cx hw hA (t_X12_beginsCall l G ad μ gr2) shm_0 rfl ml_X12_673 im_X12_beginsCall se_X12_beginsCall in_X12 co_X12_beginsCall rfl hd_X12_beginsCall rfl ⟨(Nat.le_of_ble_eq_true rfl), (Nat.le_of_ble_eq_true rfl)⟩ hl.1 rfl (Nat.le_of_ble_eq_true rfl) dX12_runCall_1 ⟨rfl, rfl⟩ (fun H locs hw => ?_)
  refine lv_if_ne (tgt := 9) hx hb dX12_runCall_4 (by decide) (fun c3 => ?_) (fun c3 => ?_)
  · rw [if_neg c3] at h
    refine lv_iconst (v := 0) hx hb dX12_runCall_9 (by decide) ?_
    refine lv_istore_n (lv' := [(2, .int 0), (0, .ref (ad 0)), (1, .int a1)]) hx hb dX12_runCall_10 rfl hl (by decide) rfl (fun ls hl => ?_)
    exact t_X12_runCall_b11 l G ad _  FUEL a1 (0 : Int32) μ1 h p e s m below meth c A ls H locs cx hr hlk hA (lv_sub hl [1, 2, 0] rfl) hw
  · rw [if_pos c3] at h
    refine lv_iload_n hx hb dX12_runCall_7 rfl (lv_at hl 1 rfl) ?_
    exact g_iret cx hr hlk hw h dX12_runCall_8

theorem p_X12_itemValue_b29_ex : ∃ f : Int32 → Int32 → Mem → Option (Int32 × Mem), ∀ (a1 : Int32) (k0 : Int32) (μ : Mem), f a1 k0 μ = gd (inb a1 960) (gd (inb (μ.1 48 a1.toNatClampNeg) 8) (bd (p_X12_node k0 (μ.1 42 (μ.1 48 a1.toNatClampNeg).toNatClampNeg) μ) (fun r41 μ40 => some (r41, μ40)))) := ⟨fun (a1 : Int32) (k0 : Int32) (μ : Mem) => gd (inb a1 960) (gd (inb (μ.1 48 a1.toNatClampNeg) 8) (bd (p_X12_node k0 (μ.1 42 (μ.1 48 a1.toNatClampNeg).toNatClampNeg) μ) (fun r41 μ40 => some (r41, μ40)))), fun _ _ _ => rfl⟩
noncomputable def p_X12_itemValue_b29 : Int32 → Int32 → Mem → Option (Int32 × Mem) := Classical.choose p_X12_itemValue_b29_ex
theorem p_X12_itemValue_b29_eq (a1 : Int32) (k0 : Int32) (μ : Mem) : p_X12_itemValue_b29 a1 k0 μ = gd (inb a1 960) (gd (inb (μ.1 48 a1.toNatClampNeg) 8) (bd (p_X12_node k0 (μ.1 42 (μ.1 48 a1.toNatClampNeg).toNatClampNeg) μ) (fun r41 μ40 => some (r41, μ40)))) := Classical.choose_spec p_X12_itemValue_b29_ex a1 k0 μ
set_option maxHeartbeats 4000000 in
set_option maxRecDepth 100000 in
theorem t_X12_itemValue_b29 (l : Launch) (G : Gt) (ad : Nat → Nat) (av : List Value) {r : Int32} {μz : Mem} (a1 : Int32) (k0 : Int32) (μ : Mem) (h : p_X12_itemValue_b29  a1 k0 μ = some (r, μz)) : Bk l cX12_itemValue 7 RX12 (some .int) ({ frames := 5, cells := 0, slots := 0, locals := 115 } : Room) G av (eI 1 G ad r μz) (wd 1 G ad μ) 29 [(0, .ref (ad 0)), (1, .int a1)] [.int k0, .ref (ad 0)] := by
  intro p e s m below meth c A ls H locs cx hr hlk hA hl hw
  have hx := cx.1
  have hb := cx.2.1
  rw [p_X12_itemValue_b29_eq] at h
  refine lv_aload_n hx hb dX12_itemValue_29 rfl (lv_at hl 0 rfl) ?_
  refine g_get cx hw inX12 (ci := 11) rfl 70 (by decide) rfl (v := .ref (ad 42)) shm_0 rfl fl_X12_142 dX12_itemValue_30 ?_
  refine lv_aload_n hx hb dX12_itemValue_33 rfl (lv_at hl 0 rfl) ?_
  refine g_get cx hw inX12 (ci := 11) rfl 80 (by decide) rfl (v := .ref (ad 48)) shm_0 rfl fl_X12_160 dX12_itemValue_34 ?_
  refine lv_iload_n hx hb dX12_itemValue_37 rfl (lv_at hl 1 rfl) ?_
  refine g_iald cx hw shm_48 h dX12_itemValue_38 (fun h => ?_)
  refine g_iald cx hw shm_42 h dX12_itemValue_39 (fun h => ?_)
  obtain ⟨r41, μ40, gr41, h⟩ := bd_some h
  refine g_callVI (As := [.int k0, .int (μ.1 42 (μ.1 48 a1.toNatClampNeg).toNatClampNeg)]) (rest := []) cx hw hA (t_X12_node l G ad k0 (μ.1 42 (μ.1 48 a1.toNatClampNeg).toNatClampNeg) μ gr41) shm_0 rfl ml_X12_527 im_X12_node se_X12_node in_X12 co_X12_node rfl hd_X12_node rfl ⟨(Nat.le_of_ble_eq_true rfl), (Nat.le_of_ble_eq_true rfl)⟩ hl.1 rfl (Nat.le_of_ble_eq_true rfl) dX12_itemValue_40 ⟨rfl, rfl⟩ (fun H locs hw => ?_)
  exact g_iret cx hr hlk hw h dX12_itemValue_43
theorem p_X12_itemValue_ex : ∃ f : Int32 → Int32 → Mem → Option (Int32 × Mem), ∀ (a1 : Int32) (a2 : Int32) (μ : Mem), f a1 a2 μ = gd (inb a1 960) (bv (μ.1 46 a1.toNatClampNeg) (fun v1 => (if v1 = (9 : Int32) then gd (inb a1 960) ((if (4 : Int32) ≤ (μ.1 48 a1.toNatClampNeg) then p_X12_itemValue_b29  a1 (1 : Int32) μ else p_X12_itemValue_b29  a1 (0 : Int32) μ)) else bd (p_X12_valueOf a2 μ) (fun r4 μ3 => (if v1 = (10 : Int32) then bd (p_X12_valueOf (a2 + (1 : Int32)) μ3) (fun r34 μ33 => bd (p_X12_pair r4 r34 μ33) (fun r36 μ35 => gd (inb r36 100000) ((if (μ35.1 33 r36.toNatClampNeg) ≤ (40 : Int32) then some (r36, μ35) else bv (sF μ35 0 68 (2 : Int32)) (fun μ38 => some (r36, μ38)))))) else (if v1 = (4 : Int32) then gd (inb r4 100000) ((if (μ3.1 30 r4.toNatClampNeg) = (2 : Int32) then gd (inb r4 100000) (some ((μ3.1 31 r4.toNatClampNeg), μ3)) else some (r4, μ3))) else (if v1 = (5 : Int32) then gd (inb r4 100000) ((if (μ3.1 30 r4.toNatClampNeg) = (2 : Int32) then gd (inb r4 100000) (some ((μ3.1 32 r4.toNatClampNeg), μ3)) else bd (p_X12_node (0 : Int32) (0 : Int32) μ3) (fun r31 μ30 => some (r31, μ30)))) else bd (p_X12_num r4 μ3) (fun r9 μ8 => (if v1 = (0 : Int32) then bd (p_X12_valueOf (a2 + (1 : Int32)) μ8) (fun r22 μ21 => bd (p_X12_num r22 μ21) (fun r24 μ23 => gd (inb a1 960) (gd (inb r9 100000) (gd (inb r9 100000) (gd (inb r24 100000) (gd (inb r24 100000) (bw (p_X12_join (μ23.1 48 a1.toNatClampNeg) (μ23.1 30 r9.toNatClampNeg) (μ23.1 31 r9.toNatClampNeg) (μ23.1 30 r24.toNatClampNeg) (μ23.1 31 r24.toNatClampNeg) μ23) (fun μ25 => bd (p_X12_given μ25) (fun r28 μ27 => some (r28, μ27)))))))))) else (if v1 = (8 : Int32) then gd (inb a1 960) (bw (p_X12_holdAt (μ8.1 48 a1.toNatClampNeg) r9 μ8) (fun μ16 => gd (inb a1 960) (gd (inb (μ16.1 48 a1.toNatClampNeg) 8) (bv (sF μ16 42 (μ16.1 48 a1.toNatClampNeg).toNatClampNeg (μ16.1 0 1)) (fun μ18 => bd (p_X12_given μ18) (fun r20 μ19 => some (r20, μ19))))))) else gd (inb r9 100000) (gd (inb r9 100000) (bw (p_X12_turn (v1 - (1 : Int32)) (μ8.1 30 r9.toNatClampNeg) (μ8.1 31 r9.toNatClampNeg) μ8) (fun μ12 => bd (p_X12_given μ12) (fun r15 μ14 => some (r15, μ14))))))))))))))) := ⟨fun (a1 : Int32) (a2 : Int32) (μ : Mem) => gd (inb a1 960) (bv (μ.1 46 a1.toNatClampNeg) (fun v1 => (if v1 = (9 : Int32) then gd (inb a1 960) ((if (4 : Int32) ≤ (μ.1 48 a1.toNatClampNeg) then p_X12_itemValue_b29  a1 (1 : Int32) μ else p_X12_itemValue_b29  a1 (0 : Int32) μ)) else bd (p_X12_valueOf a2 μ) (fun r4 μ3 => (if v1 = (10 : Int32) then bd (p_X12_valueOf (a2 + (1 : Int32)) μ3) (fun r34 μ33 => bd (p_X12_pair r4 r34 μ33) (fun r36 μ35 => gd (inb r36 100000) ((if (μ35.1 33 r36.toNatClampNeg) ≤ (40 : Int32) then some (r36, μ35) else bv (sF μ35 0 68 (2 : Int32)) (fun μ38 => some (r36, μ38)))))) else (if v1 = (4 : Int32) then gd (inb r4 100000) ((if (μ3.1 30 r4.toNatClampNeg) = (2 : Int32) then gd (inb r4 100000) (some ((μ3.1 31 r4.toNatClampNeg), μ3)) else some (r4, μ3))) else (if v1 = (5 : Int32) then gd (inb r4 100000) ((if (μ3.1 30 r4.toNatClampNeg) = (2 : Int32) then gd (inb r4 100000) (some ((μ3.1 32 r4.toNatClampNeg), μ3)) else bd (p_X12_node (0 : Int32) (0 : Int32) μ3) (fun r31 μ30 => some (r31, μ30)))) else bd (p_X12_num r4 μ3) (fun r9 μ8 => (if v1 = (0 : Int32) then bd (p_X12_valueOf (a2 + (1 : Int32)) μ8) (fun r22 μ21 => bd (p_X12_num r22 μ21) (fun r24 μ23 => gd (inb a1 960) (gd (inb r9 100000) (gd (inb r9 100000) (gd (inb r24 100000) (gd (inb r24 100000) (bw (p_X12_join (μ23.1 48 a1.toNatClampNeg) (μ23.1 30 r9.toNatClampNeg) (μ23.1 31 r9.toNatClampNeg) (μ23.1 30 r24.toNatClampNeg) (μ23.1 31 r24.toNatClampNeg) μ23) (fun μ25 => bd (p_X12_given μ25) (fun r28 μ27 => some (r28, μ27)))))))))) else (if v1 = (8 : Int32) then gd (inb a1 960) (bw (p_X12_holdAt (μ8.1 48 a1.toNatClampNeg) r9 μ8) (fun μ16 => gd (inb a1 960) (gd (inb (μ16.1 48 a1.toNatClampNeg) 8) (bv (sF μ16 42 (μ16.1 48 a1.toNatClampNeg).toNatClampNeg (μ16.1 0 1)) (fun μ18 => bd (p_X12_given μ18) (fun r20 μ19 => some (r20, μ19))))))) else gd (inb r9 100000) (gd (inb r9 100000) (bw (p_X12_turn (v1 - (1 : Int32)) (μ8.1 30 r9.toNatClampNeg) (μ8.1 31 r9.toNatClampNeg) μ8) (fun μ12 => bd (p_X12_given μ12) (fun r15 μ14 => some (r15, μ14))))))))))))))), fun _ _ _ => rfl⟩
noncomputable def p_X12_itemValue : Int32 → Int32 → Mem → Option (Int32 × Mem) := Classical.choose p_X12_itemValue_ex
theorem p_X12_itemValue_eq (a1 : Int32) (a2 : Int32) (μ : Mem) : p_X12_itemValue a1 a2 μ = gd (inb a1 960) (bv (μ.1 46 a1.toNatClampNeg) (fun v1 => (if v1 = (9 : Int32) then gd (inb a1 960) ((if (4 : Int32) ≤ (μ.1 48 a1.toNatClampNeg) then p_X12_itemValue_b29  a1 (1 : Int32) μ else p_X12_itemValue_b29  a1 (0 : Int32) μ)) else bd (p_X12_valueOf a2 μ) (fun r4 μ3 => (if v1 = (10 : Int32) then bd (p_X12_valueOf (a2 + (1 : Int32)) μ3) (fun r34 μ33 => bd (p_X12_pair r4 r34 μ33) (fun r36 μ35 => gd (inb r36 100000) ((if (μ35.1 33 r36.toNatClampNeg) ≤ (40 : Int32) then some (r36, μ35) else bv (sF μ35 0 68 (2 : Int32)) (fun μ38 => some (r36, μ38)))))) else (if v1 = (4 : Int32) then gd (inb r4 100000) ((if (μ3.1 30 r4.toNatClampNeg) = (2 : Int32) then gd (inb r4 100000) (some ((μ3.1 31 r4.toNatClampNeg), μ3)) else some (r4, μ3))) else (if v1 = (5 : Int32) then gd (inb r4 100000) ((if (μ3.1 30 r4.toNatClampNeg) = (2 : Int32) then gd (inb r4 100000) (some ((μ3.1 32 r4.toNatClampNeg), μ3)) else bd (p_X12_node (0 : Int32) (0 : Int32) μ3) (fun r31 μ30 => some (r31, μ30)))) else bd (p_X12_num r4 μ3) (fun r9 μ8 => (if v1 = (0 : Int32) then bd (p_X12_valueOf (a2 + (1 : Int32)) μ8) (fun r22 μ21 => bd (p_X12_num r22 μ21) (fun r24 μ23 => gd (inb a1 960) (gd (inb r9 100000) (gd (inb r9 100000) (gd (inb r24 100000) (gd (inb r24 100000) (bw (p_X12_join (μ23.1 48 a1.toNatClampNeg) (μ23.1 30 r9.toNatClampNeg) (μ23.1 31 r9.toNatClampNeg) (μ23.1 30 r24.toNatClampNeg) (μ23.1 31 r24.toNatClampNeg) μ23) (fun μ25 => bd (p_X12_given μ25) (fun r28 μ27 => some (r28, μ27)))))))))) else (if v1 = (8 : Int32) then gd (inb a1 960) (bw (p_X12_holdAt (μ8.1 48 a1.toNatClampNeg) r9 μ8) (fun μ16 => gd (inb a1 960) (gd (inb (μ16.1 48 a1.toNatClampNeg) 8) (bv (sF μ16 42 (μ16.1 48 a1.toNatClampNeg).toNatClampNeg (μ16.1 0 1)) (fun μ18 => bd (p_X12_given μ18) (fun r20 μ19 => some (r20, μ19))))))) else gd (inb r9 100000) (gd (inb r9 100000) (bw (p_X12_turn (v1 - (1 : Int32)) (μ8.1 30 r9.toNatClampNeg) (μ8.1 31 r9.toNatClampNeg) μ8) (fun μ12 => bd (p_X12_given μ12) (fun r15 μ14 => some (r15, μ14))))))))))))))) := Classical.choose_spec p_X12_itemValue_ex a1 a2 μ
set_option maxHeartbeats 4000000 in
set_option maxRecDepth 100000 in
theorem t_X12_itemValue (l : Launch) (G : Gt) (ad : Nat → Nat) (a1 : Int32) (a2 : Int32) (μ : Mem) {r : Int32} {μz : Mem} (h : p_X12_itemValue a1 a2 μ = some (r, μz)) : Mt l yX12_itemValue cX12_itemValue 7 (some .int) ({ frames := 5, cells := 0, slots := 0, locals := 115 } : Room) G [.ref (ad 0), .int a1, .int a2] (wd 1 G ad μ) (eI 1 G ad r μz) := by
  refine Bk.mt (by decide) rfl (Nat.le_of_ble_eq_true rfl) ?_
  intro p e s m below meth c A ls H locs cx hr hlk hA hl hw
  have hx := cx.1
  have hb := cx.2.1
  have hl : lv_has ls 7 [(0, .ref (ad 0)), (1, .int a1), (2, .int a2)] := hl
  rw [p_X12_itemValue_eq] at h
  refine lv_aload_n hx hb dX12_itemValue_0 rfl (lv_at hl 0 rfl) ?_
  refine g_get cx hw inX12 (ci := 11) rfl 78 (by decide) rfl (v := .ref (ad 46)) shm_0 rfl fl_X12_154 dX12_itemValue_1 ?_
  refine lv_iload_n hx hb dX12_itemValue_4 rfl (lv_at hl 1 rfl) ?_
  refine g_iald cx hw shm_46 h dX12_itemValue_5 (fun h => ?_)
  obtain ⟨v1, ev1, h⟩ := bv_ex h
  refine lv_topi (fun y9 z9 => ?_)
  obtain rfl : v1 = y9 := ev1.trans z9.symm
  refine lv_istore_n (lv' := [(3, .int v1), (0, .ref (ad 0)), (1, .int a1), (2, .int a2)]) hx hb dX12_itemValue_6 rfl hl (by decide) rfl (fun ls hl => ?_)
  refine lv_iload_n hx hb dX12_itemValue_7 rfl (lv_at hl 0 rfl) ?_
  refine lv_bipush (v := 9) hx hb dX12_itemValue_8 (by decide) ?_
  refine lv_icmp_ne (tgt := 44) hx hb dX12_itemValue_10 (by decide) (fun c2 => ?_) (fun c2 => ?_)
  · rw [if_neg c2] at h
    refine lv_aload_n hx hb dX12_itemValue_44 rfl (lv_at hl 1 rfl) ?_
    refine lv_iload_n hx hb dX12_itemValue_45 rfl (lv_at hl 3 rfl) ?_
    obtain ⟨r4, μ3, gr4, h⟩ := bd_some h
    refine g_callVI (As := [.int a2]) (rest := []) cx hw hA (t_X12_valueOf l G ad a2 μ gr4) shm_0 rfl ml_X12_821 im_X12_valueOf se_X12_valueOf in_X12 co_X12_valueOf rfl hd_X12_valueOf rfl ⟨(Nat.le_of_ble_eq_true rfl), (Nat.le_of_ble_eq_true rfl)⟩ hl.1 rfl (Nat.le_of_ble_eq_true rfl) dX12_itemValue_46 ⟨rfl, rfl⟩ (fun H locs hw => ?_)
    refine lv_istore (lv' := [(4, .int r4), (3, .int v1), (0, .ref (ad 0)), (1, .int a1), (2, .int a2)]) hx hb dX12_itemValue_49 hl (by decide) rfl (fun ls hl => ?_)
    refine lv_iload_n hx hb dX12_itemValue_51 rfl (lv_at hl 1 rfl) ?_
    refine lv_bipush (v := 10) hx hb dX12_itemValue_52 (by decide) ?_
    refine lv_icmp_ne (tgt := 92) hx hb dX12_itemValue_54 (by decide) (fun c5 => ?_) (fun c5 => ?_)
    · rw [if_neg c5] at h
      refine lv_iload_n hx hb dX12_itemValue_92 rfl (lv_at hl 1 rfl) ?_
      refine lv_iconst (v := 4) hx hb dX12_itemValue_93 (by decide) ?_
      refine lv_icmp_ne (tgt := 121) hx hb dX12_itemValue_94 (by decide) (fun c6 => ?_) (fun c6 => ?_)
      · rw [if_neg c6] at h
        refine lv_iload_n hx hb dX12_itemValue_121 rfl (lv_at hl 1 rfl) ?_
        refine lv_iconst (v := 5) hx hb dX12_itemValue_122 (by decide) ?_
        refine lv_icmp_ne (tgt := 154) hx hb dX12_itemValue_123 (by decide) (fun c7 => ?_) (fun c7 => ?_)
        · rw [if_neg c7] at h
          refine lv_aload_n hx hb dX12_itemValue_154 rfl (lv_at hl 2 rfl) ?_
          refine lv_iload hx hb dX12_itemValue_155 (lv_at hl 0 rfl) ?_
          obtain ⟨r9, μ8, gr9, h⟩ := bd_some h
          refine g_callVI (As := [.int r4]) (rest := []) cx hw hA (t_X12_num l G ad r4 μ3 gr9) shm_0 rfl ml_X12_597 im_X12_num se_X12_num in_X12 co_X12_num rfl hd_X12_num rfl ⟨(Nat.le_of_ble_eq_true rfl), (Nat.le_of_ble_eq_true rfl)⟩ hl.1 rfl (Nat.le_of_ble_eq_true rfl) dX12_itemValue_157 ⟨rfl, rfl⟩ (fun H locs hw => ?_)
          refine lv_istore (lv' := [(5, .int r9), (4, .int r4), (3, .int v1), (0, .ref (ad 0)), (1, .int a1), (2, .int a2)]) hx hb dX12_itemValue_160 hl (by decide) rfl (fun ls hl => ?_)
          refine lv_iload_n hx hb dX12_itemValue_162 rfl (lv_at hl 2 rfl) ?_
          refine lv_if_ne (tgt := 220) hx hb dX12_itemValue_163 (by decide) (fun c10 => ?_) (fun c10 => ?_)
          · rw [if_neg c10] at h
            refine lv_iload_n hx hb dX12_itemValue_220 rfl (lv_at hl 2 rfl) ?_
            refine lv_bipush (v := 8) hx hb dX12_itemValue_221 (by decide) ?_
            refine lv_icmp_ne (tgt := 256) hx hb dX12_itemValue_223 (by decide) (fun c11 => ?_) (fun c11 => ?_)
            · rw [if_neg c11] at h
              refine lv_aload_n hx hb dX12_itemValue_256 rfl (lv_at hl 3 rfl) ?_
              refine lv_iload_n hx hb dX12_itemValue_257 rfl (lv_at hl 2 rfl) ?_
              refine lv_iconst (v := 1) hx hb dX12_itemValue_258 (by decide) ?_
              refine lv_isub hx hb dX12_itemValue_259 ?_
              refine lv_aload_n hx hb dX12_itemValue_260 rfl (lv_at hl 3 rfl) ?_
              refine g_get cx hw inX12 (ci := 11) rfl 51 (by decide) rfl (v := .ref (ad 30)) shm_0 rfl fl_X12_106 dX12_itemValue_261 ?_
              refine lv_iload hx hb dX12_itemValue_264 (lv_at hl 0 rfl) ?_
              refine g_iald cx hw shm_30 h dX12_itemValue_266 (fun h => ?_)
              refine lv_aload_n hx hb dX12_itemValue_267 rfl (lv_at hl 3 rfl) ?_
              refine g_get cx hw inX12 (ci := 11) rfl 52 (by decide) rfl (v := .ref (ad 31)) shm_0 rfl fl_X12_109 dX12_itemValue_268 ?_
              refine lv_iload hx hb dX12_itemValue_271 (lv_at hl 0 rfl) ?_
              refine g_iald cx hw shm_31 h dX12_itemValue_273 (fun h => ?_)
              obtain ⟨μ12, gμ12, h⟩ := bw_some h
              refine g_callVV (As := [.int (v1 - (1 : Int32)), .int (μ8.1 30 r9.toNatClampNeg), .int (μ8.1 31 r9.toNatClampNeg)]) (rest := []) cx hw hA (t_X12_turn l G ad (v1 - (1 : Int32)) (μ8.1 30 r9.toNatClampNeg) (μ8.1 31 r9.toNatClampNeg) μ8 gμ12) shm_0 rfl ml_X12_646 im_X12_turn se_X12_turn in_X12 co_X12_turn rfl hd_X12_turn rfl ⟨(Nat.le_of_ble_eq_true rfl), (Nat.le_of_ble_eq_true rfl)⟩ hl.1 rfl (Nat.le_of_ble_eq_true rfl) dX12_itemValue_274 ⟨rfl, rfl⟩ (fun H locs hw => ?_)
              refine lv_aload_n hx hb dX12_itemValue_277 rfl (lv_at hl 3 rfl) ?_
              obtain ⟨r15, μ14, gr15, h⟩ := bd_some h
              refine g_callVI (As := []) (rest := []) cx hw hA (t_X12_given l G ad μ12 gr15) shm_0 rfl ml_X12_636 im_X12_given se_X12_given in_X12 co_X12_given rfl hd_X12_given rfl ⟨(Nat.le_of_ble_eq_true rfl), (Nat.le_of_ble_eq_true rfl)⟩ hl.1 rfl (Nat.le_of_ble_eq_true rfl) dX12_itemValue_278 ⟨rfl, rfl⟩ (fun H locs hw => ?_)
              exact g_iret cx hr hlk hw h dX12_itemValue_281
            · rw [if_pos c11] at h
              refine lv_aload_n hx hb dX12_itemValue_226 rfl (lv_at hl 3 rfl) ?_
              refine lv_aload_n hx hb dX12_itemValue_227 rfl (lv_at hl 3 rfl) ?_
              refine g_get cx hw inX12 (ci := 11) rfl 80 (by decide) rfl (v := .ref (ad 48)) shm_0 rfl fl_X12_160 dX12_itemValue_228 ?_
              refine lv_iload_n hx hb dX12_itemValue_231 rfl (lv_at hl 4 rfl) ?_
              refine g_iald cx hw shm_48 h dX12_itemValue_232 (fun h => ?_)
              refine lv_iload hx hb dX12_itemValue_233 (lv_at hl 0 rfl) ?_
              obtain ⟨μ16, gμ16, h⟩ := bw_some h
              refine g_callVV (As := [.int (μ8.1 48 a1.toNatClampNeg), .int r9]) (rest := []) cx hw hA (t_X12_holdAt l G ad (μ8.1 48 a1.toNatClampNeg) r9 μ8 gμ16) shm_0 rfl ml_X12_655 im_X12_holdAt se_X12_holdAt in_X12 co_X12_holdAt rfl hd_X12_holdAt rfl ⟨(Nat.le_of_ble_eq_true rfl), (Nat.le_of_ble_eq_true rfl)⟩ hl.1 rfl (Nat.le_of_ble_eq_true rfl) dX12_itemValue_235 ⟨rfl, rfl⟩ (fun H locs hw => ?_)
              refine lv_aload_n hx hb dX12_itemValue_238 rfl (lv_at hl 3 rfl) ?_
              refine g_get cx hw inX12 (ci := 11) rfl 70 (by decide) rfl (v := .ref (ad 42)) shm_0 rfl fl_X12_142 dX12_itemValue_239 ?_
              refine lv_aload_n hx hb dX12_itemValue_242 rfl (lv_at hl 3 rfl) ?_
              refine g_get cx hw inX12 (ci := 11) rfl 80 (by decide) rfl (v := .ref (ad 48)) shm_0 rfl fl_X12_160 dX12_itemValue_243 ?_
              refine lv_iload_n hx hb dX12_itemValue_246 rfl (lv_at hl 4 rfl) ?_
              refine g_iald cx hw shm_48 h dX12_itemValue_247 (fun h => ?_)
              refine lv_aload_n hx hb dX12_itemValue_248 rfl (lv_at hl 3 rfl) ?_
              refine g_get cx hw inX12 (ci := 11) rfl 1 (by decide) rfl (v := .int (μ16.1 0 1)) shm_0 rfl fl_X12_308 dX12_itemValue_249 ?_
              refine g_iast cx hw shm_42 h dX12_itemValue_252 (fun μ18 H locs h hw => ?_)
              refine lv_goto (tgt := 277) hx hb dX12_itemValue_253 (by decide) ?_
              refine lv_aload_n hx hb dX12_itemValue_277 rfl (lv_at hl 3 rfl) ?_
              obtain ⟨r20, μ19, gr20, h⟩ := bd_some h
              refine g_callVI (As := []) (rest := []) cx hw hA (t_X12_given l G ad μ18 gr20) shm_0 rfl ml_X12_636 im_X12_given se_X12_given in_X12 co_X12_given rfl hd_X12_given rfl ⟨(Nat.le_of_ble_eq_true rfl), (Nat.le_of_ble_eq_true rfl)⟩ hl.1 rfl (Nat.le_of_ble_eq_true rfl) dX12_itemValue_278 ⟨rfl, rfl⟩ (fun H locs hw => ?_)
              exact g_iret cx hr hlk hw h dX12_itemValue_281
          · rw [if_pos c10] at h
            refine lv_aload_n hx hb dX12_itemValue_166 rfl (lv_at hl 3 rfl) ?_
            refine lv_aload_n hx hb dX12_itemValue_167 rfl (lv_at hl 3 rfl) ?_
            refine lv_iload_n hx hb dX12_itemValue_168 rfl (lv_at hl 5 rfl) ?_
            refine lv_iconst (v := 1) hx hb dX12_itemValue_169 (by decide) ?_
            refine lv_iadd hx hb dX12_itemValue_170 ?_
            obtain ⟨r22, μ21, gr22, h⟩ := bd_some h
            refine g_callVI (As := [.int (a2 + (1 : Int32))]) (rest := [.ref (ad 0)]) cx hw hA (t_X12_valueOf l G ad (a2 + (1 : Int32)) μ8 gr22) shm_0 rfl ml_X12_821 im_X12_valueOf se_X12_valueOf in_X12 co_X12_valueOf rfl hd_X12_valueOf rfl ⟨(Nat.le_of_ble_eq_true rfl), (Nat.le_of_ble_eq_true rfl)⟩ hl.1 rfl (Nat.le_of_ble_eq_true rfl) dX12_itemValue_171 ⟨rfl, rfl⟩ (fun H locs hw => ?_)
            obtain ⟨r24, μ23, gr24, h⟩ := bd_some h
            refine g_callVI (As := [.int r22]) (rest := []) cx hw hA (t_X12_num l G ad r22 μ21 gr24) shm_0 rfl ml_X12_597 im_X12_num se_X12_num in_X12 co_X12_num rfl hd_X12_num rfl ⟨(Nat.le_of_ble_eq_true rfl), (Nat.le_of_ble_eq_true rfl)⟩ hl.1 rfl (Nat.le_of_ble_eq_true rfl) dX12_itemValue_174 ⟨rfl, rfl⟩ (fun H locs hw => ?_)
            refine lv_istore (lv' := [(6, .int r24), (5, .int r9), (4, .int r4), (3, .int v1), (0, .ref (ad 0)), (1, .int a1), (2, .int a2)]) hx hb dX12_itemValue_177 hl (by decide) rfl (fun ls hl => ?_)
            refine lv_aload_n hx hb dX12_itemValue_179 rfl (lv_at hl 4 rfl) ?_
            refine lv_aload_n hx hb dX12_itemValue_180 rfl (lv_at hl 4 rfl) ?_
            refine g_get cx hw inX12 (ci := 11) rfl 80 (by decide) rfl (v := .ref (ad 48)) shm_0 rfl fl_X12_160 dX12_itemValue_181 ?_
            refine lv_iload_n hx hb dX12_itemValue_184 rfl (lv_at hl 5 rfl) ?_
            refine g_iald cx hw shm_48 h dX12_itemValue_185 (fun h => ?_)
            refine lv_aload_n hx hb dX12_itemValue_186 rfl (lv_at hl 4 rfl) ?_
            refine g_get cx hw inX12 (ci := 11) rfl 51 (by decide) rfl (v := .ref (ad 30)) shm_0 rfl fl_X12_106 dX12_itemValue_187 ?_
            refine lv_iload hx hb dX12_itemValue_190 (lv_at hl 1 rfl) ?_
            refine g_iald cx hw shm_30 h dX12_itemValue_192 (fun h => ?_)
            refine lv_aload_n hx hb dX12_itemValue_193 rfl (lv_at hl 4 rfl) ?_
            refine g_get cx hw inX12 (ci := 11) rfl 52 (by decide) rfl (v := .ref (ad 31)) shm_0 rfl fl_X12_109 dX12_itemValue_194 ?_
            refine lv_iload hx hb dX12_itemValue_197 (lv_at hl 1 rfl) ?_
            refine g_iald cx hw shm_31 h dX12_itemValue_199 (fun h => ?_)
            refine lv_aload_n hx hb dX12_itemValue_200 rfl (lv_at hl 4 rfl) ?_
            refine g_get cx hw inX12 (ci := 11) rfl 51 (by decide) rfl (v := .ref (ad 30)) shm_0 rfl fl_X12_106 dX12_itemValue_201 ?_
            refine lv_iload hx hb dX12_itemValue_204 (lv_at hl 0 rfl) ?_
            refine g_iald cx hw shm_30 h dX12_itemValue_206 (fun h => ?_)
            refine lv_aload_n hx hb dX12_itemValue_207 rfl (lv_at hl 4 rfl) ?_
            refine g_get cx hw inX12 (ci := 11) rfl 52 (by decide) rfl (v := .ref (ad 31)) shm_0 rfl fl_X12_109 dX12_itemValue_208 ?_
            refine lv_iload hx hb dX12_itemValue_211 (lv_at hl 0 rfl) ?_
            refine g_iald cx hw shm_31 h dX12_itemValue_213 (fun h => ?_)
            obtain ⟨μ25, gμ25, h⟩ := bw_some h
            refine g_callVV (As := [.int (μ23.1 48 a1.toNatClampNeg), .int (μ23.1 30 r9.toNatClampNeg), .int (μ23.1 31 r9.toNatClampNeg), .int (μ23.1 30 r24.toNatClampNeg), .int (μ23.1 31 r24.toNatClampNeg)]) (rest := []) cx hw hA (t_X12_join l G ad (μ23.1 48 a1.toNatClampNeg) (μ23.1 30 r9.toNatClampNeg) (μ23.1 31 r9.toNatClampNeg) (μ23.1 30 r24.toNatClampNeg) (μ23.1 31 r24.toNatClampNeg) μ23 gμ25) shm_0 rfl ml_X12_348 im_X12_join se_X12_join in_X12 co_X12_join rfl hd_X12_join rfl ⟨(Nat.le_of_ble_eq_true rfl), (Nat.le_of_ble_eq_true rfl)⟩ hl.1 rfl (Nat.le_of_ble_eq_true rfl) dX12_itemValue_214 ⟨rfl, rfl⟩ (fun H locs hw => ?_)
            refine lv_goto (tgt := 277) hx hb dX12_itemValue_217 (by decide) ?_
            refine lv_aload_n hx hb dX12_itemValue_277 rfl (lv_at hl 4 rfl) ?_
            obtain ⟨r28, μ27, gr28, h⟩ := bd_some h
            refine g_callVI (As := []) (rest := []) cx hw hA (t_X12_given l G ad μ25 gr28) shm_0 rfl ml_X12_636 im_X12_given se_X12_given in_X12 co_X12_given rfl hd_X12_given rfl ⟨(Nat.le_of_ble_eq_true rfl), (Nat.le_of_ble_eq_true rfl)⟩ hl.1 rfl (Nat.le_of_ble_eq_true rfl) dX12_itemValue_278 ⟨rfl, rfl⟩ (fun H locs hw => ?_)
            exact g_iret cx hr hlk hw h dX12_itemValue_281
        · rw [if_pos c7] at h
          refine lv_aload_n hx hb dX12_itemValue_126 rfl (lv_at hl 2 rfl) ?_
          refine g_get cx hw inX12 (ci := 11) rfl 51 (by decide) rfl (v := .ref (ad 30)) shm_0 rfl fl_X12_106 dX12_itemValue_127 ?_
          refine lv_iload hx hb dX12_itemValue_130 (lv_at hl 0 rfl) ?_
          refine g_iald cx hw shm_30 h dX12_itemValue_132 (fun h => ?_)
          refine lv_iconst (v := 2) hx hb dX12_itemValue_133 (by decide) ?_
          refine lv_icmp_ne (tgt := 147) hx hb dX12_itemValue_134 (by decide) (fun c29 => ?_) (fun c29 => ?_)
          · rw [if_neg c29] at h
            refine lv_aload_n hx hb dX12_itemValue_147 rfl (lv_at hl 2 rfl) ?_
            refine lv_iconst (v := 0) hx hb dX12_itemValue_148 (by decide) ?_
            refine lv_iconst (v := 0) hx hb dX12_itemValue_149 (by decide) ?_
            obtain ⟨r31, μ30, gr31, h⟩ := bd_some h
            refine g_callVI (As := [.int 0, .int 0]) (rest := []) cx hw hA (t_X12_node l G ad (0 : Int32) (0 : Int32) μ3 gr31) shm_0 rfl ml_X12_527 im_X12_node se_X12_node in_X12 co_X12_node rfl hd_X12_node rfl ⟨(Nat.le_of_ble_eq_true rfl), (Nat.le_of_ble_eq_true rfl)⟩ hl.1 rfl (Nat.le_of_ble_eq_true rfl) dX12_itemValue_150 ⟨rfl, rfl⟩ (fun H locs hw => ?_)
            exact g_iret cx hr hlk hw h dX12_itemValue_153
          · rw [if_pos c29] at h
            refine lv_aload_n hx hb dX12_itemValue_137 rfl (lv_at hl 2 rfl) ?_
            refine g_get cx hw inX12 (ci := 11) rfl 53 (by decide) rfl (v := .ref (ad 32)) shm_0 rfl fl_X12_112 dX12_itemValue_138 ?_
            refine lv_iload hx hb dX12_itemValue_141 (lv_at hl 0 rfl) ?_
            refine g_iald cx hw shm_32 h dX12_itemValue_143 (fun h => ?_)
            refine lv_goto (tgt := 153) hx hb dX12_itemValue_144 (by decide) ?_
            exact g_iret cx hr hlk hw h dX12_itemValue_153
      · rw [if_pos c6] at h
        refine lv_aload_n hx hb dX12_itemValue_97 rfl (lv_at hl 2 rfl) ?_
        refine g_get cx hw inX12 (ci := 11) rfl 51 (by decide) rfl (v := .ref (ad 30)) shm_0 rfl fl_X12_106 dX12_itemValue_98 ?_
        refine lv_iload hx hb dX12_itemValue_101 (lv_at hl 0 rfl) ?_
        refine g_iald cx hw shm_30 h dX12_itemValue_103 (fun h => ?_)
        refine lv_iconst (v := 2) hx hb dX12_itemValue_104 (by decide) ?_
        refine lv_icmp_ne (tgt := 118) hx hb dX12_itemValue_105 (by decide) (fun c32 => ?_) (fun c32 => ?_)
        · rw [if_neg c32] at h
          refine lv_iload hx hb dX12_itemValue_118 (lv_at hl 0 rfl) ?_
          exact g_iret cx hr hlk hw h dX12_itemValue_120
        · rw [if_pos c32] at h
          refine lv_aload_n hx hb dX12_itemValue_108 rfl (lv_at hl 2 rfl) ?_
          refine g_get cx hw inX12 (ci := 11) rfl 52 (by decide) rfl (v := .ref (ad 31)) shm_0 rfl fl_X12_109 dX12_itemValue_109 ?_
          refine lv_iload hx hb dX12_itemValue_112 (lv_at hl 0 rfl) ?_
          refine g_iald cx hw shm_31 h dX12_itemValue_114 (fun h => ?_)
          refine lv_goto (tgt := 120) hx hb dX12_itemValue_115 (by decide) ?_
          exact g_iret cx hr hlk hw h dX12_itemValue_120
    · rw [if_pos c5] at h
      refine lv_aload_n hx hb dX12_itemValue_57 rfl (lv_at hl 2 rfl) ?_
      refine lv_iload hx hb dX12_itemValue_58 (lv_at hl 0 rfl) ?_
      refine lv_aload_n hx hb dX12_itemValue_60 rfl (lv_at hl 2 rfl) ?_
      refine lv_iload_n hx hb dX12_itemValue_61 rfl (lv_at hl 4 rfl) ?_
      refine lv_iconst (v := 1) hx hb dX12_itemValue_62 (by decide) ?_
      refine lv_iadd hx hb dX12_itemValue_63 ?_
      obtain ⟨r34, μ33, gr34, h⟩ := bd_some h
      refine g_callVI (As := [.int (a2 + (1 : Int32))]) (rest := [.int r4, .ref (ad 0)]) cx hw hA (t_X12_valueOf l G ad (a2 + (1 : Int32)) μ3 gr34) shm_0 rfl ml_X12_821 im_X12_valueOf se_X12_valueOf in_X12 co_X12_valueOf rfl hd_X12_valueOf rfl ⟨(Nat.le_of_ble_eq_true rfl), (Nat.le_of_ble_eq_true rfl)⟩ hl.1 rfl (Nat.le_of_ble_eq_true rfl) dX12_itemValue_64 ⟨rfl, rfl⟩ (fun H locs hw => ?_)
      obtain ⟨r36, μ35, gr36, h⟩ := bd_some h
      refine g_callVI (As := [.int r4, .int r34]) (rest := []) cx hw hA (t_X12_pair l G ad r4 r34 μ33 gr36) shm_0 rfl ml_X12_539 im_X12_pair se_X12_pair in_X12 co_X12_pair rfl hd_X12_pair rfl ⟨(Nat.le_of_ble_eq_true rfl), (Nat.le_of_ble_eq_true rfl)⟩ hl.1 rfl (Nat.le_of_ble_eq_true rfl) dX12_itemValue_67 ⟨rfl, rfl⟩ (fun H locs hw => ?_)
      refine lv_istore (lv' := [(5, .int r36), (4, .int r4), (3, .int v1), (0, .ref (ad 0)), (1, .int a1), (2, .int a2)]) hx hb dX12_itemValue_70 hl (by decide) rfl (fun ls hl => ?_)
      refine lv_aload_n hx hb dX12_itemValue_72 rfl (lv_at hl 3 rfl) ?_
      refine g_get cx hw inX12 (ci := 11) rfl 54 (by decide) rfl (v := .ref (ad 33)) shm_0 rfl fl_X12_115 dX12_itemValue_73 ?_
      refine lv_iload hx hb dX12_itemValue_76 (lv_at hl 0 rfl) ?_
      refine g_iald cx hw shm_33 h dX12_itemValue_78 (fun h => ?_)
      refine lv_bipush (v := 40) hx hb dX12_itemValue_79 (by decide) ?_
      refine lv_icmp_le (tgt := 89) hx hb dX12_itemValue_81 (by decide) (fun c37 => ?_) (fun c37 => ?_)
      · rw [if_pos c37] at h
        refine lv_iload hx hb dX12_itemValue_89 (lv_at hl 0 rfl) ?_
        exact g_iret cx hr hlk hw h dX12_itemValue_91
      · rw [if_neg c37] at h
        refine lv_aload_n hx hb dX12_itemValue_84 rfl (lv_at hl 3 rfl) ?_
        refine lv_iconst (v := 2) hx hb dX12_itemValue_85 (by decide) ?_
        refine g_put cx hw inX12 (ci := 11) rfl tyX12_ok nmX12 68 (by decide) rfl rfl rfl rfl shm_0 h fl_X12_557 dX12_itemValue_86 (fun μ38 H locs h hw => ?_)
        refine lv_iload hx hb dX12_itemValue_89 (lv_at hl 0 rfl) ?_
        exact g_iret cx hr hlk hw h dX12_itemValue_91
  · rw [if_pos c2] at h
    refine lv_aload_n hx hb dX12_itemValue_13 rfl (lv_at hl 1 rfl) ?_
    refine lv_aload_n hx hb dX12_itemValue_14 rfl (lv_at hl 1 rfl) ?_
    refine g_get cx hw inX12 (ci := 11) rfl 80 (by decide) rfl (v := .ref (ad 48)) shm_0 rfl fl_X12_160 dX12_itemValue_15 ?_
    refine lv_iload_n hx hb dX12_itemValue_18 rfl (lv_at hl 2 rfl) ?_
    refine g_iald cx hw shm_48 h dX12_itemValue_19 (fun h => ?_)
    refine lv_iconst (v := 4) hx hb dX12_itemValue_20 (by decide) ?_
    refine lv_icmp_ge (tgt := 28) hx hb dX12_itemValue_21 (by decide) (fun c39 => ?_) (fun c39 => ?_)
    · rw [if_pos c39] at h
      refine lv_iconst (v := 1) hx hb dX12_itemValue_28 (by decide) ?_
      exact t_X12_itemValue_b29 l G ad _  a1 (1 : Int32) μ h p e s m below meth c A ls H locs cx hr hlk hA (lv_sub hl [1, 2] rfl) hw
    · rw [if_neg c39] at h
      refine lv_iconst (v := 0) hx hb dX12_itemValue_24 (by decide) ?_
      refine lv_goto (tgt := 29) hx hb dX12_itemValue_25 (by decide) ?_
      exact t_X12_itemValue_b29 l G ad _  a1 (0 : Int32) μ h p e s m below meth c A ls H locs cx hr hlk hA (lv_sub hl [1, 2] rfl) hw
