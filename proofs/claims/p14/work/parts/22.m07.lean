theorem p_X12_behindPart_b21_ex : ∃ f : (Nat → Int32 → Int32 → Mem → Option (Int32 × Mem)) → Nat → Int32 → Int32 → Int32 → Mem → Option (Int32 × Mem), ∀ (K4 : Nat → Int32 → Int32 → Mem → Option (Int32 × Mem)) (a0 : Nat) (a3 : Int32) (k0 : Int32) (k1 : Int32) (μ : Mem), f K4 a0 a3 k0 k1 μ = bv (k1 + k0) (fun v3 => bv (a3 + 1) (fun v4 => K4 a0 v3 v4 μ)) := ⟨fun (K4 : Nat → Int32 → Int32 → Mem → Option (Int32 × Mem)) (a0 : Nat) (a3 : Int32) (k0 : Int32) (k1 : Int32) (μ : Mem) => bv (k1 + k0) (fun v3 => bv (a3 + 1) (fun v4 => K4 a0 v3 v4 μ)), fun _ _ _ _ _ _ => rfl⟩
noncomputable def p_X12_behindPart_b21 : (Nat → Int32 → Int32 → Mem → Option (Int32 × Mem)) → Nat → Int32 → Int32 → Int32 → Mem → Option (Int32 × Mem) := Classical.choose p_X12_behindPart_b21_ex
theorem p_X12_behindPart_b21_eq (K4 : Nat → Int32 → Int32 → Mem → Option (Int32 × Mem)) (a0 : Nat) (a3 : Int32) (k0 : Int32) (k1 : Int32) (μ : Mem) : p_X12_behindPart_b21 K4 a0 a3 k0 k1 μ = bv (k1 + k0) (fun v3 => bv (a3 + 1) (fun v4 => K4 a0 v3 v4 μ)) := Classical.choose_spec p_X12_behindPart_b21_ex K4 a0 a3 k0 k1 μ
set_option maxHeartbeats 4000000 in
set_option maxRecDepth 100000 in
theorem t_X12_behindPart_b21 (l : Launch) (G : Gt) (ad : Nat → Nat) (av : List Value) {r : Int32} {μz : Mem} (K4 : Nat → Int32 → Int32 → Mem → Option (Int32 × Mem)) (hK4 : ∀ (z0 : Nat) (w0 : (sh 1 z0).1 = 1) (z2 : Int32) (z3 : Int32) (μ1 : Mem), K4 z0 z2 z3 μ1 = some (r, μz) → Bk l cX12_behindPart 4 RX12 (some .int) ({ frames := 0, cells := 0, slots := 0, locals := 0 } : Room) G av (eI 1 G ad r μz) (wd 1 G ad μ1) 4 [(0, .ref (ad z0)), (2, .int z2), (3, .int z3)] []) (a0 : Nat) (q0 : (sh 1 a0).1 = 1) (a3 : Int32) (k0 : Int32) (k1 : Int32) (μ : Mem) (h : p_X12_behindPart_b21 K4 a0 a3 k0 k1 μ = some (r, μz)) : Bk l cX12_behindPart 4 RX12 (some .int) ({ frames := 0, cells := 0, slots := 0, locals := 0 } : Room) G av (eI 1 G ad r μz) (wd 1 G ad μ) 21 [(0, .ref (ad a0)), (3, .int a3)] [.int k0, .int k1] := by
  intro p e s m below meth c A ls H locs cx hr hlk hA hl hw
  have hx := cx.1
  have hb := cx.2.1
  rw [p_X12_behindPart_b21_eq] at h
  refine lv_iadd hx hb dX12_behindPart_21 ?_
  obtain ⟨v3, ev3, h⟩ := bv_ex h
  refine lv_topi (fun y9 z9 => ?_)
  obtain rfl : v3 = y9 := ev3.trans z9.symm
  refine lv_istore_n (lv' := [(2, .int v3), (0, .ref (ad a0)), (3, .int a3)]) hx hb dX12_behindPart_22 rfl hl (by decide) rfl (fun ls hl => ?_)
  obtain ⟨v4, ev4, h⟩ := bv_ex h
  refine lv_iinc (v := v4) (lv' := [(3, .int v4), (2, .int v3), (0, .ref (ad a0))]) hx hb dX12_behindPart_23 hl (k := 2) rfl (by rw [ev4]; rfl) (by decide) rfl (fun ls hl => ?_)
  refine lv_goto (tgt := 4) hx hb dX12_behindPart_26 (by decide) ?_
  exact hK4 a0 (sh_f (sh_k q0)) v3 v4 μ h p e s m below meth c A ls H locs cx hr hlk hA (lv_sub hl [2, 1, 0] rfl) hw
theorem p_X12_behindPart_b4_ex : ∃ f : Nat → Nat → Int32 → Int32 → Mem → Option (Int32 × Mem), (∀ (a0 : Nat) (a2 : Int32) (a3 : Int32) (μ : Mem), f  0 a0 a2 a3 μ = none) ∧ (∀ (n : Nat) (a0 : Nat) (a2 : Int32) (a3 : Int32) (μ : Mem), f  (n + 1) a0 a2 a3 μ = (if a2 ≤ (0 : Int32) then some (a3, μ) else gd (inb a3 ((sh 1 a0).2)) ((if (μ.1 a0 a3.toNatClampNeg) = (2 : Int32) then p_X12_behindPart_b21 (f n) a0 a3 (1 : Int32) a2 μ else p_X12_behindPart_b21 (f n) a0 a3 (-1 : Int32) a2 μ)))) := ⟨fun n => Nat.rec (fun (a0 : Nat) (a2 : Int32) (a3 : Int32) (μ : Mem) => none) (fun _ ih => fun (a0 : Nat) (a2 : Int32) (a3 : Int32) (μ : Mem) => (if a2 ≤ (0 : Int32) then some (a3, μ) else gd (inb a3 ((sh 1 a0).2)) ((if (μ.1 a0 a3.toNatClampNeg) = (2 : Int32) then p_X12_behindPart_b21 (ih) a0 a3 (1 : Int32) a2 μ else p_X12_behindPart_b21 (ih) a0 a3 (-1 : Int32) a2 μ)))) n, fun  _ _ _ _ => rfl, fun  _ _ _ _ _ => rfl⟩
noncomputable def p_X12_behindPart_b4 : Nat → Nat → Int32 → Int32 → Mem → Option (Int32 × Mem) := Classical.choose p_X12_behindPart_b4_ex
theorem p_X12_behindPart_b4_z (a0 : Nat) (a2 : Int32) (a3 : Int32) (μ : Mem) : p_X12_behindPart_b4  0 a0 a2 a3 μ = none := (Classical.choose_spec p_X12_behindPart_b4_ex).1  a0 a2 a3 μ
theorem p_X12_behindPart_b4_s (n : Nat) (a0 : Nat) (a2 : Int32) (a3 : Int32) (μ : Mem) : p_X12_behindPart_b4  (n + 1) a0 a2 a3 μ = (if a2 ≤ (0 : Int32) then some (a3, μ) else gd (inb a3 ((sh 1 a0).2)) ((if (μ.1 a0 a3.toNatClampNeg) = (2 : Int32) then p_X12_behindPart_b21 (p_X12_behindPart_b4  n) a0 a3 (1 : Int32) a2 μ else p_X12_behindPart_b21 (p_X12_behindPart_b4  n) a0 a3 (-1 : Int32) a2 μ))) := (Classical.choose_spec p_X12_behindPart_b4_ex).2  n a0 a2 a3 μ
set_option maxHeartbeats 4000000 in
set_option maxRecDepth 100000 in
theorem t_X12_behindPart_b4 (l : Launch) (G : Gt) (ad : Nat → Nat) (av : List Value) {r : Int32} {μz : Mem} : ∀ (n : Nat) (a0 : Nat) (q0 : (sh 1 a0).1 = 1) (a2 : Int32) (a3 : Int32) (μ : Mem), p_X12_behindPart_b4  n a0 a2 a3 μ = some (r, μz) → Bk l cX12_behindPart 4 RX12 (some .int) ({ frames := 0, cells := 0, slots := 0, locals := 0 } : Room) G av (eI 1 G ad r μz) (wd 1 G ad μ) 4 [(0, .ref (ad a0)), (2, .int a2), (3, .int a3)] [] := by
  intro n
  induction n with
  | zero => intro a0 q0 a2 a3 μ h; rw [p_X12_behindPart_b4_z] at h; cases h
  | succ n ih =>
    intro a0 q0 a2 a3 μ h p e s m below meth c A ls H locs cx hr hlk hA hl hw
    have hx := cx.1
    have hb := cx.2.1
    rw [p_X12_behindPart_b4_s] at h
    refine lv_iload_n hx hb dX12_behindPart_4 rfl (lv_at hl 1 rfl) ?_
    refine lv_if_le (tgt := 29) hx hb dX12_behindPart_5 (by decide) (fun c1 => ?_) (fun c1 => ?_)
    · rw [if_pos c1] at h
      refine lv_iload_n hx hb dX12_behindPart_29 rfl (lv_at hl 2 rfl) ?_
      exact g_iret cx hr hlk hw h dX12_behindPart_30
    · rw [if_neg c1] at h
      refine lv_iload_n hx hb dX12_behindPart_8 rfl (lv_at hl 1 rfl) ?_
      refine lv_aload_n hx hb dX12_behindPart_9 rfl (lv_at hl 0 rfl) ?_
      refine lv_iload_n hx hb dX12_behindPart_10 rfl (lv_at hl 2 rfl) ?_
      refine g_iald cx hw (sh_k q0) h dX12_behindPart_11 (fun h => ?_)
      refine lv_iconst (v := 2) hx hb dX12_behindPart_12 (by decide) ?_
      refine lv_icmp_ne (tgt := 20) hx hb dX12_behindPart_13 (by decide) (fun c2 => ?_) (fun c2 => ?_)
      · rw [if_neg c2] at h
        refine lv_iconst (v := (-1)) hx hb dX12_behindPart_20 (by decide) ?_
        exact t_X12_behindPart_b21 l G ad av _ ih a0 (sh_f (sh_k q0)) a3 (-1 : Int32) a2 μ h p e s m below meth c A ls H locs cx hr hlk hA (lv_sub hl [0, 2] rfl) hw
      · rw [if_pos c2] at h
        refine lv_iconst (v := 1) hx hb dX12_behindPart_16 (by decide) ?_
        refine lv_goto (tgt := 21) hx hb dX12_behindPart_17 (by decide) ?_
        exact t_X12_behindPart_b21 l G ad av _ ih a0 (sh_f (sh_k q0)) a3 (1 : Int32) a2 μ h p e s m below meth c A ls H locs cx hr hlk hA (lv_sub hl [0, 2] rfl) hw
theorem p_X12_behindPart_ex : ∃ f : Nat → Int32 → Mem → Option (Int32 × Mem), ∀ (a0 : Nat) (a1 : Int32) (μ : Mem), f a0 a1 μ = p_X12_behindPart_b4  FUEL a0 (1 : Int32) a1 μ := ⟨fun (a0 : Nat) (a1 : Int32) (μ : Mem) => p_X12_behindPart_b4  FUEL a0 (1 : Int32) a1 μ, fun _ _ _ => rfl⟩
noncomputable def p_X12_behindPart : Nat → Int32 → Mem → Option (Int32 × Mem) := Classical.choose p_X12_behindPart_ex
theorem p_X12_behindPart_eq (a0 : Nat) (a1 : Int32) (μ : Mem) : p_X12_behindPart a0 a1 μ = p_X12_behindPart_b4  FUEL a0 (1 : Int32) a1 μ := Classical.choose_spec p_X12_behindPart_ex a0 a1 μ
set_option maxHeartbeats 4000000 in
set_option maxRecDepth 100000 in
theorem t_X12_behindPart (l : Launch) (G : Gt) (ad : Nat → Nat) (a0 : Nat) (q0 : (sh 1 a0).1 = 1) (a1 : Int32) (μ : Mem) {r : Int32} {μz : Mem} (h : p_X12_behindPart a0 a1 μ = some (r, μz)) : Mt l yX12_behindPart cX12_behindPart 4 (some .int) ({ frames := 0, cells := 0, slots := 0, locals := 0 } : Room) G [.ref (ad a0), .int a1] (wd 1 G ad μ) (eI 1 G ad r μz) := by
  refine Bk.mt (by decide) rfl (Nat.le_of_ble_eq_true rfl) ?_
  intro p e s m below meth c A ls H locs cx hr hlk hA hl hw
  have hx := cx.1
  have hb := cx.2.1
  have hl : lv_has ls 4 [(0, .ref (ad a0)), (1, .int a1)] := hl
  rw [p_X12_behindPart_eq] at h
  refine lv_iconst (v := 1) hx hb dX12_behindPart_0 (by decide) ?_
  refine lv_istore_n (lv' := [(2, .int 1), (0, .ref (ad a0)), (1, .int a1)]) hx hb dX12_behindPart_1 rfl hl (by decide) rfl (fun ls hl => ?_)
  refine lv_iload_n hx hb dX12_behindPart_2 rfl (lv_at hl 2 rfl) ?_
  refine lv_istore_n (lv' := [(3, .int a1), (2, .int 1), (0, .ref (ad a0)), (1, .int a1)]) hx hb dX12_behindPart_3 rfl hl (by decide) rfl (fun ls hl => ?_)
  exact t_X12_behindPart_b4 l G ad _  FUEL a0 (sh_f (sh_k q0)) (1 : Int32) a1 μ h p e s m below meth c A ls H locs cx hr hlk hA (lv_sub hl [2, 1, 0] rfl) hw

theorem p_X12_growBy_b264_ex : ∃ f : (Int32 → Int32 → Int32 → Mem → Option Mem) → Int32 → Int32 → Int32 → Mem → Option Mem, ∀ (K11 : Int32 → Int32 → Int32 → Mem → Option Mem) (a3 : Int32) (a4 : Int32) (a8 : Int32) (μ : Mem), f K11 a3 a4 a8 μ = bd (p_X12_behindPart 60 a3 μ) (fun r27 μ26 => K11 a8 r27 a4 μ26) := ⟨fun (K11 : Int32 → Int32 → Int32 → Mem → Option Mem) (a3 : Int32) (a4 : Int32) (a8 : Int32) (μ : Mem) => bd (p_X12_behindPart 60 a3 μ) (fun r27 μ26 => K11 a8 r27 a4 μ26), fun _ _ _ _ _ => rfl⟩
noncomputable def p_X12_growBy_b264 : (Int32 → Int32 → Int32 → Mem → Option Mem) → Int32 → Int32 → Int32 → Mem → Option Mem := Classical.choose p_X12_growBy_b264_ex
theorem p_X12_growBy_b264_eq (K11 : Int32 → Int32 → Int32 → Mem → Option Mem) (a3 : Int32) (a4 : Int32) (a8 : Int32) (μ : Mem) : p_X12_growBy_b264 K11 a3 a4 a8 μ = bd (p_X12_behindPart 60 a3 μ) (fun r27 μ26 => K11 a8 r27 a4 μ26) := Classical.choose_spec p_X12_growBy_b264_ex K11 a3 a4 a8 μ
set_option maxHeartbeats 4000000 in
set_option maxRecDepth 100000 in
theorem t_X12_growBy_b264 (l : Launch) (G : Gt) (ad : Nat → Nat) (av : List Value) {μz : Mem} (K11 : Int32 → Int32 → Int32 → Mem → Option Mem) (hK11 : ∀ (z2 : Int32) (z3 : Int32) (z4 : Int32) (μ1 : Mem), K11 z2 z3 z4 μ1 = some μz → Bk l cX12_growBy 10 RX12 none ({ frames := 5, cells := 0, slots := 0, locals := 110 } : Room) G av (eV 1 G ad μz) (wd 1 G ad μ1) 11 [(0, .ref (ad 0)), (2, .int z2), (3, .int z3), (4, .int z4)] []) (a3 : Int32) (a4 : Int32) (a8 : Int32) (μ : Mem) (h : p_X12_growBy_b264 K11 a3 a4 a8 μ = some μz) : Bk l cX12_growBy 10 RX12 none ({ frames := 5, cells := 0, slots := 0, locals := 110 } : Room) G av (eV 1 G ad μz) (wd 1 G ad μ) 264 [(0, .ref (ad 0)), (3, .int a3), (4, .int a4), (8, .int a8)] [] := by
  intro p e s m below meth c A ls H locs cx hr hlk hA hl hw
  have hx := cx.1
  have hb := cx.2.1
  rw [p_X12_growBy_b264_eq] at h
  refine lv_iload hx hb dX12_growBy_264 (lv_at hl 3 rfl) ?_
  refine lv_istore_n (lv' := [(2, .int a8), (0, .ref (ad 0)), (3, .int a3), (4, .int a4), (8, .int a8)]) hx hb dX12_growBy_266 rfl hl (by decide) rfl (fun ls hl => ?_)
  refine lv_aload_n hx hb dX12_growBy_267 rfl (lv_at hl 1 rfl) ?_
  refine g_get cx hw inX12 (ci := 11) rfl 103 (by decide) rfl (v := .ref (ad 60)) shm_0 rfl fl_X12_196 dX12_growBy_268 ?_
  refine lv_iload_n hx hb dX12_growBy_271 rfl (lv_at hl 2 rfl) ?_
  obtain ⟨r27, μ26, gr27, h⟩ := bd_some h
  refine g_callSI (As := [.ref (ad 60), .int a3]) (rest := []) cx hw hA (t_X12_behindPart l G ad 60 (sh_f shm_60) a3 μ gr27) ml_X12_720 st_X12_behindPart in_X12 co_X12_behindPart hd_X12_behindPart rfl ⟨(Nat.le_of_ble_eq_true rfl), (Nat.le_of_ble_eq_true rfl)⟩ hl.1 rfl (Nat.le_of_ble_eq_true rfl) dX12_growBy_272 ⟨rfl, rfl⟩ (fun H locs hw => ?_)
  refine lv_istore_n (lv' := [(3, .int r27), (2, .int a8), (0, .ref (ad 0)), (4, .int a4), (8, .int a8)]) hx hb dX12_growBy_275 rfl hl (by decide) rfl (fun ls hl => ?_)
  refine lv_goto (tgt := 11) hx hb dX12_growBy_276 (by decide) ?_
  exact hK11 a8 r27 a4 μ26 h p e s m below meth c A ls H locs cx hr hlk hA (lv_sub hl [2, 1, 0, 3] rfl) hw
theorem p_X12_growBy_b201_ex : ∃ f : (Int32 → Int32 → Int32 → Mem → Option Mem) → Nat → Int32 → Int32 → Int32 → Int32 → Int32 → Mem → Option Mem, (∀ (K11 : Int32 → Int32 → Int32 → Mem → Option Mem) (a3 : Int32) (a4 : Int32) (a7 : Int32) (a8 : Int32) (a9 : Int32) (μ : Mem), f K11 0 a3 a4 a7 a8 a9 μ = none) ∧ (∀ (K11 : Int32 → Int32 → Int32 → Mem → Option Mem) (n : Nat) (a3 : Int32) (a4 : Int32) (a7 : Int32) (a8 : Int32) (a9 : Int32) (μ : Mem), f K11 (n + 1) a3 a4 a7 a8 a9 μ = (if a8 ≤ a9 then p_X12_growBy_b264 K11 a3 a4 a8 μ else (if a7 = (0 : Int32) then gd (inb a9 210) (gd (inb a4 210) (bv (sF μ 70 a4.toNatClampNeg (μ.1 67 a9.toNatClampNeg)) (fun μ29 => gd (inb a9 210) (gd (inb a4 210) (bv (sF μ29 71 a4.toNatClampNeg (μ29.1 68 a9.toNatClampNeg)) (fun μ30 => gd (inb a9 210) (gd (inb a4 210) (bv (sF μ30 72 a4.toNatClampNeg (μ30.1 69 a9.toNatClampNeg)) (fun μ31 => bv (a4 + 1) (fun v32 => bv (a9 + 1) (fun v33 => f K11 n a3 v32 a7 a8 v33 μ31))))))))))) else p_X12_growBy_b264 K11 a3 a4 a8 μ))) := ⟨fun (K11 : Int32 → Int32 → Int32 → Mem → Option Mem) n => Nat.rec (fun (a3 : Int32) (a4 : Int32) (a7 : Int32) (a8 : Int32) (a9 : Int32) (μ : Mem) => none) (fun _ ih => fun (a3 : Int32) (a4 : Int32) (a7 : Int32) (a8 : Int32) (a9 : Int32) (μ : Mem) => (if a8 ≤ a9 then p_X12_growBy_b264 K11 a3 a4 a8 μ else (if a7 = (0 : Int32) then gd (inb a9 210) (gd (inb a4 210) (bv (sF μ 70 a4.toNatClampNeg (μ.1 67 a9.toNatClampNeg)) (fun μ29 => gd (inb a9 210) (gd (inb a4 210) (bv (sF μ29 71 a4.toNatClampNeg (μ29.1 68 a9.toNatClampNeg)) (fun μ30 => gd (inb a9 210) (gd (inb a4 210) (bv (sF μ30 72 a4.toNatClampNeg (μ30.1 69 a9.toNatClampNeg)) (fun μ31 => bv (a4 + 1) (fun v32 => bv (a9 + 1) (fun v33 => ih a3 v32 a7 a8 v33 μ31))))))))))) else p_X12_growBy_b264 K11 a3 a4 a8 μ))) n, fun _ _ _ _ _ _ _ => rfl, fun _ _ _ _ _ _ _ _ => rfl⟩
noncomputable def p_X12_growBy_b201 : (Int32 → Int32 → Int32 → Mem → Option Mem) → Nat → Int32 → Int32 → Int32 → Int32 → Int32 → Mem → Option Mem := Classical.choose p_X12_growBy_b201_ex
theorem p_X12_growBy_b201_z (K11 : Int32 → Int32 → Int32 → Mem → Option Mem) (a3 : Int32) (a4 : Int32) (a7 : Int32) (a8 : Int32) (a9 : Int32) (μ : Mem) : p_X12_growBy_b201 K11 0 a3 a4 a7 a8 a9 μ = none := (Classical.choose_spec p_X12_growBy_b201_ex).1 K11 a3 a4 a7 a8 a9 μ
theorem p_X12_growBy_b201_s (K11 : Int32 → Int32 → Int32 → Mem → Option Mem) (n : Nat) (a3 : Int32) (a4 : Int32) (a7 : Int32) (a8 : Int32) (a9 : Int32) (μ : Mem) : p_X12_growBy_b201 K11 (n + 1) a3 a4 a7 a8 a9 μ = (if a8 ≤ a9 then p_X12_growBy_b264 K11 a3 a4 a8 μ else (if a7 = (0 : Int32) then gd (inb a9 210) (gd (inb a4 210) (bv (sF μ 70 a4.toNatClampNeg (μ.1 67 a9.toNatClampNeg)) (fun μ29 => gd (inb a9 210) (gd (inb a4 210) (bv (sF μ29 71 a4.toNatClampNeg (μ29.1 68 a9.toNatClampNeg)) (fun μ30 => gd (inb a9 210) (gd (inb a4 210) (bv (sF μ30 72 a4.toNatClampNeg (μ30.1 69 a9.toNatClampNeg)) (fun μ31 => bv (a4 + 1) (fun v32 => bv (a9 + 1) (fun v33 => p_X12_growBy_b201 K11 n a3 v32 a7 a8 v33 μ31))))))))))) else p_X12_growBy_b264 K11 a3 a4 a8 μ)) := (Classical.choose_spec p_X12_growBy_b201_ex).2 K11 n a3 a4 a7 a8 a9 μ
set_option maxHeartbeats 4000000 in
set_option maxRecDepth 100000 in
theorem t_X12_growBy_b201 (l : Launch) (G : Gt) (ad : Nat → Nat) (av : List Value) {μz : Mem} (K11 : Int32 → Int32 → Int32 → Mem → Option Mem) (hK11 : ∀ (z2 : Int32) (z3 : Int32) (z4 : Int32) (μ1 : Mem), K11 z2 z3 z4 μ1 = some μz → Bk l cX12_growBy 10 RX12 none ({ frames := 5, cells := 0, slots := 0, locals := 110 } : Room) G av (eV 1 G ad μz) (wd 1 G ad μ1) 11 [(0, .ref (ad 0)), (2, .int z2), (3, .int z3), (4, .int z4)] []) : ∀ (n : Nat) (a3 : Int32) (a4 : Int32) (a7 : Int32) (a8 : Int32) (a9 : Int32) (μ : Mem), p_X12_growBy_b201 K11 n a3 a4 a7 a8 a9 μ = some μz → Bk l cX12_growBy 10 RX12 none ({ frames := 5, cells := 0, slots := 0, locals := 110 } : Room) G av (eV 1 G ad μz) (wd 1 G ad μ) 201 [(0, .ref (ad 0)), (3, .int a3), (4, .int a4), (7, .int a7), (8, .int a8), (9, .int a9)] [] := by
  intro n
  induction n with
  | zero => intro a3 a4 a7 a8 a9 μ h; rw [p_X12_growBy_b201_z] at h; cases h
  | succ n ih =>
    intro a3 a4 a7 a8 a9 μ h p e s m below meth c A ls H locs cx hr hlk hA hl hw
    have hx := cx.1
    have hb := cx.2.1
    rw [p_X12_growBy_b201_s] at h
    refine lv_iload hx hb dX12_growBy_201 (lv_at hl 5 rfl) ?_
    refine lv_iload hx hb dX12_growBy_203 (lv_at hl 4 rfl) ?_
    refine lv_icmp_ge (tgt := 264) hx hb dX12_growBy_205 (by decide) (fun c25 => ?_) (fun c25 => ?_)
    · rw [if_pos c25] at h
      exact t_X12_growBy_b264 l G ad av K11 hK11 a3 a4 a8 μ h p e s m below meth c A ls H locs cx hr hlk hA (lv_sub hl [0, 1, 2, 4] rfl) hw
    · rw [if_neg c25] at h
      refine lv_iload hx hb dX12_growBy_208 (lv_at hl 3 rfl) ?_
      refine lv_if_ne (tgt := 264) hx hb dX12_growBy_210 (by decide) (fun c28 => ?_) (fun c28 => ?_)
      · rw [if_neg c28] at h
        exact t_X12_growBy_b264 l G ad av K11 hK11 a3 a4 a8 μ h p e s m below meth c A ls H locs cx hr hlk hA (lv_sub hl [0, 1, 2, 4] rfl) hw
      · rw [if_pos c28] at h
        refine lv_aload_n hx hb dX12_growBy_213 rfl (lv_at hl 0 rfl) ?_
        refine g_get cx hw inX12 (ci := 11) rfl 115 (by decide) rfl (v := .ref (ad 70)) shm_0 rfl fl_X12_226 dX12_growBy_214 ?_
        refine lv_iload hx hb dX12_growBy_217 (lv_at hl 2 rfl) ?_
        refine lv_aload_n hx hb dX12_growBy_219 rfl (lv_at hl 0 rfl) ?_
        refine g_get cx hw inX12 (ci := 11) rfl 112 (by decide) rfl (v := .ref (ad 67)) shm_0 rfl fl_X12_217 dX12_growBy_220 ?_
        refine lv_iload hx hb dX12_growBy_223 (lv_at hl 5 rfl) ?_
        refine g_iald cx hw shm_67 h dX12_growBy_225 (fun h => ?_)
        refine g_iast cx hw shm_70 h dX12_growBy_226 (fun μ29 H locs h hw => ?_)
        refine lv_aload_n hx hb dX12_growBy_227 rfl (lv_at hl 0 rfl) ?_
        refine g_get cx hw inX12 (ci := 11) rfl 116 (by decide) rfl (v := .ref (ad 71)) shm_0 rfl fl_X12_229 dX12_growBy_228 ?_
        refine lv_iload hx hb dX12_growBy_231 (lv_at hl 2 rfl) ?_
        refine lv_aload_n hx hb dX12_growBy_233 rfl (lv_at hl 0 rfl) ?_
        refine g_get cx hw inX12 (ci := 11) rfl 113 (by decide) rfl (v := .ref (ad 68)) shm_0 rfl fl_X12_220 dX12_growBy_234 ?_
        refine lv_iload hx hb dX12_growBy_237 (lv_at hl 5 rfl) ?_
        refine g_iald cx hw shm_68 h dX12_growBy_239 (fun h => ?_)
        refine g_iast cx hw shm_71 h dX12_growBy_240 (fun μ30 H locs h hw => ?_)
        refine lv_aload_n hx hb dX12_growBy_241 rfl (lv_at hl 0 rfl) ?_
        refine g_get cx hw inX12 (ci := 11) rfl 117 (by decide) rfl (v := .ref (ad 72)) shm_0 rfl fl_X12_232 dX12_growBy_242 ?_
        refine lv_iload hx hb dX12_growBy_245 (lv_at hl 2 rfl) ?_
        refine lv_aload_n hx hb dX12_growBy_247 rfl (lv_at hl 0 rfl) ?_
        refine g_get cx hw inX12 (ci := 11) rfl 114 (by decide) rfl (v := .ref (ad 69)) shm_0 rfl fl_X12_223 dX12_growBy_248 ?_
        refine lv_iload hx hb dX12_growBy_251 (lv_at hl 5 rfl) ?_
        refine g_iald cx hw shm_69 h dX12_growBy_253 (fun h => ?_)
        refine g_iast cx hw shm_72 h dX12_growBy_254 (fun μ31 H locs h hw => ?_)
        obtain ⟨v32, ev32, h⟩ := bv_ex h
        refine lv_iinc (v := v32) (lv' := [(4, .int v32), (0, .ref (ad 0)), (3, .int a3), (7, .int a7), (8, .int a8), (9, .int a9)]) hx hb dX12_growBy_255 hl (k := 2) rfl (by rw [ev32]; rfl) (by decide) rfl (fun ls hl => ?_)
        obtain ⟨v33, ev33, h⟩ := bv_ex h
        refine lv_iinc (v := v33) (lv' := [(9, .int v33), (4, .int v32), (0, .ref (ad 0)), (3, .int a3), (7, .int a7), (8, .int a8)]) hx hb dX12_growBy_258 hl (k := 5) rfl (by rw [ev33]; rfl) (by decide) rfl (fun ls hl => ?_)
        refine lv_goto (tgt := 201) hx hb dX12_growBy_261 (by decide) ?_
        exact ih a3 v32 a7 a8 v33 μ31 h p e s m below meth c A ls H locs cx hr hlk hA (lv_sub hl [2, 3, 1, 4, 5, 0] rfl) hw
theorem p_X12_growBy_b186_ex : ∃ f : (Int32 → Int32 → Int32 → Mem → Option Mem) → Int32 → Int32 → Int32 → Int32 → Mem → Option Mem, ∀ (K11 : Int32 → Int32 → Int32 → Mem → Option Mem) (a2 : Int32) (a3 : Int32) (a4 : Int32) (a7 : Int32) (μ : Mem), f K11 a2 a3 a4 a7 μ = bd (p_X12_behindPart 67 a2 μ) (fun r23 μ22 => bv (a2 + (1 : Int32)) (fun v24 => p_X12_growBy_b201 K11 FUEL a3 a4 a7 r23 v24 μ22)) := ⟨fun (K11 : Int32 → Int32 → Int32 → Mem → Option Mem) (a2 : Int32) (a3 : Int32) (a4 : Int32) (a7 : Int32) (μ : Mem) => bd (p_X12_behindPart 67 a2 μ) (fun r23 μ22 => bv (a2 + (1 : Int32)) (fun v24 => p_X12_growBy_b201 K11 FUEL a3 a4 a7 r23 v24 μ22)), fun _ _ _ _ _ _ => rfl⟩
noncomputable def p_X12_growBy_b186 : (Int32 → Int32 → Int32 → Mem → Option Mem) → Int32 → Int32 → Int32 → Int32 → Mem → Option Mem := Classical.choose p_X12_growBy_b186_ex
theorem p_X12_growBy_b186_eq (K11 : Int32 → Int32 → Int32 → Mem → Option Mem) (a2 : Int32) (a3 : Int32) (a4 : Int32) (a7 : Int32) (μ : Mem) : p_X12_growBy_b186 K11 a2 a3 a4 a7 μ = bd (p_X12_behindPart 67 a2 μ) (fun r23 μ22 => bv (a2 + (1 : Int32)) (fun v24 => p_X12_growBy_b201 K11 FUEL a3 a4 a7 r23 v24 μ22)) := Classical.choose_spec p_X12_growBy_b186_ex K11 a2 a3 a4 a7 μ
set_option maxHeartbeats 4000000 in
set_option maxRecDepth 100000 in
theorem t_X12_growBy_b186 (l : Launch) (G : Gt) (ad : Nat → Nat) (av : List Value) {μz : Mem} (K11 : Int32 → Int32 → Int32 → Mem → Option Mem) (hK11 : ∀ (z2 : Int32) (z3 : Int32) (z4 : Int32) (μ1 : Mem), K11 z2 z3 z4 μ1 = some μz → Bk l cX12_growBy 10 RX12 none ({ frames := 5, cells := 0, slots := 0, locals := 110 } : Room) G av (eV 1 G ad μz) (wd 1 G ad μ1) 11 [(0, .ref (ad 0)), (2, .int z2), (3, .int z3), (4, .int z4)] []) (a2 : Int32) (a3 : Int32) (a4 : Int32) (a7 : Int32) (μ : Mem) (h : p_X12_growBy_b186 K11 a2 a3 a4 a7 μ = some μz) : Bk l cX12_growBy 10 RX12 none ({ frames := 5, cells := 0, slots := 0, locals := 110 } : Room) G av (eV 1 G ad μz) (wd 1 G ad μ) 186 [(0, .ref (ad 0)), (2, .int a2), (3, .int a3), (4, .int a4), (7, .int a7)] [] := by
  intro p e s m below meth c A ls H locs cx hr hlk hA hl hw
  have hx := cx.1
  have hb := cx.2.1
  rw [p_X12_growBy_b186_eq] at h
  refine lv_aload_n hx hb dX12_growBy_186 rfl (lv_at hl 0 rfl) ?_
  refine g_get cx hw inX12 (ci := 11) rfl 112 (by decide) rfl (v := .ref (ad 67)) shm_0 rfl fl_X12_217 dX12_growBy_187 ?_
  refine lv_iload_n hx hb dX12_growBy_190 rfl (lv_at hl 1 rfl) ?_
  obtain ⟨r23, μ22, gr23, h⟩ := bd_some h
  refine g_callSI (As := [.ref (ad 67), .int a2]) (rest := []) cx hw hA (t_X12_behindPart l G ad 67 (sh_f shm_67) a2 μ gr23) ml_X12_720 st_X12_behindPart in_X12 co_X12_behindPart hd_X12_behindPart rfl ⟨(Nat.le_of_ble_eq_true rfl), (Nat.le_of_ble_eq_true rfl)⟩ hl.1 rfl (Nat.le_of_ble_eq_true rfl) dX12_growBy_191 ⟨rfl, rfl⟩ (fun H locs hw => ?_)
  refine lv_istore (lv' := [(8, .int r23), (0, .ref (ad 0)), (2, .int a2), (3, .int a3), (4, .int a4), (7, .int a7)]) hx hb dX12_growBy_194 hl (by decide) rfl (fun ls hl => ?_)
  refine lv_iload_n hx hb dX12_growBy_196 rfl (lv_at hl 2 rfl) ?_
  refine lv_iconst (v := 1) hx hb dX12_growBy_197 (by decide) ?_
  refine lv_iadd hx hb dX12_growBy_198 ?_
  obtain ⟨v24, ev24, h⟩ := bv_ex h
  refine lv_topi (fun y9 z9 => ?_)
  obtain rfl : v24 = y9 := ev24.trans z9.symm
  refine lv_istore (lv' := [(9, .int v24), (8, .int r23), (0, .ref (ad 0)), (2, .int a2), (3, .int a3), (4, .int a4), (7, .int a7)]) hx hb dX12_growBy_199 hl (by decide) rfl (fun ls hl => ?_)
  exact t_X12_growBy_b201 l G ad av K11 hK11 FUEL a3 a4 a7 r23 v24 μ22 h p e s m below meth c A ls H locs cx hr hlk hA (lv_sub hl [2, 4, 5, 6, 1, 0] rfl) hw
theorem p_X12_growBy_b165_ex : ∃ f : (Int32 → Int32 → Int32 → Mem → Option Mem) → Int32 → Int32 → Int32 → Int32 → Int32 → Int32 → Mem → Option Mem, ∀ (K11 : Int32 → Int32 → Int32 → Mem → Option Mem) (a2 : Int32) (a3 : Int32) (a4 : Int32) (a5 : Int32) (a6 : Int32) (a7 : Int32) (μ : Mem), f K11 a2 a3 a4 a5 a6 a7 μ = (if a5 = (2 : Int32) then (if a6 = (2 : Int32) then bv (a2 + 1) (fun v35 => bv (a3 + 1) (fun v36 => K11 v35 v36 a4 μ)) else p_X12_growBy_b186 K11 a2 a3 a4 a7 μ) else p_X12_growBy_b186 K11 a2 a3 a4 a7 μ) := ⟨fun (K11 : Int32 → Int32 → Int32 → Mem → Option Mem) (a2 : Int32) (a3 : Int32) (a4 : Int32) (a5 : Int32) (a6 : Int32) (a7 : Int32) (μ : Mem) => (if a5 = (2 : Int32) then (if a6 = (2 : Int32) then bv (a2 + 1) (fun v35 => bv (a3 + 1) (fun v36 => K11 v35 v36 a4 μ)) else p_X12_growBy_b186 K11 a2 a3 a4 a7 μ) else p_X12_growBy_b186 K11 a2 a3 a4 a7 μ), fun _ _ _ _ _ _ _ _ => rfl⟩
noncomputable def p_X12_growBy_b165 : (Int32 → Int32 → Int32 → Mem → Option Mem) → Int32 → Int32 → Int32 → Int32 → Int32 → Int32 → Mem → Option Mem := Classical.choose p_X12_growBy_b165_ex
theorem p_X12_growBy_b165_eq (K11 : Int32 → Int32 → Int32 → Mem → Option Mem) (a2 : Int32) (a3 : Int32) (a4 : Int32) (a5 : Int32) (a6 : Int32) (a7 : Int32) (μ : Mem) : p_X12_growBy_b165 K11 a2 a3 a4 a5 a6 a7 μ = (if a5 = (2 : Int32) then (if a6 = (2 : Int32) then bv (a2 + 1) (fun v35 => bv (a3 + 1) (fun v36 => K11 v35 v36 a4 μ)) else p_X12_growBy_b186 K11 a2 a3 a4 a7 μ) else p_X12_growBy_b186 K11 a2 a3 a4 a7 μ) := Classical.choose_spec p_X12_growBy_b165_ex K11 a2 a3 a4 a5 a6 a7 μ
set_option maxHeartbeats 4000000 in
set_option maxRecDepth 100000 in
theorem t_X12_growBy_b165 (l : Launch) (G : Gt) (ad : Nat → Nat) (av : List Value) {μz : Mem} (K11 : Int32 → Int32 → Int32 → Mem → Option Mem) (hK11 : ∀ (z2 : Int32) (z3 : Int32) (z4 : Int32) (μ1 : Mem), K11 z2 z3 z4 μ1 = some μz → Bk l cX12_growBy 10 RX12 none ({ frames := 5, cells := 0, slots := 0, locals := 110 } : Room) G av (eV 1 G ad μz) (wd 1 G ad μ1) 11 [(0, .ref (ad 0)), (2, .int z2), (3, .int z3), (4, .int z4)] []) (a2 : Int32) (a3 : Int32) (a4 : Int32) (a5 : Int32) (a6 : Int32) (a7 : Int32) (μ : Mem) (h : p_X12_growBy_b165 K11 a2 a3 a4 a5 a6 a7 μ = some μz) : Bk l cX12_growBy 10 RX12 none ({ frames := 5, cells := 0, slots := 0, locals := 110 } : Room) G av (eV 1 G ad μz) (wd 1 G ad μ) 165 [(0, .ref (ad 0)), (2, .int a2), (3, .int a3), (4, .int a4), (5, .int a5), (6, .int a6), (7, .int a7)] [] := by
  intro p e s m below meth c A ls H locs cx hr hlk hA hl hw
  have hx := cx.1
  have hb := cx.2.1
  rw [p_X12_growBy_b165_eq] at h
  refine lv_iload hx hb dX12_growBy_165 (lv_at hl 4 rfl) ?_
  refine lv_iconst (v := 2) hx hb dX12_growBy_167 (by decide) ?_
  refine lv_icmp_ne (tgt := 186) hx hb dX12_growBy_168 (by decide) (fun c21 => ?_) (fun c21 => ?_)
  · rw [if_neg c21] at h
    exact t_X12_growBy_b186 l G ad av K11 hK11 a2 a3 a4 a7 μ h p e s m below meth c A ls H locs cx hr hlk hA (lv_sub hl [0, 1, 2, 3, 6] rfl) hw
  · rw [if_pos c21] at h
    refine lv_iload hx hb dX12_growBy_171 (lv_at hl 5 rfl) ?_
    refine lv_iconst (v := 2) hx hb dX12_growBy_173 (by decide) ?_
    refine lv_icmp_ne (tgt := 186) hx hb dX12_growBy_174 (by decide) (fun c34 => ?_) (fun c34 => ?_)
    · rw [if_neg c34] at h
      exact t_X12_growBy_b186 l G ad av K11 hK11 a2 a3 a4 a7 μ h p e s m below meth c A ls H locs cx hr hlk hA (lv_sub hl [0, 1, 2, 3, 6] rfl) hw
    · rw [if_pos c34] at h
      obtain ⟨v35, ev35, h⟩ := bv_ex h
      refine lv_iinc (v := v35) (lv' := [(2, .int v35), (0, .ref (ad 0)), (3, .int a3), (4, .int a4), (5, .int a5), (6, .int a6), (7, .int a7)]) hx hb dX12_growBy_177 hl (k := 1) rfl (by rw [ev35]; rfl) (by decide) rfl (fun ls hl => ?_)
      obtain ⟨v36, ev36, h⟩ := bv_ex h
      refine lv_iinc (v := v36) (lv' := [(3, .int v36), (2, .int v35), (0, .ref (ad 0)), (4, .int a4), (5, .int a5), (6, .int a6), (7, .int a7)]) hx hb dX12_growBy_180 hl (k := 2) rfl (by rw [ev36]; rfl) (by decide) rfl (fun ls hl => ?_)
      refine lv_goto (tgt := 11) hx hb dX12_growBy_183 (by decide) ?_
      exact hK11 v35 v36 a4 μ h p e s m below meth c A ls H locs cx hr hlk hA (lv_sub hl [2, 1, 0, 3] rfl) hw
theorem p_X12_growBy_b133_ex : ∃ f : (Int32 → Int32 → Int32 → Mem → Option Mem) → Int32 → Int32 → Int32 → Int32 → Int32 → Int32 → Int32 → Int32 → Mem → Option Mem, ∀ (K11 : Int32 → Int32 → Int32 → Mem → Option Mem) (a2 : Int32) (a3 : Int32) (a4 : Int32) (a5 : Int32) (a6 : Int32) (a7 : Int32) (k0 : Int32) (k1 : Int32) (μ : Mem), f K11 a2 a3 a4 a5 a6 a7 k0 k1 μ = gd (inb k1 210) (bv (sF μ 71 k1.toNatClampNeg k0) (fun μ17 => gd (inb a2 210) (gd (inb a4 210) (bv (sF μ17 72 a4.toNatClampNeg (μ17.1 69 a2.toNatClampNeg)) (fun μ18 => bv (a4 + 1) (fun v19 => (if a7 = (0 : Int32) then p_X12_growBy_b165 K11 a2 a3 v19 a5 a6 a7 μ18 else bv (sF μ18 0 96 ((μ18.1 0 96) + (1 : Int32))) (fun μ37 => p_X12_growBy_b165 K11 a2 a3 v19 a5 a6 a7 μ37)))))))) := ⟨fun (K11 : Int32 → Int32 → Int32 → Mem → Option Mem) (a2 : Int32) (a3 : Int32) (a4 : Int32) (a5 : Int32) (a6 : Int32) (a7 : Int32) (k0 : Int32) (k1 : Int32) (μ : Mem) => gd (inb k1 210) (bv (sF μ 71 k1.toNatClampNeg k0) (fun μ17 => gd (inb a2 210) (gd (inb a4 210) (bv (sF μ17 72 a4.toNatClampNeg (μ17.1 69 a2.toNatClampNeg)) (fun μ18 => bv (a4 + 1) (fun v19 => (if a7 = (0 : Int32) then p_X12_growBy_b165 K11 a2 a3 v19 a5 a6 a7 μ18 else bv (sF μ18 0 96 ((μ18.1 0 96) + (1 : Int32))) (fun μ37 => p_X12_growBy_b165 K11 a2 a3 v19 a5 a6 a7 μ37)))))))), fun _ _ _ _ _ _ _ _ _ _ => rfl⟩
noncomputable def p_X12_growBy_b133 : (Int32 → Int32 → Int32 → Mem → Option Mem) → Int32 → Int32 → Int32 → Int32 → Int32 → Int32 → Int32 → Int32 → Mem → Option Mem := Classical.choose p_X12_growBy_b133_ex
theorem p_X12_growBy_b133_eq (K11 : Int32 → Int32 → Int32 → Mem → Option Mem) (a2 : Int32) (a3 : Int32) (a4 : Int32) (a5 : Int32) (a6 : Int32) (a7 : Int32) (k0 : Int32) (k1 : Int32) (μ : Mem) : p_X12_growBy_b133 K11 a2 a3 a4 a5 a6 a7 k0 k1 μ = gd (inb k1 210) (bv (sF μ 71 k1.toNatClampNeg k0) (fun μ17 => gd (inb a2 210) (gd (inb a4 210) (bv (sF μ17 72 a4.toNatClampNeg (μ17.1 69 a2.toNatClampNeg)) (fun μ18 => bv (a4 + 1) (fun v19 => (if a7 = (0 : Int32) then p_X12_growBy_b165 K11 a2 a3 v19 a5 a6 a7 μ18 else bv (sF μ18 0 96 ((μ18.1 0 96) + (1 : Int32))) (fun μ37 => p_X12_growBy_b165 K11 a2 a3 v19 a5 a6 a7 μ37)))))))) := Classical.choose_spec p_X12_growBy_b133_ex K11 a2 a3 a4 a5 a6 a7 k0 k1 μ
set_option maxHeartbeats 4000000 in
set_option maxRecDepth 100000 in
theorem t_X12_growBy_b133 (l : Launch) (G : Gt) (ad : Nat → Nat) (av : List Value) {μz : Mem} (K11 : Int32 → Int32 → Int32 → Mem → Option Mem) (hK11 : ∀ (z2 : Int32) (z3 : Int32) (z4 : Int32) (μ1 : Mem), K11 z2 z3 z4 μ1 = some μz → Bk l cX12_growBy 10 RX12 none ({ frames := 5, cells := 0, slots := 0, locals := 110 } : Room) G av (eV 1 G ad μz) (wd 1 G ad μ1) 11 [(0, .ref (ad 0)), (2, .int z2), (3, .int z3), (4, .int z4)] []) (a2 : Int32) (a3 : Int32) (a4 : Int32) (a5 : Int32) (a6 : Int32) (a7 : Int32) (k0 : Int32) (k1 : Int32) (μ : Mem) (h : p_X12_growBy_b133 K11 a2 a3 a4 a5 a6 a7 k0 k1 μ = some μz) : Bk l cX12_growBy 10 RX12 none ({ frames := 5, cells := 0, slots := 0, locals := 110 } : Room) G av (eV 1 G ad μz) (wd 1 G ad μ) 133 [(0, .ref (ad 0)), (2, .int a2), (3, .int a3), (4, .int a4), (5, .int a5), (6, .int a6), (7, .int a7)] [.int k0, .int k1, .ref (ad 71)] := by
  intro p e s m below meth c A ls H locs cx hr hlk hA hl hw
  have hx := cx.1
  have hb := cx.2.1
  rw [p_X12_growBy_b133_eq] at h
  refine g_iast cx hw shm_71 h dX12_growBy_133 (fun μ17 H locs h hw => ?_)
  refine lv_aload_n hx hb dX12_growBy_134 rfl (lv_at hl 0 rfl) ?_
  refine g_get cx hw inX12 (ci := 11) rfl 117 (by decide) rfl (v := .ref (ad 72)) shm_0 rfl fl_X12_232 dX12_growBy_135 ?_
  refine lv_iload hx hb dX12_growBy_138 (lv_at hl 3 rfl) ?_
  refine lv_aload_n hx hb dX12_growBy_140 rfl (lv_at hl 0 rfl) ?_
  refine g_get cx hw inX12 (ci := 11) rfl 114 (by decide) rfl (v := .ref (ad 69)) shm_0 rfl fl_X12_223 dX12_growBy_141 ?_
  refine lv_iload_n hx hb dX12_growBy_144 rfl (lv_at hl 1 rfl) ?_
  refine g_iald cx hw shm_69 h dX12_growBy_145 (fun h => ?_)
  refine g_iast cx hw shm_72 h dX12_growBy_146 (fun μ18 H locs h hw => ?_)
  obtain ⟨v19, ev19, h⟩ := bv_ex h
  refine lv_iinc (v := v19) (lv' := [(4, .int v19), (0, .ref (ad 0)), (2, .int a2), (3, .int a3), (5, .int a5), (6, .int a6), (7, .int a7)]) hx hb dX12_growBy_147 hl (k := 3) rfl (by rw [ev19]; rfl) (by decide) rfl (fun ls hl => ?_)
  refine lv_iload hx hb dX12_growBy_150 (lv_at hl 6 rfl) ?_
  refine lv_if_eq (tgt := 165) hx hb dX12_growBy_152 (by decide) (fun c20 => ?_) (fun c20 => ?_)
  · rw [if_pos c20] at h
    exact t_X12_growBy_b165 l G ad av K11 hK11 a2 a3 v19 a5 a6 a7 μ18 h p e s m below meth c A ls H locs cx hr hlk hA (lv_sub hl [1, 2, 3, 0, 4, 5, 6] rfl) hw
  · rw [if_neg c20] at h
    refine lv_aload_n hx hb dX12_growBy_155 rfl (lv_at hl 1 rfl) ?_
    refine lv_dup hx hb dX12_growBy_156 rfl ?_
    refine g_get cx hw inX12 (ci := 11) rfl 96 (by decide) rfl (v := .int (μ18.1 0 96)) shm_0 rfl fl_X12_717 dX12_growBy_157 ?_
    refine lv_iconst (v := 1) hx hb dX12_growBy_160 (by decide) ?_
    refine lv_iadd hx hb dX12_growBy_161 ?_
    refine g_put cx hw inX12 (ci := 11) rfl tyX12_ok nmX12 96 (by decide) rfl rfl rfl rfl shm_0 h fl_X12_717 dX12_growBy_162 (fun μ37 H locs h hw => ?_)
    exact t_X12_growBy_b165 l G ad av K11 hK11 a2 a3 v19 a5 a6 a7 μ37 h p e s m below meth c A ls H locs cx hr hlk hA (lv_sub hl [1, 2, 3, 0, 4, 5, 6] rfl) hw
theorem p_X12_growBy_b111_ex : ∃ f : (Int32 → Int32 → Int32 → Mem → Option Mem) → Int32 → Int32 → Int32 → Int32 → Int32 → Int32 → Int32 → Int32 → Mem → Option Mem, ∀ (K11 : Int32 → Int32 → Int32 → Mem → Option Mem) (a2 : Int32) (a3 : Int32) (a4 : Int32) (a5 : Int32) (a6 : Int32) (a7 : Int32) (k0 : Int32) (k1 : Int32) (μ : Mem), f K11 a2 a3 a4 a5 a6 a7 k0 k1 μ = gd (inb k1 210) (bv (sF μ 70 k1.toNatClampNeg k0) (fun μ15 => (if a7 = (0 : Int32) then gd (inb a2 210) (p_X12_growBy_b133 K11 a2 a3 a4 a5 a6 a7 (μ15.1 68 a2.toNatClampNeg) a4 μ15) else p_X12_growBy_b133 K11 a2 a3 a4 a5 a6 a7 (0 : Int32) a4 μ15))) := ⟨fun (K11 : Int32 → Int32 → Int32 → Mem → Option Mem) (a2 : Int32) (a3 : Int32) (a4 : Int32) (a5 : Int32) (a6 : Int32) (a7 : Int32) (k0 : Int32) (k1 : Int32) (μ : Mem) => gd (inb k1 210) (bv (sF μ 70 k1.toNatClampNeg k0) (fun μ15 => (if a7 = (0 : Int32) then gd (inb a2 210) (p_X12_growBy_b133 K11 a2 a3 a4 a5 a6 a7 (μ15.1 68 a2.toNatClampNeg) a4 μ15) else p_X12_growBy_b133 K11 a2 a3 a4 a5 a6 a7 (0 : Int32) a4 μ15))), fun _ _ _ _ _ _ _ _ _ _ => rfl⟩
noncomputable def p_X12_growBy_b111 : (Int32 → Int32 → Int32 → Mem → Option Mem) → Int32 → Int32 → Int32 → Int32 → Int32 → Int32 → Int32 → Int32 → Mem → Option Mem := Classical.choose p_X12_growBy_b111_ex
theorem p_X12_growBy_b111_eq (K11 : Int32 → Int32 → Int32 → Mem → Option Mem) (a2 : Int32) (a3 : Int32) (a4 : Int32) (a5 : Int32) (a6 : Int32) (a7 : Int32) (k0 : Int32) (k1 : Int32) (μ : Mem) : p_X12_growBy_b111 K11 a2 a3 a4 a5 a6 a7 k0 k1 μ = gd (inb k1 210) (bv (sF μ 70 k1.toNatClampNeg k0) (fun μ15 => (if a7 = (0 : Int32) then gd (inb a2 210) (p_X12_growBy_b133 K11 a2 a3 a4 a5 a6 a7 (μ15.1 68 a2.toNatClampNeg) a4 μ15) else p_X12_growBy_b133 K11 a2 a3 a4 a5 a6 a7 (0 : Int32) a4 μ15))) := Classical.choose_spec p_X12_growBy_b111_ex K11 a2 a3 a4 a5 a6 a7 k0 k1 μ
set_option maxHeartbeats 4000000 in
set_option maxRecDepth 100000 in
theorem t_X12_growBy_b111 (l : Launch) (G : Gt) (ad : Nat → Nat) (av : List Value) {μz : Mem} (K11 : Int32 → Int32 → Int32 → Mem → Option Mem) (hK11 : ∀ (z2 : Int32) (z3 : Int32) (z4 : Int32) (μ1 : Mem), K11 z2 z3 z4 μ1 = some μz → Bk l cX12_growBy 10 RX12 none ({ frames := 5, cells := 0, slots := 0, locals := 110 } : Room) G av (eV 1 G ad μz) (wd 1 G ad μ1) 11 [(0, .ref (ad 0)), (2, .int z2), (3, .int z3), (4, .int z4)] []) (a2 : Int32) (a3 : Int32) (a4 : Int32) (a5 : Int32) (a6 : Int32) (a7 : Int32) (k0 : Int32) (k1 : Int32) (μ : Mem) (h : p_X12_growBy_b111 K11 a2 a3 a4 a5 a6 a7 k0 k1 μ = some μz) : Bk l cX12_growBy 10 RX12 none ({ frames := 5, cells := 0, slots := 0, locals := 110 } : Room) G av (eV 1 G ad μz) (wd 1 G ad μ) 111 [(0, .ref (ad 0)), (2, .int a2), (3, .int a3), (4, .int a4), (5, .int a5), (6, .int a6), (7, .int a7)] [.int k0, .int k1, .ref (ad 70)] := by
  intro p e s m below meth c A ls H locs cx hr hlk hA hl hw
  have hx := cx.1
  have hb := cx.2.1
  rw [p_X12_growBy_b111_eq] at h
  refine g_iast cx hw shm_70 h dX12_growBy_111 (fun μ15 H locs h hw => ?_)
  refine lv_aload_n hx hb dX12_growBy_112 rfl (lv_at hl 0 rfl) ?_
  refine g_get cx hw inX12 (ci := 11) rfl 116 (by decide) rfl (v := .ref (ad 71)) shm_0 rfl fl_X12_229 dX12_growBy_113 ?_
  refine lv_iload hx hb dX12_growBy_116 (lv_at hl 3 rfl) ?_
  refine lv_iload hx hb dX12_growBy_118 (lv_at hl 6 rfl) ?_
  refine lv_if_eq (tgt := 127) hx hb dX12_growBy_120 (by decide) (fun c16 => ?_) (fun c16 => ?_)
  · rw [if_pos c16] at h
    refine lv_aload_n hx hb dX12_growBy_127 rfl (lv_at hl 0 rfl) ?_
    refine g_get cx hw inX12 (ci := 11) rfl 113 (by decide) rfl (v := .ref (ad 68)) shm_0 rfl fl_X12_220 dX12_growBy_128 ?_
    refine lv_iload_n hx hb dX12_growBy_131 rfl (lv_at hl 1 rfl) ?_
    refine g_iald cx hw shm_68 h dX12_growBy_132 (fun h => ?_)
    exact t_X12_growBy_b133 l G ad av K11 hK11 a2 a3 a4 a5 a6 a7 (μ15.1 68 a2.toNatClampNeg) a4 μ15 h p e s m below meth c A ls H locs cx hr hlk hA (lv_sub hl [0, 1, 2, 3, 4, 5, 6] rfl) hw
  · rw [if_neg c16] at h
    refine lv_iconst (v := 0) hx hb dX12_growBy_123 (by decide) ?_
    refine lv_goto (tgt := 133) hx hb dX12_growBy_124 (by decide) ?_
    exact t_X12_growBy_b133 l G ad av K11 hK11 a2 a3 a4 a5 a6 a7 (0 : Int32) a4 μ15 h p e s m below meth c A ls H locs cx hr hlk hA (lv_sub hl [0, 1, 2, 3, 4, 5, 6] rfl) hw
theorem p_X12_growBy_b92_ex : ∃ f : (Int32 → Int32 → Int32 → Mem → Option Mem) → Int32 → Int32 → Int32 → Int32 → Int32 → Int32 → Mem → Option Mem, ∀ (K11 : Int32 → Int32 → Int32 → Mem → Option Mem) (a2 : Int32) (a3 : Int32) (a4 : Int32) (a5 : Int32) (a6 : Int32) (k0 : Int32) (μ : Mem), f K11 a2 a3 a4 a5 a6 k0 μ = (if k0 = (0 : Int32) then p_X12_growBy_b111 K11 a2 a3 a4 a5 a6 k0 a5 a4 μ else p_X12_growBy_b111 K11 a2 a3 a4 a5 a6 k0 (3 : Int32) a4 μ) := ⟨fun (K11 : Int32 → Int32 → Int32 → Mem → Option Mem) (a2 : Int32) (a3 : Int32) (a4 : Int32) (a5 : Int32) (a6 : Int32) (k0 : Int32) (μ : Mem) => (if k0 = (0 : Int32) then p_X12_growBy_b111 K11 a2 a3 a4 a5 a6 k0 a5 a4 μ else p_X12_growBy_b111 K11 a2 a3 a4 a5 a6 k0 (3 : Int32) a4 μ), fun _ _ _ _ _ _ _ _ => rfl⟩
noncomputable def p_X12_growBy_b92 : (Int32 → Int32 → Int32 → Mem → Option Mem) → Int32 → Int32 → Int32 → Int32 → Int32 → Int32 → Mem → Option Mem := Classical.choose p_X12_growBy_b92_ex
theorem p_X12_growBy_b92_eq (K11 : Int32 → Int32 → Int32 → Mem → Option Mem) (a2 : Int32) (a3 : Int32) (a4 : Int32) (a5 : Int32) (a6 : Int32) (k0 : Int32) (μ : Mem) : p_X12_growBy_b92 K11 a2 a3 a4 a5 a6 k0 μ = (if k0 = (0 : Int32) then p_X12_growBy_b111 K11 a2 a3 a4 a5 a6 k0 a5 a4 μ else p_X12_growBy_b111 K11 a2 a3 a4 a5 a6 k0 (3 : Int32) a4 μ) := Classical.choose_spec p_X12_growBy_b92_ex K11 a2 a3 a4 a5 a6 k0 μ
set_option maxHeartbeats 4000000 in
set_option maxRecDepth 100000 in
theorem t_X12_growBy_b92 (l : Launch) (G : Gt) (ad : Nat → Nat) (av : List Value) {μz : Mem} (K11 : Int32 → Int32 → Int32 → Mem → Option Mem) (hK11 : ∀ (z2 : Int32) (z3 : Int32) (z4 : Int32) (μ1 : Mem), K11 z2 z3 z4 μ1 = some μz → Bk l cX12_growBy 10 RX12 none ({ frames := 5, cells := 0, slots := 0, locals := 110 } : Room) G av (eV 1 G ad μz) (wd 1 G ad μ1) 11 [(0, .ref (ad 0)), (2, .int z2), (3, .int z3), (4, .int z4)] []) (a2 : Int32) (a3 : Int32) (a4 : Int32) (a5 : Int32) (a6 : Int32) (k0 : Int32) (μ : Mem) (h : p_X12_growBy_b92 K11 a2 a3 a4 a5 a6 k0 μ = some μz) : Bk l cX12_growBy 10 RX12 none ({ frames := 5, cells := 0, slots := 0, locals := 110 } : Room) G av (eV 1 G ad μz) (wd 1 G ad μ) 92 [(0, .ref (ad 0)), (2, .int a2), (3, .int a3), (4, .int a4), (5, .int a5), (6, .int a6)] [.int k0] := by
  intro p e s m below meth c A ls H locs cx hr hlk hA hl hw
  have hx := cx.1
  have hb := cx.2.1
  rw [p_X12_growBy_b92_eq] at h
  refine lv_istore (lv' := [(7, .int k0), (0, .ref (ad 0)), (2, .int a2), (3, .int a3), (4, .int a4), (5, .int a5), (6, .int a6)]) hx hb dX12_growBy_92 hl (by decide) rfl (fun ls hl => ?_)
  refine lv_aload_n hx hb dX12_growBy_94 rfl (lv_at hl 1 rfl) ?_
  refine g_get cx hw inX12 (ci := 11) rfl 115 (by decide) rfl (v := .ref (ad 70)) shm_0 rfl fl_X12_226 dX12_growBy_95 ?_
  refine lv_iload hx hb dX12_growBy_98 (lv_at hl 4 rfl) ?_
  refine lv_iload hx hb dX12_growBy_100 (lv_at hl 0 rfl) ?_
  refine lv_if_eq (tgt := 109) hx hb dX12_growBy_102 (by decide) (fun c14 => ?_) (fun c14 => ?_)
  · rw [if_pos c14] at h
    refine lv_iload hx hb dX12_growBy_109 (lv_at hl 5 rfl) ?_
    exact t_X12_growBy_b111 l G ad av K11 hK11 a2 a3 a4 a5 a6 k0 a5 a4 μ h p e s m below meth c A ls H locs cx hr hlk hA (lv_sub hl [1, 2, 3, 4, 5, 6, 0] rfl) hw
  · rw [if_neg c14] at h
    refine lv_iconst (v := 3) hx hb dX12_growBy_105 (by decide) ?_
    refine lv_goto (tgt := 111) hx hb dX12_growBy_106 (by decide) ?_
    exact t_X12_growBy_b111 l G ad av K11 hK11 a2 a3 a4 a5 a6 k0 (3 : Int32) a4 μ h p e s m below meth c A ls H locs cx hr hlk hA (lv_sub hl [1, 2, 3, 4, 5, 6, 0] rfl) hw
theorem p_X12_growBy_b91_ex : ∃ f : (Int32 → Int32 → Int32 → Mem → Option Mem) → Int32 → Int32 → Int32 → Int32 → Int32 → Mem → Option Mem, ∀ (K11 : Int32 → Int32 → Int32 → Mem → Option Mem) (a2 : Int32) (a3 : Int32) (a4 : Int32) (a5 : Int32) (a6 : Int32) (μ : Mem), f K11 a2 a3 a4 a5 a6 μ = p_X12_growBy_b92 K11 a2 a3 a4 a5 a6 (0 : Int32) μ := ⟨fun (K11 : Int32 → Int32 → Int32 → Mem → Option Mem) (a2 : Int32) (a3 : Int32) (a4 : Int32) (a5 : Int32) (a6 : Int32) (μ : Mem) => p_X12_growBy_b92 K11 a2 a3 a4 a5 a6 (0 : Int32) μ, fun _ _ _ _ _ _ _ => rfl⟩
noncomputable def p_X12_growBy_b91 : (Int32 → Int32 → Int32 → Mem → Option Mem) → Int32 → Int32 → Int32 → Int32 → Int32 → Mem → Option Mem := Classical.choose p_X12_growBy_b91_ex
theorem p_X12_growBy_b91_eq (K11 : Int32 → Int32 → Int32 → Mem → Option Mem) (a2 : Int32) (a3 : Int32) (a4 : Int32) (a5 : Int32) (a6 : Int32) (μ : Mem) : p_X12_growBy_b91 K11 a2 a3 a4 a5 a6 μ = p_X12_growBy_b92 K11 a2 a3 a4 a5 a6 (0 : Int32) μ := Classical.choose_spec p_X12_growBy_b91_ex K11 a2 a3 a4 a5 a6 μ
set_option maxHeartbeats 4000000 in
set_option maxRecDepth 100000 in
theorem t_X12_growBy_b91 (l : Launch) (G : Gt) (ad : Nat → Nat) (av : List Value) {μz : Mem} (K11 : Int32 → Int32 → Int32 → Mem → Option Mem) (hK11 : ∀ (z2 : Int32) (z3 : Int32) (z4 : Int32) (μ1 : Mem), K11 z2 z3 z4 μ1 = some μz → Bk l cX12_growBy 10 RX12 none ({ frames := 5, cells := 0, slots := 0, locals := 110 } : Room) G av (eV 1 G ad μz) (wd 1 G ad μ1) 11 [(0, .ref (ad 0)), (2, .int z2), (3, .int z3), (4, .int z4)] []) (a2 : Int32) (a3 : Int32) (a4 : Int32) (a5 : Int32) (a6 : Int32) (μ : Mem) (h : p_X12_growBy_b91 K11 a2 a3 a4 a5 a6 μ = some μz) : Bk l cX12_growBy 10 RX12 none ({ frames := 5, cells := 0, slots := 0, locals := 110 } : Room) G av (eV 1 G ad μz) (wd 1 G ad μ) 91 [(0, .ref (ad 0)), (2, .int a2), (3, .int a3), (4, .int a4), (5, .int a5), (6, .int a6)] [] := by
  intro p e s m below meth c A ls H locs cx hr hlk hA hl hw
  have hx := cx.1
  have hb := cx.2.1
  rw [p_X12_growBy_b91_eq] at h
  refine lv_iconst (v := 0) hx hb dX12_growBy_91 (by decide) ?_
  exact t_X12_growBy_b92 l G ad av K11 hK11 a2 a3 a4 a5 a6 (0 : Int32) μ h p e s m below meth c A ls H locs cx hr hlk hA (lv_sub hl [0, 1, 2, 3, 4, 5] rfl) hw
theorem p_X12_growBy_b87_ex : ∃ f : (Int32 → Int32 → Int32 → Mem → Option Mem) → Int32 → Int32 → Int32 → Int32 → Int32 → Mem → Option Mem, ∀ (K11 : Int32 → Int32 → Int32 → Mem → Option Mem) (a2 : Int32) (a3 : Int32) (a4 : Int32) (a5 : Int32) (a6 : Int32) (μ : Mem), f K11 a2 a3 a4 a5 a6 μ = p_X12_growBy_b92 K11 a2 a3 a4 a5 a6 (1 : Int32) μ := ⟨fun (K11 : Int32 → Int32 → Int32 → Mem → Option Mem) (a2 : Int32) (a3 : Int32) (a4 : Int32) (a5 : Int32) (a6 : Int32) (μ : Mem) => p_X12_growBy_b92 K11 a2 a3 a4 a5 a6 (1 : Int32) μ, fun _ _ _ _ _ _ _ => rfl⟩
noncomputable def p_X12_growBy_b87 : (Int32 → Int32 → Int32 → Mem → Option Mem) → Int32 → Int32 → Int32 → Int32 → Int32 → Mem → Option Mem := Classical.choose p_X12_growBy_b87_ex
theorem p_X12_growBy_b87_eq (K11 : Int32 → Int32 → Int32 → Mem → Option Mem) (a2 : Int32) (a3 : Int32) (a4 : Int32) (a5 : Int32) (a6 : Int32) (μ : Mem) : p_X12_growBy_b87 K11 a2 a3 a4 a5 a6 μ = p_X12_growBy_b92 K11 a2 a3 a4 a5 a6 (1 : Int32) μ := Classical.choose_spec p_X12_growBy_b87_ex K11 a2 a3 a4 a5 a6 μ
set_option maxHeartbeats 4000000 in
set_option maxRecDepth 100000 in
theorem t_X12_growBy_b87 (l : Launch) (G : Gt) (ad : Nat → Nat) (av : List Value) {μz : Mem} (K11 : Int32 → Int32 → Int32 → Mem → Option Mem) (hK11 : ∀ (z2 : Int32) (z3 : Int32) (z4 : Int32) (μ1 : Mem), K11 z2 z3 z4 μ1 = some μz → Bk l cX12_growBy 10 RX12 none ({ frames := 5, cells := 0, slots := 0, locals := 110 } : Room) G av (eV 1 G ad μz) (wd 1 G ad μ1) 11 [(0, .ref (ad 0)), (2, .int z2), (3, .int z3), (4, .int z4)] []) (a2 : Int32) (a3 : Int32) (a4 : Int32) (a5 : Int32) (a6 : Int32) (μ : Mem) (h : p_X12_growBy_b87 K11 a2 a3 a4 a5 a6 μ = some μz) : Bk l cX12_growBy 10 RX12 none ({ frames := 5, cells := 0, slots := 0, locals := 110 } : Room) G av (eV 1 G ad μz) (wd 1 G ad μ) 87 [(0, .ref (ad 0)), (2, .int a2), (3, .int a3), (4, .int a4), (5, .int a5), (6, .int a6)] [] := by
  intro p e s m below meth c A ls H locs cx hr hlk hA hl hw
  have hx := cx.1
  have hb := cx.2.1
  rw [p_X12_growBy_b87_eq] at h
  refine lv_iconst (v := 1) hx hb dX12_growBy_87 (by decide) ?_
  refine lv_goto (tgt := 92) hx hb dX12_growBy_88 (by decide) ?_
  exact t_X12_growBy_b92 l G ad av K11 hK11 a2 a3 a4 a5 a6 (1 : Int32) μ h p e s m below meth c A ls H locs cx hr hlk hA (lv_sub hl [0, 1, 2, 3, 4, 5] rfl) hw
theorem p_X12_growBy_b73_ex : ∃ f : (Int32 → Int32 → Int32 → Mem → Option Mem) → Int32 → Int32 → Int32 → Int32 → Int32 → Mem → Option Mem, ∀ (K11 : Int32 → Int32 → Int32 → Mem → Option Mem) (a2 : Int32) (a3 : Int32) (a4 : Int32) (a5 : Int32) (a6 : Int32) (μ : Mem), f K11 a2 a3 a4 a5 a6 μ = (if a5 = (2 : Int32) then (if (s_X12_isNumber a6) = (0 : Int32) then p_X12_growBy_b91 K11 a2 a3 a4 a5 a6 μ else p_X12_growBy_b87 K11 a2 a3 a4 a5 a6 μ) else p_X12_growBy_b91 K11 a2 a3 a4 a5 a6 μ) := ⟨fun (K11 : Int32 → Int32 → Int32 → Mem → Option Mem) (a2 : Int32) (a3 : Int32) (a4 : Int32) (a5 : Int32) (a6 : Int32) (μ : Mem) => (if a5 = (2 : Int32) then (if (s_X12_isNumber a6) = (0 : Int32) then p_X12_growBy_b91 K11 a2 a3 a4 a5 a6 μ else p_X12_growBy_b87 K11 a2 a3 a4 a5 a6 μ) else p_X12_growBy_b91 K11 a2 a3 a4 a5 a6 μ), fun _ _ _ _ _ _ _ => rfl⟩
noncomputable def p_X12_growBy_b73 : (Int32 → Int32 → Int32 → Mem → Option Mem) → Int32 → Int32 → Int32 → Int32 → Int32 → Mem → Option Mem := Classical.choose p_X12_growBy_b73_ex
theorem p_X12_growBy_b73_eq (K11 : Int32 → Int32 → Int32 → Mem → Option Mem) (a2 : Int32) (a3 : Int32) (a4 : Int32) (a5 : Int32) (a6 : Int32) (μ : Mem) : p_X12_growBy_b73 K11 a2 a3 a4 a5 a6 μ = (if a5 = (2 : Int32) then (if (s_X12_isNumber a6) = (0 : Int32) then p_X12_growBy_b91 K11 a2 a3 a4 a5 a6 μ else p_X12_growBy_b87 K11 a2 a3 a4 a5 a6 μ) else p_X12_growBy_b91 K11 a2 a3 a4 a5 a6 μ) := Classical.choose_spec p_X12_growBy_b73_ex K11 a2 a3 a4 a5 a6 μ
set_option maxHeartbeats 4000000 in
set_option maxRecDepth 100000 in
theorem t_X12_growBy_b73 (l : Launch) (G : Gt) (ad : Nat → Nat) (av : List Value) {μz : Mem} (K11 : Int32 → Int32 → Int32 → Mem → Option Mem) (hK11 : ∀ (z2 : Int32) (z3 : Int32) (z4 : Int32) (μ1 : Mem), K11 z2 z3 z4 μ1 = some μz → Bk l cX12_growBy 10 RX12 none ({ frames := 5, cells := 0, slots := 0, locals := 110 } : Room) G av (eV 1 G ad μz) (wd 1 G ad μ1) 11 [(0, .ref (ad 0)), (2, .int z2), (3, .int z3), (4, .int z4)] []) (a2 : Int32) (a3 : Int32) (a4 : Int32) (a5 : Int32) (a6 : Int32) (μ : Mem) (h : p_X12_growBy_b73 K11 a2 a3 a4 a5 a6 μ = some μz) : Bk l cX12_growBy 10 RX12 none ({ frames := 5, cells := 0, slots := 0, locals := 110 } : Room) G av (eV 1 G ad μz) (wd 1 G ad μ) 73 [(0, .ref (ad 0)), (2, .int a2), (3, .int a3), (4, .int a4), (5, .int a5), (6, .int a6)] [] := by
  intro p e s m below meth c A ls H locs cx hr hlk hA hl hw
  have hx := cx.1
  have hb := cx.2.1
  rw [p_X12_growBy_b73_eq] at h
  refine lv_iload hx hb dX12_growBy_73 (lv_at hl 4 rfl) ?_
  refine lv_iconst (v := 2) hx hb dX12_growBy_75 (by decide) ?_
  refine lv_icmp_ne (tgt := 91) hx hb dX12_growBy_76 (by decide) (fun c13 => ?_) (fun c13 => ?_)
  · rw [if_neg c13] at h
    exact t_X12_growBy_b91 l G ad av K11 hK11 a2 a3 a4 a5 a6 μ h p e s m below meth c A ls H locs cx hr hlk hA (lv_sub hl [0, 1, 2, 3, 4, 5] rfl) hw
  · rw [if_pos c13] at h
    refine lv_iload hx hb dX12_growBy_79 (lv_at hl 5 rfl) ?_
    refine s_callI (As := [.int a6]) (rest := []) cx hw hA (t_X12_isNumber l G a6) ml_X12_710 st_X12_isNumber in_X12 co_X12_isNumber hd_X12_isNumber rfl ⟨(Nat.le_of_ble_eq_true rfl), (Nat.le_of_ble_eq_true rfl)⟩ hl.1 rfl (Nat.le_of_ble_eq_true rfl) dX12_growBy_81 rfl (fun H locs hw => ?_)
    refine lv_if_eq (tgt := 91) hx hb dX12_growBy_84 (by decide) (fun c38 => ?_) (fun c38 => ?_)
    · rw [if_pos c38] at h
      exact t_X12_growBy_b91 l G ad av K11 hK11 a2 a3 a4 a5 a6 μ h p e s m below meth c A ls H locs cx hr hlk hA (lv_sub hl [0, 1, 2, 3, 4, 5] rfl) hw
    · rw [if_neg c38] at h
      exact t_X12_growBy_b87 l G ad av K11 hK11 a2 a3 a4 a5 a6 μ h p e s m below meth c A ls H locs cx hr hlk hA (lv_sub hl [0, 1, 2, 3, 4, 5] rfl) hw
theorem p_X12_growBy_b11_ex : ∃ f : Nat → Int32 → Int32 → Int32 → Mem → Option Mem, (∀ (a2 : Int32) (a3 : Int32) (a4 : Int32) (μ : Mem), f  0 a2 a3 a4 μ = none) ∧ (∀ (n : Nat) (a2 : Int32) (a3 : Int32) (a4 : Int32) (μ : Mem), f  (n + 1) a2 a3 a4 μ = (if (μ.1 0 118) ≤ a2 then bv (sF μ 0 118 a4) (fun μ3 => bw (p_X12_copy 70 (0 : Int32) a4 67 (0 : Int32) μ3) (fun μ4 => bw (p_X12_copy 71 (0 : Int32) a4 68 (0 : Int32) μ4) (fun μ6 => bw (p_X12_copy 72 (0 : Int32) a4 69 (0 : Int32) μ6) (fun μ8 => some μ8)))) else gd (inb a2 210) (bv (μ.1 67 a2.toNatClampNeg) (fun v10 => gd (inb a3 5250) (bv (μ.1 60 a3.toNatClampNeg) (fun v11 => (if (s_X12_isNumber v10) = (0 : Int32) then p_X12_growBy_b73 (f n) a2 a3 a4 v10 v11 μ else (if (s_X12_isNumber v11) = (0 : Int32) then p_X12_growBy_b73 (f n) a2 a3 a4 v10 v11 μ else gd (inb a2 210) (gd (inb a3 5250) (bs (p_X12_isGrown v10 (μ.1 68 a2.toNatClampNeg) v11 (μ.1 61 a3.toNatClampNeg)) (fun r40 => (if r40 = (0 : Int32) then p_X12_growBy_b73 (f n) a2 a3 a4 v10 v11 μ else p_X12_growBy_b87 (f n) a2 a3 a4 v10 v11 μ)))))))))))) := ⟨fun n => Nat.rec (fun (a2 : Int32) (a3 : Int32) (a4 : Int32) (μ : Mem) => none) (fun _ ih => fun (a2 : Int32) (a3 : Int32) (a4 : Int32) (μ : Mem) => (if (μ.1 0 118) ≤ a2 then bv (sF μ 0 118 a4) (fun μ3 => bw (p_X12_copy 70 (0 : Int32) a4 67 (0 : Int32) μ3) (fun μ4 => bw (p_X12_copy 71 (0 : Int32) a4 68 (0 : Int32) μ4) (fun μ6 => bw (p_X12_copy 72 (0 : Int32) a4 69 (0 : Int32) μ6) (fun μ8 => some μ8)))) else gd (inb a2 210) (bv (μ.1 67 a2.toNatClampNeg) (fun v10 => gd (inb a3 5250) (bv (μ.1 60 a3.toNatClampNeg) (fun v11 => (if (s_X12_isNumber v10) = (0 : Int32) then p_X12_growBy_b73 (ih) a2 a3 a4 v10 v11 μ else (if (s_X12_isNumber v11) = (0 : Int32) then p_X12_growBy_b73 (ih) a2 a3 a4 v10 v11 μ else gd (inb a2 210) (gd (inb a3 5250) (bs (p_X12_isGrown v10 (μ.1 68 a2.toNatClampNeg) v11 (μ.1 61 a3.toNatClampNeg)) (fun r40 => (if r40 = (0 : Int32) then p_X12_growBy_b73 (ih) a2 a3 a4 v10 v11 μ else p_X12_growBy_b87 (ih) a2 a3 a4 v10 v11 μ)))))))))))) n, fun  _ _ _ _ => rfl, fun  _ _ _ _ _ => rfl⟩
noncomputable def p_X12_growBy_b11 : Nat → Int32 → Int32 → Int32 → Mem → Option Mem := Classical.choose p_X12_growBy_b11_ex
theorem p_X12_growBy_b11_z (a2 : Int32) (a3 : Int32) (a4 : Int32) (μ : Mem) : p_X12_growBy_b11  0 a2 a3 a4 μ = none := (Classical.choose_spec p_X12_growBy_b11_ex).1  a2 a3 a4 μ
theorem p_X12_growBy_b11_s (n : Nat) (a2 : Int32) (a3 : Int32) (a4 : Int32) (μ : Mem) : p_X12_growBy_b11  (n + 1) a2 a3 a4 μ = (if (μ.1 0 118) ≤ a2 then bv (sF μ 0 118 a4) (fun μ3 => bw (p_X12_copy 70 (0 : Int32) a4 67 (0 : Int32) μ3) (fun μ4 => bw (p_X12_copy 71 (0 : Int32) a4 68 (0 : Int32) μ4) (fun μ6 => bw (p_X12_copy 72 (0 : Int32) a4 69 (0 : Int32) μ6) (fun μ8 => some μ8)))) else gd (inb a2 210) (bv (μ.1 67 a2.toNatClampNeg) (fun v10 => gd (inb a3 5250) (bv (μ.1 60 a3.toNatClampNeg) (fun v11 => (if (s_X12_isNumber v10) = (0 : Int32) then p_X12_growBy_b73 (p_X12_growBy_b11  n) a2 a3 a4 v10 v11 μ else (if (s_X12_isNumber v11) = (0 : Int32) then p_X12_growBy_b73 (p_X12_growBy_b11  n) a2 a3 a4 v10 v11 μ else gd (inb a2 210) (gd (inb a3 5250) (bs (p_X12_isGrown v10 (μ.1 68 a2.toNatClampNeg) v11 (μ.1 61 a3.toNatClampNeg)) (fun r40 => (if r40 = (0 : Int32) then p_X12_growBy_b73 (p_X12_growBy_b11  n) a2 a3 a4 v10 v11 μ else p_X12_growBy_b87 (p_X12_growBy_b11  n) a2 a3 a4 v10 v11 μ))))))))))) := (Classical.choose_spec p_X12_growBy_b11_ex).2  n a2 a3 a4 μ
set_option maxHeartbeats 4000000 in
set_option maxRecDepth 100000 in
theorem t_X12_growBy_b11 (l : Launch) (G : Gt) (ad : Nat → Nat) (av : List Value) {μz : Mem} : ∀ (n : Nat) (a2 : Int32) (a3 : Int32) (a4 : Int32) (μ : Mem), p_X12_growBy_b11  n a2 a3 a4 μ = some μz → Bk l cX12_growBy 10 RX12 none ({ frames := 5, cells := 0, slots := 0, locals := 110 } : Room) G av (eV 1 G ad μz) (wd 1 G ad μ) 11 [(0, .ref (ad 0)), (2, .int a2), (3, .int a3), (4, .int a4)] [] := by
  intro n
  induction n with
  | zero => intro a2 a3 a4 μ h; rw [p_X12_growBy_b11_z] at h; cases h
  | succ n ih =>
    intro a2 a3 a4 μ h p e s m below meth c A ls H locs cx hr hlk hA hl hw
    have hx := cx.1
    have hb := cx.2.1
    rw [p_X12_growBy_b11_s] at h
    refine lv_iload_n hx hb dX12_growBy_11 rfl (lv_at hl 1 rfl) ?_
    refine lv_aload_n hx hb dX12_growBy_12 rfl (lv_at hl 0 rfl) ?_
    refine g_get cx hw inX12 (ci := 11) rfl 118 (by decide) rfl (v := .int (μ.1 0 118)) shm_0 rfl fl_X12_707 dX12_growBy_13 ?_
    refine lv_icmp_ge (tgt := 279) hx hb dX12_growBy_16 (by decide) (fun c2 => ?_) (fun c2 => ?_)
    · rw [if_pos c2] at h
      refine lv_aload_n hx hb dX12_growBy_279 rfl (lv_at hl 0 rfl) ?_
      refine lv_iload hx hb dX12_growBy_280 (lv_at hl 3 rfl) ?_
      refine g_put cx hw inX12 (ci := 11) rfl tyX12_ok nmX12 118 (by decide) rfl rfl rfl rfl shm_0 h fl_X12_707 dX12_growBy_282 (fun μ3 H locs h hw => ?_)
      refine lv_aload_n hx hb dX12_growBy_285 rfl (lv_at hl 0 rfl) ?_
      refine g_get cx hw inX12 (ci := 11) rfl 115 (by decide) rfl (v := .ref (ad 70)) shm_0 rfl fl_X12_226 dX12_growBy_286 ?_
      refine lv_iconst (v := 0) hx hb dX12_growBy_289 (by decide) ?_
      refine lv_iload hx hb dX12_growBy_290 (lv_at hl 3 rfl) ?_
      refine lv_aload_n hx hb dX12_growBy_292 rfl (lv_at hl 0 rfl) ?_
      refine g_get cx hw inX12 (ci := 11) rfl 112 (by decide) rfl (v := .ref (ad 67)) shm_0 rfl fl_X12_217 dX12_growBy_293 ?_
      refine lv_iconst (v := 0) hx hb dX12_growBy_296 (by decide) ?_
      obtain ⟨μ4, gμ4, h⟩ := bw_some h
      refine g_callSV (As := [.ref (ad 70), .int 0, .int a4, .ref (ad 67), .int 0]) (rest := []) cx hw hA (t_X12_copy l G ad 70 (sh_f shm_70) (0 : Int32) a4 67 (sh_f shm_67) (0 : Int32) μ3 gμ4) ml_X12_471 st_X12_copy in_X12 co_X12_copy hd_X12_copy rfl ⟨(Nat.le_of_ble_eq_true rfl), (Nat.le_of_ble_eq_true rfl)⟩ hl.1 rfl (Nat.le_of_ble_eq_true rfl) dX12_growBy_297 ⟨rfl, rfl⟩ (fun H locs hw => ?_)
      refine lv_aload_n hx hb dX12_growBy_300 rfl (lv_at hl 0 rfl) ?_
      refine g_get cx hw inX12 (ci := 11) rfl 116 (by decide) rfl (v := .ref (ad 71)) shm_0 rfl fl_X12_229 dX12_growBy_301 ?_
      refine lv_iconst (v := 0) hx hb dX12_growBy_304 (by decide) ?_
      refine lv_iload hx hb dX12_growBy_305 (lv_at hl 3 rfl) ?_
      refine lv_aload_n hx hb dX12_growBy_307 rfl (lv_at hl 0 rfl) ?_
      refine g_get cx hw inX12 (ci := 11) rfl 113 (by decide) rfl (v := .ref (ad 68)) shm_0 rfl fl_X12_220 dX12_growBy_308 ?_
      refine lv_iconst (v := 0) hx hb dX12_growBy_311 (by decide) ?_
      obtain ⟨μ6, gμ6, h⟩ := bw_some h
      refine g_callSV (As := [.ref (ad 71), .int 0, .int a4, .ref (ad 68), .int 0]) (rest := []) cx hw hA (t_X12_copy l G ad 71 (sh_f shm_71) (0 : Int32) a4 68 (sh_f shm_68) (0 : Int32) μ4 gμ6) ml_X12_471 st_X12_copy in_X12 co_X12_copy hd_X12_copy rfl ⟨(Nat.le_of_ble_eq_true rfl), (Nat.le_of_ble_eq_true rfl)⟩ hl.1 rfl (Nat.le_of_ble_eq_true rfl) dX12_growBy_312 ⟨rfl, rfl⟩ (fun H locs hw => ?_)
      refine lv_aload_n hx hb dX12_growBy_315 rfl (lv_at hl 0 rfl) ?_
      refine g_get cx hw inX12 (ci := 11) rfl 117 (by decide) rfl (v := .ref (ad 72)) shm_0 rfl fl_X12_232 dX12_growBy_316 ?_
      refine lv_iconst (v := 0) hx hb dX12_growBy_319 (by decide) ?_
      refine lv_iload hx hb dX12_growBy_320 (lv_at hl 3 rfl) ?_
      refine lv_aload_n hx hb dX12_growBy_322 rfl (lv_at hl 0 rfl) ?_
      refine g_get cx hw inX12 (ci := 11) rfl 114 (by decide) rfl (v := .ref (ad 69)) shm_0 rfl fl_X12_223 dX12_growBy_323 ?_
      refine lv_iconst (v := 0) hx hb dX12_growBy_326 (by decide) ?_
      obtain ⟨μ8, gμ8, h⟩ := bw_some h
      refine g_callSV (As := [.ref (ad 72), .int 0, .int a4, .ref (ad 69), .int 0]) (rest := []) cx hw hA (t_X12_copy l G ad 72 (sh_f shm_72) (0 : Int32) a4 69 (sh_f shm_69) (0 : Int32) μ6 gμ8) ml_X12_471 st_X12_copy in_X12 co_X12_copy hd_X12_copy rfl ⟨(Nat.le_of_ble_eq_true rfl), (Nat.le_of_ble_eq_true rfl)⟩ hl.1 rfl (Nat.le_of_ble_eq_true rfl) dX12_growBy_327 ⟨rfl, rfl⟩ (fun H locs hw => ?_)
      exact g_vret cx hr hlk hw h dX12_growBy_330
    · rw [if_neg c2] at h
      refine lv_aload_n hx hb dX12_growBy_19 rfl (lv_at hl 0 rfl) ?_
      refine g_get cx hw inX12 (ci := 11) rfl 112 (by decide) rfl (v := .ref (ad 67)) shm_0 rfl fl_X12_217 dX12_growBy_20 ?_
      refine lv_iload_n hx hb dX12_growBy_23 rfl (lv_at hl 1 rfl) ?_
      refine g_iald cx hw shm_67 h dX12_growBy_24 (fun h => ?_)
      obtain ⟨v10, ev10, h⟩ := bv_ex h
      refine lv_topi (fun y9 z9 => ?_)
      obtain rfl : v10 = y9 := ev10.trans z9.symm
      refine lv_istore (lv' := [(5, .int v10), (0, .ref (ad 0)), (2, .int a2), (3, .int a3), (4, .int a4)]) hx hb dX12_growBy_25 hl (by decide) rfl (fun ls hl => ?_)
      refine lv_aload_n hx hb dX12_growBy_27 rfl (lv_at hl 1 rfl) ?_
      refine g_get cx hw inX12 (ci := 11) rfl 103 (by decide) rfl (v := .ref (ad 60)) shm_0 rfl fl_X12_196 dX12_growBy_28 ?_
      refine lv_iload_n hx hb dX12_growBy_31 rfl (lv_at hl 3 rfl) ?_
      refine g_iald cx hw shm_60 h dX12_growBy_32 (fun h => ?_)
      obtain ⟨v11, ev11, h⟩ := bv_ex h
      refine lv_topi (fun y9 z9 => ?_)
      obtain rfl : v11 = y9 := ev11.trans z9.symm
      refine lv_istore (lv' := [(6, .int v11), (5, .int v10), (0, .ref (ad 0)), (2, .int a2), (3, .int a3), (4, .int a4)]) hx hb dX12_growBy_33 hl (by decide) rfl (fun ls hl => ?_)
      refine lv_iload hx hb dX12_growBy_35 (lv_at hl 1 rfl) ?_
      refine s_callI (As := [.int v10]) (rest := []) cx hw hA (t_X12_isNumber l G v10) ml_X12_710 st_X12_isNumber in_X12 co_X12_isNumber hd_X12_isNumber rfl ⟨(Nat.le_of_ble_eq_true rfl), (Nat.le_of_ble_eq_true rfl)⟩ hl.1 rfl (Nat.le_of_ble_eq_true rfl) dX12_growBy_37 rfl (fun H locs hw => ?_)
      refine lv_if_eq (tgt := 73) hx hb dX12_growBy_40 (by decide) (fun c12 => ?_) (fun c12 => ?_)
      · rw [if_pos c12] at h
        exact t_X12_growBy_b73 l G ad av _ ih a2 a3 a4 v10 v11 μ h p e s m below meth c A ls H locs cx hr hlk hA (lv_sub hl [2, 3, 4, 5, 1, 0] rfl) hw
      · rw [if_neg c12] at h
        refine lv_iload hx hb dX12_growBy_43 (lv_at hl 0 rfl) ?_
        refine s_callI (As := [.int v11]) (rest := []) cx hw hA (t_X12_isNumber l G v11) ml_X12_710 st_X12_isNumber in_X12 co_X12_isNumber hd_X12_isNumber rfl ⟨(Nat.le_of_ble_eq_true rfl), (Nat.le_of_ble_eq_true rfl)⟩ hl.1 rfl (Nat.le_of_ble_eq_true rfl) dX12_growBy_45 rfl (fun H locs hw => ?_)
        refine lv_if_eq (tgt := 73) hx hb dX12_growBy_48 (by decide) (fun c39 => ?_) (fun c39 => ?_)
        · rw [if_pos c39] at h
          exact t_X12_growBy_b73 l G ad av _ ih a2 a3 a4 v10 v11 μ h p e s m below meth c A ls H locs cx hr hlk hA (lv_sub hl [2, 3, 4, 5, 1, 0] rfl) hw
        · rw [if_neg c39] at h
          refine lv_iload hx hb dX12_growBy_51 (lv_at hl 1 rfl) ?_
          refine lv_aload_n hx hb dX12_growBy_53 rfl (lv_at hl 2 rfl) ?_
          refine g_get cx hw inX12 (ci := 11) rfl 113 (by decide) rfl (v := .ref (ad 68)) shm_0 rfl fl_X12_220 dX12_growBy_54 ?_
          refine lv_iload_n hx hb dX12_growBy_57 rfl (lv_at hl 3 rfl) ?_
          refine g_iald cx hw shm_68 h dX12_growBy_58 (fun h => ?_)
          refine lv_iload hx hb dX12_growBy_59 (lv_at hl 0 rfl) ?_
          refine lv_aload_n hx hb dX12_growBy_61 rfl (lv_at hl 2 rfl) ?_
          refine g_get cx hw inX12 (ci := 11) rfl 104 (by decide) rfl (v := .ref (ad 61)) shm_0 rfl fl_X12_199 dX12_growBy_62 ?_
          refine lv_iload_n hx hb dX12_growBy_65 rfl (lv_at hl 4 rfl) ?_
          refine g_iald cx hw shm_61 h dX12_growBy_66 (fun h => ?_)
          obtain ⟨r40, gr40, h⟩ := bs_some h
          refine s_callI (As := [.int v10, .int (μ.1 68 a2.toNatClampNeg), .int v11, .int (μ.1 61 a3.toNatClampNeg)]) (rest := []) cx hw hA (t_X12_isGrown l G v10 (μ.1 68 a2.toNatClampNeg) v11 (μ.1 61 a3.toNatClampNeg) gr40) ml_X12_713 st_X12_isGrown in_X12 co_X12_isGrown hd_X12_isGrown rfl ⟨(Nat.le_of_ble_eq_true rfl), (Nat.le_of_ble_eq_true rfl)⟩ hl.1 rfl (Nat.le_of_ble_eq_true rfl) dX12_growBy_67 rfl (fun H locs hw => ?_)
          refine lv_if_ne (tgt := 87) hx hb dX12_growBy_70 (by decide) (fun c41 => ?_) (fun c41 => ?_)
          · rw [if_neg c41] at h
            exact t_X12_growBy_b87 l G ad av _ ih a2 a3 a4 v10 v11 μ h p e s m below meth c A ls H locs cx hr hlk hA (lv_sub hl [2, 3, 4, 5, 1, 0] rfl) hw
          · rw [if_pos c41] at h
            exact t_X12_growBy_b73 l G ad av _ ih a2 a3 a4 v10 v11 μ h p e s m below meth c A ls H locs cx hr hlk hA (lv_sub hl [2, 3, 4, 5, 1, 0] rfl) hw
theorem p_X12_growBy_ex : ∃ f : Int32 → Mem → Option Mem, ∀ (a1 : Int32) (μ : Mem), f a1 μ = bv ((210 : Int32) * a1) (fun v1 => p_X12_growBy_b11  FUEL (0 : Int32) v1 (0 : Int32) μ) := ⟨fun (a1 : Int32) (μ : Mem) => bv ((210 : Int32) * a1) (fun v1 => p_X12_growBy_b11  FUEL (0 : Int32) v1 (0 : Int32) μ), fun _ _ => rfl⟩
noncomputable def p_X12_growBy : Int32 → Mem → Option Mem := Classical.choose p_X12_growBy_ex
theorem p_X12_growBy_eq (a1 : Int32) (μ : Mem) : p_X12_growBy a1 μ = bv ((210 : Int32) * a1) (fun v1 => p_X12_growBy_b11  FUEL (0 : Int32) v1 (0 : Int32) μ) := Classical.choose_spec p_X12_growBy_ex a1 μ
set_option maxHeartbeats 4000000 in
set_option maxRecDepth 100000 in
theorem t_X12_growBy (l : Launch) (G : Gt) (ad : Nat → Nat) (a1 : Int32) (μ : Mem) {μz : Mem} (h : p_X12_growBy a1 μ = some μz) : Mt l yX12_growBy cX12_growBy 10 none ({ frames := 5, cells := 0, slots := 0, locals := 110 } : Room) G [.ref (ad 0), .int a1] (wd 1 G ad μ) (eV 1 G ad μz) := by
  refine Bk.mt (by decide) rfl (Nat.le_of_ble_eq_true rfl) ?_
  intro p e s m below meth c A ls H locs cx hr hlk hA hl hw
  have hx := cx.1
  have hb := cx.2.1
  have hl : lv_has ls 10 [(0, .ref (ad 0)), (1, .int a1)] := hl
  rw [p_X12_growBy_eq] at h
  refine lv_iconst (v := 0) hx hb dX12_growBy_0 (by decide) ?_
  refine lv_istore_n (lv' := [(2, .int 0), (0, .ref (ad 0)), (1, .int a1)]) hx hb dX12_growBy_1 rfl hl (by decide) rfl (fun ls hl => ?_)
  refine lv_sipush (v := 210) hx hb dX12_growBy_2 (by decide) ?_
  refine lv_iload_n hx hb dX12_growBy_5 rfl (lv_at hl 2 rfl) ?_
  refine lv_imul hx hb dX12_growBy_6 ?_
  obtain ⟨v1, ev1, h⟩ := bv_ex h
  refine lv_topi (fun y9 z9 => ?_)
  obtain rfl : v1 = y9 := ev1.trans z9.symm
  refine lv_istore_n (lv' := [(3, .int v1), (2, .int 0), (0, .ref (ad 0)), (1, .int a1)]) hx hb dX12_growBy_7 rfl hl (by decide) rfl (fun ls hl => ?_)
  refine lv_iconst (v := 0) hx hb dX12_growBy_8 (by decide) ?_
  refine lv_istore (lv' := [(4, .int 0), (3, .int v1), (2, .int 0), (0, .ref (ad 0)), (1, .int a1)]) hx hb dX12_growBy_9 hl (by decide) rfl (fun ls hl => ?_)
  exact t_X12_growBy_b11 l G ad _  FUEL (0 : Int32) v1 (0 : Int32) μ h p e s m below meth c A ls H locs cx hr hlk hA (lv_sub hl [3, 2, 1, 0] rfl) hw

theorem p_X12_isPattern_b27_ex : ∃ f : Nat → Int32 → Int32 → Mem → Option (Int32 × Mem), (∀ (a1 : Int32) (a3 : Int32) (μ : Mem), f  0 a1 a3 μ = none) ∧ (∀ (n : Nat) (a1 : Int32) (a3 : Int32) (μ : Mem), f  (n + 1) a1 a3 μ = (if (μ.1 0 118) ≤ a3 then some ((1 : Int32), μ) else gd (inb (((210 : Int32) * a1) + a3) 5250) (gd (inb a3 210) ((if (μ.1 60 (((210 : Int32) * a1) + a3).toNatClampNeg) = (μ.1 67 a3.toNatClampNeg) then gd (inb (((210 : Int32) * a1) + a3) 5250) (gd (inb a3 210) ((if (μ.1 61 (((210 : Int32) * a1) + a3).toNatClampNeg) = (μ.1 68 a3.toNatClampNeg) then bv (a3 + 1) (fun v6 => f n a1 v6 μ) else some ((0 : Int32), μ)))) else some ((0 : Int32), μ)))))) := ⟨fun n => Nat.rec (fun (a1 : Int32) (a3 : Int32) (μ : Mem) => none) (fun _ ih => fun (a1 : Int32) (a3 : Int32) (μ : Mem) => (if (μ.1 0 118) ≤ a3 then some ((1 : Int32), μ) else gd (inb (((210 : Int32) * a1) + a3) 5250) (gd (inb a3 210) ((if (μ.1 60 (((210 : Int32) * a1) + a3).toNatClampNeg) = (μ.1 67 a3.toNatClampNeg) then gd (inb (((210 : Int32) * a1) + a3) 5250) (gd (inb a3 210) ((if (μ.1 61 (((210 : Int32) * a1) + a3).toNatClampNeg) = (μ.1 68 a3.toNatClampNeg) then bv (a3 + 1) (fun v6 => ih a1 v6 μ) else some ((0 : Int32), μ)))) else some ((0 : Int32), μ)))))) n, fun  _ _ _ => rfl, fun  _ _ _ _ => rfl⟩
noncomputable def p_X12_isPattern_b27 : Nat → Int32 → Int32 → Mem → Option (Int32 × Mem) := Classical.choose p_X12_isPattern_b27_ex
theorem p_X12_isPattern_b27_z (a1 : Int32) (a3 : Int32) (μ : Mem) : p_X12_isPattern_b27  0 a1 a3 μ = none := (Classical.choose_spec p_X12_isPattern_b27_ex).1  a1 a3 μ
theorem p_X12_isPattern_b27_s (n : Nat) (a1 : Int32) (a3 : Int32) (μ : Mem) : p_X12_isPattern_b27  (n + 1) a1 a3 μ = (if (μ.1 0 118) ≤ a3 then some ((1 : Int32), μ) else gd (inb (((210 : Int32) * a1) + a3) 5250) (gd (inb a3 210) ((if (μ.1 60 (((210 : Int32) * a1) + a3).toNatClampNeg) = (μ.1 67 a3.toNatClampNeg) then gd (inb (((210 : Int32) * a1) + a3) 5250) (gd (inb a3 210) ((if (μ.1 61 (((210 : Int32) * a1) + a3).toNatClampNeg) = (μ.1 68 a3.toNatClampNeg) then bv (a3 + 1) (fun v6 => p_X12_isPattern_b27  n a1 v6 μ) else some ((0 : Int32), μ)))) else some ((0 : Int32), μ))))) := (Classical.choose_spec p_X12_isPattern_b27_ex).2  n a1 a3 μ
set_option maxHeartbeats 4000000 in
set_option maxRecDepth 100000 in
theorem t_X12_isPattern_b27 (l : Launch) (G : Gt) (ad : Nat → Nat) (av : List Value) {r : Int32} {μz : Mem} : ∀ (n : Nat) (a1 : Int32) (a3 : Int32) (μ : Mem), p_X12_isPattern_b27  n a1 a3 μ = some (r, μz) → Bk l cX12_isPattern 4 RX12 (some .boolean) ({ frames := 0, cells := 0, slots := 0, locals := 0 } : Room) G av (eI 1 G ad r μz) (wd 1 G ad μ) 27 [(0, .ref (ad 0)), (1, .int a1), (3, .int a3)] [] := by
  intro n
  induction n with
  | zero => intro a1 a3 μ h; rw [p_X12_isPattern_b27_z] at h; cases h
  | succ n ih =>
    intro a1 a3 μ h p e s m below meth c A ls H locs cx hr hlk hA hl hw
    have hx := cx.1
    have hb := cx.2.1
    rw [p_X12_isPattern_b27_s] at h
    refine lv_iload_n hx hb dX12_isPattern_27 rfl (lv_at hl 2 rfl) ?_
    refine lv_aload_n hx hb dX12_isPattern_28 rfl (lv_at hl 0 rfl) ?_
    refine g_get cx hw inX12 (ci := 11) rfl 118 (by decide) rfl (v := .int (μ.1 0 118)) shm_0 rfl fl_X12_707 dX12_isPattern_29 ?_
    refine lv_icmp_ge (tgt := 85) hx hb dX12_isPattern_32 (by decide) (fun c3 => ?_) (fun c3 => ?_)
    · rw [if_pos c3] at h
      refine lv_iconst (v := 1) hx hb dX12_isPattern_85 (by decide) ?_
      exact g_zret cx hr hlk rfl hw h dX12_isPattern_86
    · rw [if_neg c3] at h
      refine lv_aload_n hx hb dX12_isPattern_35 rfl (lv_at hl 0 rfl) ?_
      refine g_get cx hw inX12 (ci := 11) rfl 103 (by decide) rfl (v := .ref (ad 60)) shm_0 rfl fl_X12_196 dX12_isPattern_36 ?_
      refine lv_sipush (v := 210) hx hb dX12_isPattern_39 (by decide) ?_
      refine lv_iload_n hx hb dX12_isPattern_42 rfl (lv_at hl 1 rfl) ?_
      refine lv_imul hx hb dX12_isPattern_43 ?_
      refine lv_iload_n hx hb dX12_isPattern_44 rfl (lv_at hl 2 rfl) ?_
      refine lv_iadd hx hb dX12_isPattern_45 ?_
      refine g_iald cx hw shm_60 h dX12_isPattern_46 (fun h => ?_)
      refine lv_aload_n hx hb dX12_isPattern_47 rfl (lv_at hl 0 rfl) ?_
      refine g_get cx hw inX12 (ci := 11) rfl 112 (by decide) rfl (v := .ref (ad 67)) shm_0 rfl fl_X12_217 dX12_isPattern_48 ?_
      refine lv_iload_n hx hb dX12_isPattern_51 rfl (lv_at hl 2 rfl) ?_
      refine g_iald cx hw shm_67 h dX12_isPattern_52 (fun h => ?_)
      refine lv_icmp_ne (tgt := 77) hx hb dX12_isPattern_53 (by decide) (fun c4 => ?_) (fun c4 => ?_)
      · rw [if_neg c4] at h
        refine lv_iconst (v := 0) hx hb dX12_isPattern_77 (by decide) ?_
        exact g_zret cx hr hlk rfl hw h dX12_isPattern_78
      · rw [if_pos c4] at h
        refine lv_aload_n hx hb dX12_isPattern_56 rfl (lv_at hl 0 rfl) ?_
        refine g_get cx hw inX12 (ci := 11) rfl 104 (by decide) rfl (v := .ref (ad 61)) shm_0 rfl fl_X12_199 dX12_isPattern_57 ?_
        refine lv_sipush (v := 210) hx hb dX12_isPattern_60 (by decide) ?_
        refine lv_iload_n hx hb dX12_isPattern_63 rfl (lv_at hl 1 rfl) ?_
        refine lv_imul hx hb dX12_isPattern_64 ?_
        refine lv_iload_n hx hb dX12_isPattern_65 rfl (lv_at hl 2 rfl) ?_
        refine lv_iadd hx hb dX12_isPattern_66 ?_
        refine g_iald cx hw shm_61 h dX12_isPattern_67 (fun h => ?_)
        refine lv_aload_n hx hb dX12_isPattern_68 rfl (lv_at hl 0 rfl) ?_
        refine g_get cx hw inX12 (ci := 11) rfl 113 (by decide) rfl (v := .ref (ad 68)) shm_0 rfl fl_X12_220 dX12_isPattern_69 ?_
        refine lv_iload_n hx hb dX12_isPattern_72 rfl (lv_at hl 2 rfl) ?_
        refine g_iald cx hw shm_68 h dX12_isPattern_73 (fun h => ?_)
        refine lv_icmp_eq (tgt := 79) hx hb dX12_isPattern_74 (by decide) (fun c5 => ?_) (fun c5 => ?_)
        · rw [if_pos c5] at h
          obtain ⟨v6, ev6, h⟩ := bv_ex h
          refine lv_iinc (v := v6) (lv' := [(3, .int v6), (0, .ref (ad 0)), (1, .int a1)]) hx hb dX12_isPattern_79 hl (k := 2) rfl (by rw [ev6]; rfl) (by decide) rfl (fun ls hl => ?_)
          refine lv_goto (tgt := 27) hx hb dX12_isPattern_82 (by decide) ?_
          exact ih a1 v6 μ h p e s m below meth c A ls H locs cx hr hlk hA (lv_sub hl [1, 2, 0] rfl) hw
        · rw [if_neg c5] at h
          refine lv_iconst (v := 0) hx hb dX12_isPattern_77 (by decide) ?_
          exact g_zret cx hr hlk rfl hw h dX12_isPattern_78
theorem p_X12_isPattern_ex : ∃ f : Int32 → Int32 → Mem → Option (Int32 × Mem), ∀ (a1 : Int32) (a2 : Int32) (μ : Mem), f a1 a2 μ = gd (inb a1 25) ((if (μ.1 57 a1.toNatClampNeg) = a2 then gd (inb a1 25) ((if (μ.1 58 a1.toNatClampNeg) = (μ.1 0 118) then p_X12_isPattern_b27  FUEL a1 (0 : Int32) μ else some ((0 : Int32), μ))) else some ((0 : Int32), μ))) := ⟨fun (a1 : Int32) (a2 : Int32) (μ : Mem) => gd (inb a1 25) ((if (μ.1 57 a1.toNatClampNeg) = a2 then gd (inb a1 25) ((if (μ.1 58 a1.toNatClampNeg) = (μ.1 0 118) then p_X12_isPattern_b27  FUEL a1 (0 : Int32) μ else some ((0 : Int32), μ))) else some ((0 : Int32), μ))), fun _ _ _ => rfl⟩
noncomputable def p_X12_isPattern : Int32 → Int32 → Mem → Option (Int32 × Mem) := Classical.choose p_X12_isPattern_ex
theorem p_X12_isPattern_eq (a1 : Int32) (a2 : Int32) (μ : Mem) : p_X12_isPattern a1 a2 μ = gd (inb a1 25) ((if (μ.1 57 a1.toNatClampNeg) = a2 then gd (inb a1 25) ((if (μ.1 58 a1.toNatClampNeg) = (μ.1 0 118) then p_X12_isPattern_b27  FUEL a1 (0 : Int32) μ else some ((0 : Int32), μ))) else some ((0 : Int32), μ))) := Classical.choose_spec p_X12_isPattern_ex a1 a2 μ
set_option maxHeartbeats 4000000 in
set_option maxRecDepth 100000 in
theorem t_X12_isPattern (l : Launch) (G : Gt) (ad : Nat → Nat) (a1 : Int32) (a2 : Int32) (μ : Mem) {r : Int32} {μz : Mem} (h : p_X12_isPattern a1 a2 μ = some (r, μz)) : Mt l yX12_isPattern cX12_isPattern 4 (some .boolean) ({ frames := 0, cells := 0, slots := 0, locals := 0 } : Room) G [.ref (ad 0), .int a1, .int a2] (wd 1 G ad μ) (eI 1 G ad r μz) := by
  refine Bk.mt (by decide) rfl (Nat.le_of_ble_eq_true rfl) ?_
  intro p e s m below meth c A ls H locs cx hr hlk hA hl hw
  have hx := cx.1
  have hb := cx.2.1
  have hl : lv_has ls 4 [(0, .ref (ad 0)), (1, .int a1), (2, .int a2)] := hl
  rw [p_X12_isPattern_eq] at h
  refine lv_aload_n hx hb dX12_isPattern_0 rfl (lv_at hl 0 rfl) ?_
  refine g_get cx hw inX12 (ci := 11) rfl 100 (by decide) rfl (v := .ref (ad 57)) shm_0 rfl fl_X12_187 dX12_isPattern_1 ?_
  refine lv_iload_n hx hb dX12_isPattern_4 rfl (lv_at hl 1 rfl) ?_
  refine g_iald cx hw shm_57 h dX12_isPattern_5 (fun h => ?_)
  refine lv_iload_n hx hb dX12_isPattern_6 rfl (lv_at hl 2 rfl) ?_
  refine lv_icmp_ne (tgt := 23) hx hb dX12_isPattern_7 (by decide) (fun c1 => ?_) (fun c1 => ?_)
  · rw [if_neg c1] at h
    refine lv_iconst (v := 0) hx hb dX12_isPattern_23 (by decide) ?_
    exact g_zret cx hr hlk rfl hw h dX12_isPattern_24
  · rw [if_pos c1] at h
    refine lv_aload_n hx hb dX12_isPattern_10 rfl (lv_at hl 0 rfl) ?_
    refine g_get cx hw inX12 (ci := 11) rfl 101 (by decide) rfl (v := .ref (ad 58)) shm_0 rfl fl_X12_190 dX12_isPattern_11 ?_
    refine lv_iload_n hx hb dX12_isPattern_14 rfl (lv_at hl 1 rfl) ?_
    refine g_iald cx hw shm_58 h dX12_isPattern_15 (fun h => ?_)
    refine lv_aload_n hx hb dX12_isPattern_16 rfl (lv_at hl 0 rfl) ?_
    refine g_get cx hw inX12 (ci := 11) rfl 118 (by decide) rfl (v := .int (μ.1 0 118)) shm_0 rfl fl_X12_707 dX12_isPattern_17 ?_
    refine lv_icmp_eq (tgt := 25) hx hb dX12_isPattern_20 (by decide) (fun c2 => ?_) (fun c2 => ?_)
    · rw [if_pos c2] at h
      refine lv_iconst (v := 0) hx hb dX12_isPattern_25 (by decide) ?_
      refine lv_istore_n (lv' := [(3, .int 0), (0, .ref (ad 0)), (1, .int a1), (2, .int a2)]) hx hb dX12_isPattern_26 rfl hl (by decide) rfl (fun ls hl => ?_)
      exact t_X12_isPattern_b27 l G ad _  FUEL a1 (0 : Int32) μ h p e s m below meth c A ls H locs cx hr hlk hA (lv_sub hl [1, 2, 0] rfl) hw
    · rw [if_neg c2] at h
      refine lv_iconst (v := 0) hx hb dX12_isPattern_23 (by decide) ?_
      exact g_zret cx hr hlk rfl hw h dX12_isPattern_24

theorem p_X12_variantBy_b2_ex : ∃ f : Nat → Int32 → Int32 → Mem → Option (Int32 × Mem), (∀ (a1 : Int32) (a2 : Int32) (μ : Mem), f  0 a1 a2 μ = none) ∧ (∀ (n : Nat) (a1 : Int32) (a2 : Int32) (μ : Mem), f  (n + 1) a1 a2 μ = (if (μ.1 0 110) ≤ a2 then some ((-1 : Int32), μ) else bd (p_X12_isPattern a2 a1 μ) (fun r3 μ2 => (if r3 = (0 : Int32) then bv (a2 + 1) (fun v5 => f n a1 v5 μ2) else some (a2, μ2))))) := ⟨fun n => Nat.rec (fun (a1 : Int32) (a2 : Int32) (μ : Mem) => none) (fun _ ih => fun (a1 : Int32) (a2 : Int32) (μ : Mem) => (if (μ.1 0 110) ≤ a2 then some ((-1 : Int32), μ) else bd (p_X12_isPattern a2 a1 μ) (fun r3 μ2 => (if r3 = (0 : Int32) then bv (a2 + 1) (fun v5 => ih a1 v5 μ2) else some (a2, μ2))))) n, fun  _ _ _ => rfl, fun  _ _ _ _ => rfl⟩
noncomputable def p_X12_variantBy_b2 : Nat → Int32 → Int32 → Mem → Option (Int32 × Mem) := Classical.choose p_X12_variantBy_b2_ex
theorem p_X12_variantBy_b2_z (a1 : Int32) (a2 : Int32) (μ : Mem) : p_X12_variantBy_b2  0 a1 a2 μ = none := (Classical.choose_spec p_X12_variantBy_b2_ex).1  a1 a2 μ
theorem p_X12_variantBy_b2_s (n : Nat) (a1 : Int32) (a2 : Int32) (μ : Mem) : p_X12_variantBy_b2  (n + 1) a1 a2 μ = (if (μ.1 0 110) ≤ a2 then some ((-1 : Int32), μ) else bd (p_X12_isPattern a2 a1 μ) (fun r3 μ2 => (if r3 = (0 : Int32) then bv (a2 + 1) (fun v5 => p_X12_variantBy_b2  n a1 v5 μ2) else some (a2, μ2)))) := (Classical.choose_spec p_X12_variantBy_b2_ex).2  n a1 a2 μ
set_option maxHeartbeats 4000000 in
set_option maxRecDepth 100000 in
theorem t_X12_variantBy_b2 (l : Launch) (G : Gt) (ad : Nat → Nat) (av : List Value) {r : Int32} {μz : Mem} : ∀ (n : Nat) (a1 : Int32) (a2 : Int32) (μ : Mem), p_X12_variantBy_b2  n a1 a2 μ = some (r, μz) → Bk l cX12_variantBy 3 RX12 (some .int) ({ frames := 1, cells := 0, slots := 0, locals := 23 } : Room) G av (eI 1 G ad r μz) (wd 1 G ad μ) 2 [(0, .ref (ad 0)), (1, .int a1), (2, .int a2)] [] := by
  intro n
  induction n with
  | zero => intro a1 a2 μ h; rw [p_X12_variantBy_b2_z] at h; cases h
  | succ n ih =>
    intro a1 a2 μ h p e s m below meth c A ls H locs cx hr hlk hA hl hw
    have hx := cx.1
    have hb := cx.2.1
    rw [p_X12_variantBy_b2_s] at h
    refine lv_iload_n hx hb dX12_variantBy_2 rfl (lv_at hl 2 rfl) ?_
    refine lv_aload_n hx hb dX12_variantBy_3 rfl (lv_at hl 0 rfl) ?_
    refine g_get cx hw inX12 (ci := 11) rfl 110 (by decide) rfl (v := .int (μ.1 0 110)) shm_0 rfl fl_X12_724 dX12_variantBy_4 ?_
    refine lv_icmp_ge (tgt := 27) hx hb dX12_variantBy_7 (by decide) (fun c1 => ?_) (fun c1 => ?_)
    · rw [if_pos c1] at h
      refine lv_iconst (v := (-1)) hx hb dX12_variantBy_27 (by decide) ?_
      exact g_iret cx hr hlk hw h dX12_variantBy_28
    · rw [if_neg c1] at h
      refine lv_aload_n hx hb dX12_variantBy_10 rfl (lv_at hl 0 rfl) ?_
      refine lv_iload_n hx hb dX12_variantBy_11 rfl (lv_at hl 2 rfl) ?_
      refine lv_iload_n hx hb dX12_variantBy_12 rfl (lv_at hl 1 rfl) ?_
      obtain ⟨r3, μ2, gr3, h⟩ := bd_some h
      refine g_callVI (As := [.int a2, .int a1]) (rest := []) cx hw hA (t_X12_isPattern l G ad a2 a1 μ gr3) shm_0 rfl ml_X12_727 im_X12_isPattern se_X12_isPattern in_X12 co_X12_isPattern rfl hd_X12_isPattern rfl ⟨(Nat.le_of_ble_eq_true rfl), (Nat.le_of_ble_eq_true rfl)⟩ hl.1 rfl (Nat.le_of_ble_eq_true rfl) dX12_variantBy_13 ⟨rfl, rfl⟩ (fun H locs hw => ?_)
      refine lv_if_eq (tgt := 21) hx hb dX12_variantBy_16 (by decide) (fun c4 => ?_) (fun c4 => ?_)
      · rw [if_pos c4] at h
        obtain ⟨v5, ev5, h⟩ := bv_ex h
        refine lv_iinc (v := v5) (lv' := [(2, .int v5), (0, .ref (ad 0)), (1, .int a1)]) hx hb dX12_variantBy_21 hl (k := 2) rfl (by rw [ev5]; rfl) (by decide) rfl (fun ls hl => ?_)
        refine lv_goto (tgt := 2) hx hb dX12_variantBy_24 (by decide) ?_
        exact ih a1 v5 μ2 h p e s m below meth c A ls H locs cx hr hlk hA (lv_sub hl [1, 2, 0] rfl) hw
      · rw [if_neg c4] at h
        refine lv_iload_n hx hb dX12_variantBy_19 rfl (lv_at hl 2 rfl) ?_
        exact g_iret cx hr hlk hw h dX12_variantBy_20
theorem p_X12_variantBy_ex : ∃ f : Int32 → Mem → Option (Int32 × Mem), ∀ (a1 : Int32) (μ : Mem), f a1 μ = p_X12_variantBy_b2  FUEL a1 (0 : Int32) μ := ⟨fun (a1 : Int32) (μ : Mem) => p_X12_variantBy_b2  FUEL a1 (0 : Int32) μ, fun _ _ => rfl⟩
noncomputable def p_X12_variantBy : Int32 → Mem → Option (Int32 × Mem) := Classical.choose p_X12_variantBy_ex
theorem p_X12_variantBy_eq (a1 : Int32) (μ : Mem) : p_X12_variantBy a1 μ = p_X12_variantBy_b2  FUEL a1 (0 : Int32) μ := Classical.choose_spec p_X12_variantBy_ex a1 μ
set_option maxHeartbeats 4000000 in
set_option maxRecDepth 100000 in
theorem t_X12_variantBy (l : Launch) (G : Gt) (ad : Nat → Nat) (a1 : Int32) (μ : Mem) {r : Int32} {μz : Mem} (h : p_X12_variantBy a1 μ = some (r, μz)) : Mt l yX12_variantBy cX12_variantBy 3 (some .int) ({ frames := 1, cells := 0, slots := 0, locals := 23 } : Room) G [.ref (ad 0), .int a1] (wd 1 G ad μ) (eI 1 G ad r μz) := by
  refine Bk.mt (by decide) rfl (Nat.le_of_ble_eq_true rfl) ?_
  intro p e s m below meth c A ls H locs cx hr hlk hA hl hw
  have hx := cx.1
  have hb := cx.2.1
  have hl : lv_has ls 3 [(0, .ref (ad 0)), (1, .int a1)] := hl
  rw [p_X12_variantBy_eq] at h
  refine lv_iconst (v := 0) hx hb dX12_variantBy_0 (by decide) ?_
  refine lv_istore_n (lv' := [(2, .int 0), (0, .ref (ad 0)), (1, .int a1)]) hx hb dX12_variantBy_1 rfl hl (by decide) rfl (fun ls hl => ?_)
  exact t_X12_variantBy_b2 l G ad _  FUEL a1 (0 : Int32) μ h p e s m below meth c A ls H locs cx hr hlk hA (lv_sub hl [1, 2, 0] rfl) hw

theorem p_X12_variantsOf_b28_ex : ∃ f : (Int32 → Int32 → Int32 → Mem → Option (Int32 × Mem)) → Int32 → Int32 → Int32 → Int32 → Mem → Option (Int32 × Mem), ∀ (K4 : Int32 → Int32 → Int32 → Mem → Option (Int32 × Mem)) (a1 : Int32) (a3 : Int32) (k0 : Int32) (k1 : Int32) (μ : Mem), f K4 a1 a3 k0 k1 μ = bv (k1 + k0) (fun v3 => bv (a3 + 1) (fun v4 => K4 a1 v3 v4 μ)) := ⟨fun (K4 : Int32 → Int32 → Int32 → Mem → Option (Int32 × Mem)) (a1 : Int32) (a3 : Int32) (k0 : Int32) (k1 : Int32) (μ : Mem) => bv (k1 + k0) (fun v3 => bv (a3 + 1) (fun v4 => K4 a1 v3 v4 μ)), fun _ _ _ _ _ _ => rfl⟩
noncomputable def p_X12_variantsOf_b28 : (Int32 → Int32 → Int32 → Mem → Option (Int32 × Mem)) → Int32 → Int32 → Int32 → Int32 → Mem → Option (Int32 × Mem) := Classical.choose p_X12_variantsOf_b28_ex
theorem p_X12_variantsOf_b28_eq (K4 : Int32 → Int32 → Int32 → Mem → Option (Int32 × Mem)) (a1 : Int32) (a3 : Int32) (k0 : Int32) (k1 : Int32) (μ : Mem) : p_X12_variantsOf_b28 K4 a1 a3 k0 k1 μ = bv (k1 + k0) (fun v3 => bv (a3 + 1) (fun v4 => K4 a1 v3 v4 μ)) := Classical.choose_spec p_X12_variantsOf_b28_ex K4 a1 a3 k0 k1 μ
set_option maxHeartbeats 4000000 in
set_option maxRecDepth 100000 in
theorem t_X12_variantsOf_b28 (l : Launch) (G : Gt) (ad : Nat → Nat) (av : List Value) {r : Int32} {μz : Mem} (K4 : Int32 → Int32 → Int32 → Mem → Option (Int32 × Mem)) (hK4 : ∀ (z1 : Int32) (z2 : Int32) (z3 : Int32) (μ1 : Mem), K4 z1 z2 z3 μ1 = some (r, μz) → Bk l cX12_variantsOf 4 RX12 (some .int) ({ frames := 0, cells := 0, slots := 0, locals := 0 } : Room) G av (eI 1 G ad r μz) (wd 1 G ad μ1) 4 [(0, .ref (ad 0)), (1, .int z1), (2, .int z2), (3, .int z3)] []) (a1 : Int32) (a3 : Int32) (k0 : Int32) (k1 : Int32) (μ : Mem) (h : p_X12_variantsOf_b28 K4 a1 a3 k0 k1 μ = some (r, μz)) : Bk l cX12_variantsOf 4 RX12 (some .int) ({ frames := 0, cells := 0, slots := 0, locals := 0 } : Room) G av (eI 1 G ad r μz) (wd 1 G ad μ) 28 [(0, .ref (ad 0)), (1, .int a1), (3, .int a3)] [.int k0, .int k1] := by
  intro p e s m below meth c A ls H locs cx hr hlk hA hl hw
  have hx := cx.1
  have hb := cx.2.1
  rw [p_X12_variantsOf_b28_eq] at h
  refine lv_iadd hx hb dX12_variantsOf_28 ?_
  obtain ⟨v3, ev3, h⟩ := bv_ex h
  refine lv_topi (fun y9 z9 => ?_)
  obtain rfl : v3 = y9 := ev3.trans z9.symm
  refine lv_istore_n (lv' := [(2, .int v3), (0, .ref (ad 0)), (1, .int a1), (3, .int a3)]) hx hb dX12_variantsOf_29 rfl hl (by decide) rfl (fun ls hl => ?_)
  obtain ⟨v4, ev4, h⟩ := bv_ex h
  refine lv_iinc (v := v4) (lv' := [(3, .int v4), (2, .int v3), (0, .ref (ad 0)), (1, .int a1)]) hx hb dX12_variantsOf_30 hl (k := 3) rfl (by rw [ev4]; rfl) (by decide) rfl (fun ls hl => ?_)
  refine lv_goto (tgt := 4) hx hb dX12_variantsOf_33 (by decide) ?_
  exact hK4 a1 v3 v4 μ h p e s m below meth c A ls H locs cx hr hlk hA (lv_sub hl [2, 3, 1, 0] rfl) hw
theorem p_X12_variantsOf_b4_ex : ∃ f : Nat → Int32 → Int32 → Int32 → Mem → Option (Int32 × Mem), (∀ (a1 : Int32) (a2 : Int32) (a3 : Int32) (μ : Mem), f  0 a1 a2 a3 μ = none) ∧ (∀ (n : Nat) (a1 : Int32) (a2 : Int32) (a3 : Int32) (μ : Mem), f  (n + 1) a1 a2 a3 μ = (if (μ.1 0 110) ≤ a3 then some (a2, μ) else gd (inb a3 25) ((if (μ.1 57 a3.toNatClampNeg) = a1 then p_X12_variantsOf_b28 (f n) a1 a3 (1 : Int32) a2 μ else p_X12_variantsOf_b28 (f n) a1 a3 (0 : Int32) a2 μ)))) := ⟨fun n => Nat.rec (fun (a1 : Int32) (a2 : Int32) (a3 : Int32) (μ : Mem) => none) (fun _ ih => fun (a1 : Int32) (a2 : Int32) (a3 : Int32) (μ : Mem) => (if (μ.1 0 110) ≤ a3 then some (a2, μ) else gd (inb a3 25) ((if (μ.1 57 a3.toNatClampNeg) = a1 then p_X12_variantsOf_b28 (ih) a1 a3 (1 : Int32) a2 μ else p_X12_variantsOf_b28 (ih) a1 a3 (0 : Int32) a2 μ)))) n, fun  _ _ _ _ => rfl, fun  _ _ _ _ _ => rfl⟩
noncomputable def p_X12_variantsOf_b4 : Nat → Int32 → Int32 → Int32 → Mem → Option (Int32 × Mem) := Classical.choose p_X12_variantsOf_b4_ex
theorem p_X12_variantsOf_b4_z (a1 : Int32) (a2 : Int32) (a3 : Int32) (μ : Mem) : p_X12_variantsOf_b4  0 a1 a2 a3 μ = none := (Classical.choose_spec p_X12_variantsOf_b4_ex).1  a1 a2 a3 μ
theorem p_X12_variantsOf_b4_s (n : Nat) (a1 : Int32) (a2 : Int32) (a3 : Int32) (μ : Mem) : p_X12_variantsOf_b4  (n + 1) a1 a2 a3 μ = (if (μ.1 0 110) ≤ a3 then some (a2, μ) else gd (inb a3 25) ((if (μ.1 57 a3.toNatClampNeg) = a1 then p_X12_variantsOf_b28 (p_X12_variantsOf_b4  n) a1 a3 (1 : Int32) a2 μ else p_X12_variantsOf_b28 (p_X12_variantsOf_b4  n) a1 a3 (0 : Int32) a2 μ))) := (Classical.choose_spec p_X12_variantsOf_b4_ex).2  n a1 a2 a3 μ
set_option maxHeartbeats 4000000 in
set_option maxRecDepth 100000 in
theorem t_X12_variantsOf_b4 (l : Launch) (G : Gt) (ad : Nat → Nat) (av : List Value) {r : Int32} {μz : Mem} : ∀ (n : Nat) (a1 : Int32) (a2 : Int32) (a3 : Int32) (μ : Mem), p_X12_variantsOf_b4  n a1 a2 a3 μ = some (r, μz) → Bk l cX12_variantsOf 4 RX12 (some .int) ({ frames := 0, cells := 0, slots := 0, locals := 0 } : Room) G av (eI 1 G ad r μz) (wd 1 G ad μ) 4 [(0, .ref (ad 0)), (1, .int a1), (2, .int a2), (3, .int a3)] [] := by
  intro n
  induction n with
  | zero => intro a1 a2 a3 μ h; rw [p_X12_variantsOf_b4_z] at h; cases h
  | succ n ih =>
    intro a1 a2 a3 μ h p e s m below meth c A ls H locs cx hr hlk hA hl hw
    have hx := cx.1
    have hb := cx.2.1
    rw [p_X12_variantsOf_b4_s] at h
    refine lv_iload_n hx hb dX12_variantsOf_4 rfl (lv_at hl 3 rfl) ?_
    refine lv_aload_n hx hb dX12_variantsOf_5 rfl (lv_at hl 0 rfl) ?_
    refine g_get cx hw inX12 (ci := 11) rfl 110 (by decide) rfl (v := .int (μ.1 0 110)) shm_0 rfl fl_X12_724 dX12_variantsOf_6 ?_
    refine lv_icmp_ge (tgt := 36) hx hb dX12_variantsOf_9 (by decide) (fun c1 => ?_) (fun c1 => ?_)
    · rw [if_pos c1] at h
      refine lv_iload_n hx hb dX12_variantsOf_36 rfl (lv_at hl 2 rfl) ?_
      exact g_iret cx hr hlk hw h dX12_variantsOf_37
    · rw [if_neg c1] at h
      refine lv_iload_n hx hb dX12_variantsOf_12 rfl (lv_at hl 2 rfl) ?_
      refine lv_aload_n hx hb dX12_variantsOf_13 rfl (lv_at hl 0 rfl) ?_
      refine g_get cx hw inX12 (ci := 11) rfl 100 (by decide) rfl (v := .ref (ad 57)) shm_0 rfl fl_X12_187 dX12_variantsOf_14 ?_
      refine lv_iload_n hx hb dX12_variantsOf_17 rfl (lv_at hl 3 rfl) ?_
      refine g_iald cx hw shm_57 h dX12_variantsOf_18 (fun h => ?_)
      refine lv_iload_n hx hb dX12_variantsOf_19 rfl (lv_at hl 1 rfl) ?_
      refine lv_icmp_ne (tgt := 27) hx hb dX12_variantsOf_20 (by decide) (fun c2 => ?_) (fun c2 => ?_)
      · rw [if_neg c2] at h
        refine lv_iconst (v := 0) hx hb dX12_variantsOf_27 (by decide) ?_
        exact t_X12_variantsOf_b28 l G ad av _ ih a1 a3 (0 : Int32) a2 μ h p e s m below meth c A ls H locs cx hr hlk hA (lv_sub hl [0, 1, 3] rfl) hw
      · rw [if_pos c2] at h
        refine lv_iconst (v := 1) hx hb dX12_variantsOf_23 (by decide) ?_
        refine lv_goto (tgt := 28) hx hb dX12_variantsOf_24 (by decide) ?_
        exact t_X12_variantsOf_b28 l G ad av _ ih a1 a3 (1 : Int32) a2 μ h p e s m below meth c A ls H locs cx hr hlk hA (lv_sub hl [0, 1, 3] rfl) hw
theorem p_X12_variantsOf_ex : ∃ f : Int32 → Mem → Option (Int32 × Mem), ∀ (a1 : Int32) (μ : Mem), f a1 μ = p_X12_variantsOf_b4  FUEL a1 (0 : Int32) (0 : Int32) μ := ⟨fun (a1 : Int32) (μ : Mem) => p_X12_variantsOf_b4  FUEL a1 (0 : Int32) (0 : Int32) μ, fun _ _ => rfl⟩
noncomputable def p_X12_variantsOf : Int32 → Mem → Option (Int32 × Mem) := Classical.choose p_X12_variantsOf_ex
theorem p_X12_variantsOf_eq (a1 : Int32) (μ : Mem) : p_X12_variantsOf a1 μ = p_X12_variantsOf_b4  FUEL a1 (0 : Int32) (0 : Int32) μ := Classical.choose_spec p_X12_variantsOf_ex a1 μ
set_option maxHeartbeats 4000000 in
set_option maxRecDepth 100000 in
theorem t_X12_variantsOf (l : Launch) (G : Gt) (ad : Nat → Nat) (a1 : Int32) (μ : Mem) {r : Int32} {μz : Mem} (h : p_X12_variantsOf a1 μ = some (r, μz)) : Mt l yX12_variantsOf cX12_variantsOf 4 (some .int) ({ frames := 0, cells := 0, slots := 0, locals := 0 } : Room) G [.ref (ad 0), .int a1] (wd 1 G ad μ) (eI 1 G ad r μz) := by
  refine Bk.mt (by decide) rfl (Nat.le_of_ble_eq_true rfl) ?_
  intro p e s m below meth c A ls H locs cx hr hlk hA hl hw
  have hx := cx.1
  have hb := cx.2.1
  have hl : lv_has ls 4 [(0, .ref (ad 0)), (1, .int a1)] := hl
  rw [p_X12_variantsOf_eq] at h
  refine lv_iconst (v := 0) hx hb dX12_variantsOf_0 (by decide) ?_
  refine lv_istore_n (lv' := [(2, .int 0), (0, .ref (ad 0)), (1, .int a1)]) hx hb dX12_variantsOf_1 rfl hl (by decide) rfl (fun ls hl => ?_)
  refine lv_iconst (v := 0) hx hb dX12_variantsOf_2 (by decide) ?_
  refine lv_istore_n (lv' := [(3, .int 0), (2, .int 0), (0, .ref (ad 0)), (1, .int a1)]) hx hb dX12_variantsOf_3 rfl hl (by decide) rfl (fun ls hl => ?_)
  exact t_X12_variantsOf_b4 l G ad _  FUEL a1 (0 : Int32) (0 : Int32) μ h p e s m below meth c A ls H locs cx hr hlk hA (lv_sub hl [2, 3, 1, 0] rfl) hw

theorem p_X12_starsMade_b28_ex : ∃ f : (Int32 → Int32 → Mem → Option (Int32 × Mem)) → Int32 → Int32 → Int32 → Mem → Option (Int32 × Mem), ∀ (K4 : Int32 → Int32 → Mem → Option (Int32 × Mem)) (a2 : Int32) (k0 : Int32) (k1 : Int32) (μ : Mem), f K4 a2 k0 k1 μ = bv (k1 + k0) (fun v3 => bv (a2 + 1) (fun v4 => K4 v3 v4 μ)) := ⟨fun (K4 : Int32 → Int32 → Mem → Option (Int32 × Mem)) (a2 : Int32) (k0 : Int32) (k1 : Int32) (μ : Mem) => bv (k1 + k0) (fun v3 => bv (a2 + 1) (fun v4 => K4 v3 v4 μ)), fun _ _ _ _ _ => rfl⟩
noncomputable def p_X12_starsMade_b28 : (Int32 → Int32 → Mem → Option (Int32 × Mem)) → Int32 → Int32 → Int32 → Mem → Option (Int32 × Mem) := Classical.choose p_X12_starsMade_b28_ex
theorem p_X12_starsMade_b28_eq (K4 : Int32 → Int32 → Mem → Option (Int32 × Mem)) (a2 : Int32) (k0 : Int32) (k1 : Int32) (μ : Mem) : p_X12_starsMade_b28 K4 a2 k0 k1 μ = bv (k1 + k0) (fun v3 => bv (a2 + 1) (fun v4 => K4 v3 v4 μ)) := Classical.choose_spec p_X12_starsMade_b28_ex K4 a2 k0 k1 μ
set_option maxHeartbeats 4000000 in
set_option maxRecDepth 100000 in
theorem t_X12_starsMade_b28 (l : Launch) (G : Gt) (ad : Nat → Nat) (av : List Value) {r : Int32} {μz : Mem} (K4 : Int32 → Int32 → Mem → Option (Int32 × Mem)) (hK4 : ∀ (z1 : Int32) (z2 : Int32) (μ1 : Mem), K4 z1 z2 μ1 = some (r, μz) → Bk l cX12_starsMade 3 RX12 (some .int) ({ frames := 0, cells := 0, slots := 0, locals := 0 } : Room) G av (eI 1 G ad r μz) (wd 1 G ad μ1) 4 [(0, .ref (ad 0)), (1, .int z1), (2, .int z2)] []) (a2 : Int32) (k0 : Int32) (k1 : Int32) (μ : Mem) (h : p_X12_starsMade_b28 K4 a2 k0 k1 μ = some (r, μz)) : Bk l cX12_starsMade 3 RX12 (some .int) ({ frames := 0, cells := 0, slots := 0, locals := 0 } : Room) G av (eI 1 G ad r μz) (wd 1 G ad μ) 28 [(0, .ref (ad 0)), (2, .int a2)] [.int k0, .int k1] := by
  intro p e s m below meth c A ls H locs cx hr hlk hA hl hw
  have hx := cx.1
  have hb := cx.2.1
  rw [p_X12_starsMade_b28_eq] at h
  refine lv_iadd hx hb dX12_starsMade_28 ?_
  obtain ⟨v3, ev3, h⟩ := bv_ex h
  refine lv_topi (fun y9 z9 => ?_)
  obtain rfl : v3 = y9 := ev3.trans z9.symm
  refine lv_istore_n (lv' := [(1, .int v3), (0, .ref (ad 0)), (2, .int a2)]) hx hb dX12_starsMade_29 rfl hl (by decide) rfl (fun ls hl => ?_)
  obtain ⟨v4, ev4, h⟩ := bv_ex h
  refine lv_iinc (v := v4) (lv' := [(2, .int v4), (1, .int v3), (0, .ref (ad 0))]) hx hb dX12_starsMade_30 hl (k := 2) rfl (by rw [ev4]; rfl) (by decide) rfl (fun ls hl => ?_)
  refine lv_goto (tgt := 4) hx hb dX12_starsMade_33 (by decide) ?_
  exact hK4 v3 v4 μ h p e s m below meth c A ls H locs cx hr hlk hA (lv_sub hl [2, 1, 0] rfl) hw
theorem p_X12_starsMade_b4_ex : ∃ f : Nat → Int32 → Int32 → Mem → Option (Int32 × Mem), (∀ (a1 : Int32) (a2 : Int32) (μ : Mem), f  0 a1 a2 μ = none) ∧ (∀ (n : Nat) (a1 : Int32) (a2 : Int32) (μ : Mem), f  (n + 1) a1 a2 μ = (if (μ.1 0 118) ≤ a2 then some (a1, μ) else gd (inb a2 210) ((if (μ.1 67 a2.toNatClampNeg) = (3 : Int32) then p_X12_starsMade_b28 (f n) a2 (1 : Int32) a1 μ else p_X12_starsMade_b28 (f n) a2 (0 : Int32) a1 μ)))) := ⟨fun n => Nat.rec (fun (a1 : Int32) (a2 : Int32) (μ : Mem) => none) (fun _ ih => fun (a1 : Int32) (a2 : Int32) (μ : Mem) => (if (μ.1 0 118) ≤ a2 then some (a1, μ) else gd (inb a2 210) ((if (μ.1 67 a2.toNatClampNeg) = (3 : Int32) then p_X12_starsMade_b28 (ih) a2 (1 : Int32) a1 μ else p_X12_starsMade_b28 (ih) a2 (0 : Int32) a1 μ)))) n, fun  _ _ _ => rfl, fun  _ _ _ _ => rfl⟩
noncomputable def p_X12_starsMade_b4 : Nat → Int32 → Int32 → Mem → Option (Int32 × Mem) := Classical.choose p_X12_starsMade_b4_ex
theorem p_X12_starsMade_b4_z (a1 : Int32) (a2 : Int32) (μ : Mem) : p_X12_starsMade_b4  0 a1 a2 μ = none := (Classical.choose_spec p_X12_starsMade_b4_ex).1  a1 a2 μ
theorem p_X12_starsMade_b4_s (n : Nat) (a1 : Int32) (a2 : Int32) (μ : Mem) : p_X12_starsMade_b4  (n + 1) a1 a2 μ = (if (μ.1 0 118) ≤ a2 then some (a1, μ) else gd (inb a2 210) ((if (μ.1 67 a2.toNatClampNeg) = (3 : Int32) then p_X12_starsMade_b28 (p_X12_starsMade_b4  n) a2 (1 : Int32) a1 μ else p_X12_starsMade_b28 (p_X12_starsMade_b4  n) a2 (0 : Int32) a1 μ))) := (Classical.choose_spec p_X12_starsMade_b4_ex).2  n a1 a2 μ
set_option maxHeartbeats 4000000 in
set_option maxRecDepth 100000 in
theorem t_X12_starsMade_b4 (l : Launch) (G : Gt) (ad : Nat → Nat) (av : List Value) {r : Int32} {μz : Mem} : ∀ (n : Nat) (a1 : Int32) (a2 : Int32) (μ : Mem), p_X12_starsMade_b4  n a1 a2 μ = some (r, μz) → Bk l cX12_starsMade 3 RX12 (some .int) ({ frames := 0, cells := 0, slots := 0, locals := 0 } : Room) G av (eI 1 G ad r μz) (wd 1 G ad μ) 4 [(0, .ref (ad 0)), (1, .int a1), (2, .int a2)] [] := by
  intro n
  induction n with
  | zero => intro a1 a2 μ h; rw [p_X12_starsMade_b4_z] at h; cases h
  | succ n ih =>
    intro a1 a2 μ h p e s m below meth c A ls H locs cx hr hlk hA hl hw
    have hx := cx.1
    have hb := cx.2.1
    rw [p_X12_starsMade_b4_s] at h
    refine lv_iload_n hx hb dX12_starsMade_4 rfl (lv_at hl 2 rfl) ?_
    refine lv_aload_n hx hb dX12_starsMade_5 rfl (lv_at hl 0 rfl) ?_
    refine g_get cx hw inX12 (ci := 11) rfl 118 (by decide) rfl (v := .int (μ.1 0 118)) shm_0 rfl fl_X12_707 dX12_starsMade_6 ?_
    refine lv_icmp_ge (tgt := 36) hx hb dX12_starsMade_9 (by decide) (fun c1 => ?_) (fun c1 => ?_)
    · rw [if_pos c1] at h
      refine lv_iload_n hx hb dX12_starsMade_36 rfl (lv_at hl 1 rfl) ?_
      exact g_iret cx hr hlk hw h dX12_starsMade_37
    · rw [if_neg c1] at h
      refine lv_iload_n hx hb dX12_starsMade_12 rfl (lv_at hl 1 rfl) ?_
      refine lv_aload_n hx hb dX12_starsMade_13 rfl (lv_at hl 0 rfl) ?_
      refine g_get cx hw inX12 (ci := 11) rfl 112 (by decide) rfl (v := .ref (ad 67)) shm_0 rfl fl_X12_217 dX12_starsMade_14 ?_
      refine lv_iload_n hx hb dX12_starsMade_17 rfl (lv_at hl 2 rfl) ?_
      refine g_iald cx hw shm_67 h dX12_starsMade_18 (fun h => ?_)
      refine lv_iconst (v := 3) hx hb dX12_starsMade_19 (by decide) ?_
      refine lv_icmp_ne (tgt := 27) hx hb dX12_starsMade_20 (by decide) (fun c2 => ?_) (fun c2 => ?_)
      · rw [if_neg c2] at h
        refine lv_iconst (v := 0) hx hb dX12_starsMade_27 (by decide) ?_
        exact t_X12_starsMade_b28 l G ad av _ ih a2 (0 : Int32) a1 μ h p e s m below meth c A ls H locs cx hr hlk hA (lv_sub hl [0, 2] rfl) hw
      · rw [if_pos c2] at h
        refine lv_iconst (v := 1) hx hb dX12_starsMade_23 (by decide) ?_
        refine lv_goto (tgt := 28) hx hb dX12_starsMade_24 (by decide) ?_
        exact t_X12_starsMade_b28 l G ad av _ ih a2 (1 : Int32) a1 μ h p e s m below meth c A ls H locs cx hr hlk hA (lv_sub hl [0, 2] rfl) hw
theorem p_X12_starsMade_ex : ∃ f : Mem → Option (Int32 × Mem), ∀  (μ : Mem), f  μ = p_X12_starsMade_b4  FUEL (0 : Int32) (0 : Int32) μ := ⟨fun  (μ : Mem) => p_X12_starsMade_b4  FUEL (0 : Int32) (0 : Int32) μ, fun _ => rfl⟩
noncomputable def p_X12_starsMade : Mem → Option (Int32 × Mem) := Classical.choose p_X12_starsMade_ex
theorem p_X12_starsMade_eq  (μ : Mem) : p_X12_starsMade  μ = p_X12_starsMade_b4  FUEL (0 : Int32) (0 : Int32) μ := Classical.choose_spec p_X12_starsMade_ex  μ
set_option maxHeartbeats 4000000 in
set_option maxRecDepth 100000 in
theorem t_X12_starsMade (l : Launch) (G : Gt) (ad : Nat → Nat)  (μ : Mem) {r : Int32} {μz : Mem} (h : p_X12_starsMade  μ = some (r, μz)) : Mt l yX12_starsMade cX12_starsMade 3 (some .int) ({ frames := 0, cells := 0, slots := 0, locals := 0 } : Room) G [.ref (ad 0)] (wd 1 G ad μ) (eI 1 G ad r μz) := by
  refine Bk.mt (by decide) rfl (Nat.le_of_ble_eq_true rfl) ?_
  intro p e s m below meth c A ls H locs cx hr hlk hA hl hw
  have hx := cx.1
  have hb := cx.2.1
  have hl : lv_has ls 3 [(0, .ref (ad 0))] := hl
  rw [p_X12_starsMade_eq] at h
  refine lv_iconst (v := 0) hx hb dX12_starsMade_0 (by decide) ?_
  refine lv_istore_n (lv' := [(1, .int 0), (0, .ref (ad 0))]) hx hb dX12_starsMade_1 rfl hl (by decide) rfl (fun ls hl => ?_)
  refine lv_iconst (v := 0) hx hb dX12_starsMade_2 (by decide) ?_
  refine lv_istore_n (lv' := [(2, .int 0), (1, .int 0), (0, .ref (ad 0))]) hx hb dX12_starsMade_3 rfl hl (by decide) rfl (fun ls hl => ?_)
  exact t_X12_starsMade_b4 l G ad _  FUEL (0 : Int32) (0 : Int32) μ h p e s m below meth c A ls H locs cx hr hlk hA (lv_sub hl [2, 1, 0] rfl) hw

theorem p_X12_layStars_b2_ex : ∃ f : Nat → Int32 → Int32 → Mem → Option Mem, (∀ (a1 : Int32) (a2 : Int32) (μ : Mem), f  0 a1 a2 μ = none) ∧ (∀ (n : Nat) (a1 : Int32) (a2 : Int32) (μ : Mem), f  (n + 1) a1 a2 μ = (if a1 ≤ a2 then bv (sF μ 0 118 a1) (fun μ2 => some μ2) else gd (inb a2 210) (bv (sF μ 67 a2.toNatClampNeg (3 : Int32)) (fun μ3 => gd (inb a2 210) (bv (sF μ3 68 a2.toNatClampNeg (0 : Int32)) (fun μ4 => gd (inb a2 5) (gd (inb a2 210) (bv (sF μ4 69 a2.toNatClampNeg (μ4.1 45 a2.toNatClampNeg)) (fun μ5 => bv (a2 + 1) (fun v6 => f n a1 v6 μ5)))))))))) := ⟨fun n => Nat.rec (fun (a1 : Int32) (a2 : Int32) (μ : Mem) => none) (fun _ ih => fun (a1 : Int32) (a2 : Int32) (μ : Mem) => (if a1 ≤ a2 then bv (sF μ 0 118 a1) (fun μ2 => some μ2) else gd (inb a2 210) (bv (sF μ 67 a2.toNatClampNeg (3 : Int32)) (fun μ3 => gd (inb a2 210) (bv (sF μ3 68 a2.toNatClampNeg (0 : Int32)) (fun μ4 => gd (inb a2 5) (gd (inb a2 210) (bv (sF μ4 69 a2.toNatClampNeg (μ4.1 45 a2.toNatClampNeg)) (fun μ5 => bv (a2 + 1) (fun v6 => ih a1 v6 μ5)))))))))) n, fun  _ _ _ => rfl, fun  _ _ _ _ => rfl⟩
noncomputable def p_X12_layStars_b2 : Nat → Int32 → Int32 → Mem → Option Mem := Classical.choose p_X12_layStars_b2_ex
theorem p_X12_layStars_b2_z (a1 : Int32) (a2 : Int32) (μ : Mem) : p_X12_layStars_b2  0 a1 a2 μ = none := (Classical.choose_spec p_X12_layStars_b2_ex).1  a1 a2 μ
theorem p_X12_layStars_b2_s (n : Nat) (a1 : Int32) (a2 : Int32) (μ : Mem) : p_X12_layStars_b2  (n + 1) a1 a2 μ = (if a1 ≤ a2 then bv (sF μ 0 118 a1) (fun μ2 => some μ2) else gd (inb a2 210) (bv (sF μ 67 a2.toNatClampNeg (3 : Int32)) (fun μ3 => gd (inb a2 210) (bv (sF μ3 68 a2.toNatClampNeg (0 : Int32)) (fun μ4 => gd (inb a2 5) (gd (inb a2 210) (bv (sF μ4 69 a2.toNatClampNeg (μ4.1 45 a2.toNatClampNeg)) (fun μ5 => bv (a2 + 1) (fun v6 => p_X12_layStars_b2  n a1 v6 μ5))))))))) := (Classical.choose_spec p_X12_layStars_b2_ex).2  n a1 a2 μ
set_option maxHeartbeats 4000000 in
set_option maxRecDepth 100000 in
theorem t_X12_layStars_b2 (l : Launch) (G : Gt) (ad : Nat → Nat) (av : List Value) {μz : Mem} : ∀ (n : Nat) (a1 : Int32) (a2 : Int32) (μ : Mem), p_X12_layStars_b2  n a1 a2 μ = some μz → Bk l cX12_layStars 3 RX12 none ({ frames := 0, cells := 0, slots := 0, locals := 0 } : Room) G av (eV 1 G ad μz) (wd 1 G ad μ) 2 [(0, .ref (ad 0)), (1, .int a1), (2, .int a2)] [] := by
  intro n
  induction n with
  | zero => intro a1 a2 μ h; rw [p_X12_layStars_b2_z] at h; cases h
  | succ n ih =>
    intro a1 a2 μ h p e s m below meth c A ls H locs cx hr hlk hA hl hw
    have hx := cx.1
    have hb := cx.2.1
    rw [p_X12_layStars_b2_s] at h
    refine lv_iload_n hx hb dX12_layStars_2 rfl (lv_at hl 2 rfl) ?_
    refine lv_iload_n hx hb dX12_layStars_3 rfl (lv_at hl 1 rfl) ?_
    refine lv_icmp_ge (tgt := 39) hx hb dX12_layStars_4 (by decide) (fun c1 => ?_) (fun c1 => ?_)
    · rw [if_pos c1] at h
      refine lv_aload_n hx hb dX12_layStars_39 rfl (lv_at hl 0 rfl) ?_
      refine lv_iload_n hx hb dX12_layStars_40 rfl (lv_at hl 1 rfl) ?_
      refine g_put cx hw inX12 (ci := 11) rfl tyX12_ok nmX12 118 (by decide) rfl rfl rfl rfl shm_0 h fl_X12_707 dX12_layStars_41 (fun μ2 H locs h hw => ?_)
      exact g_vret cx hr hlk hw h dX12_layStars_44
    · rw [if_neg c1] at h
      refine lv_aload_n hx hb dX12_layStars_7 rfl (lv_at hl 0 rfl) ?_
      refine g_get cx hw inX12 (ci := 11) rfl 112 (by decide) rfl (v := .ref (ad 67)) shm_0 rfl fl_X12_217 dX12_layStars_8 ?_
      refine lv_iload_n hx hb dX12_layStars_11 rfl (lv_at hl 2 rfl) ?_
      refine lv_iconst (v := 3) hx hb dX12_layStars_12 (by decide) ?_
      refine g_iast cx hw shm_67 h dX12_layStars_13 (fun μ3 H locs h hw => ?_)
      refine lv_aload_n hx hb dX12_layStars_14 rfl (lv_at hl 0 rfl) ?_
      refine g_get cx hw inX12 (ci := 11) rfl 113 (by decide) rfl (v := .ref (ad 68)) shm_0 rfl fl_X12_220 dX12_layStars_15 ?_
      refine lv_iload_n hx hb dX12_layStars_18 rfl (lv_at hl 2 rfl) ?_
      refine lv_iconst (v := 0) hx hb dX12_layStars_19 (by decide) ?_
      refine g_iast cx hw shm_68 h dX12_layStars_20 (fun μ4 H locs h hw => ?_)
      refine lv_aload_n hx hb dX12_layStars_21 rfl (lv_at hl 0 rfl) ?_
      refine g_get cx hw inX12 (ci := 11) rfl 114 (by decide) rfl (v := .ref (ad 69)) shm_0 rfl fl_X12_223 dX12_layStars_22 ?_
      refine lv_iload_n hx hb dX12_layStars_25 rfl (lv_at hl 2 rfl) ?_
      refine lv_aload_n hx hb dX12_layStars_26 rfl (lv_at hl 0 rfl) ?_
      refine g_get cx hw inX12 (ci := 11) rfl 74 (by decide) rfl (v := .ref (ad 45)) shm_0 rfl fl_X12_151 dX12_layStars_27 ?_
      refine lv_iload_n hx hb dX12_layStars_30 rfl (lv_at hl 2 rfl) ?_
      refine g_iald cx hw shm_45 h dX12_layStars_31 (fun h => ?_)
      refine g_iast cx hw shm_69 h dX12_layStars_32 (fun μ5 H locs h hw => ?_)
      obtain ⟨v6, ev6, h⟩ := bv_ex h
      refine lv_iinc (v := v6) (lv' := [(2, .int v6), (0, .ref (ad 0)), (1, .int a1)]) hx hb dX12_layStars_33 hl (k := 2) rfl (by rw [ev6]; rfl) (by decide) rfl (fun ls hl => ?_)
      refine lv_goto (tgt := 2) hx hb dX12_layStars_36 (by decide) ?_
      exact ih a1 v6 μ5 h p e s m below meth c A ls H locs cx hr hlk hA (lv_sub hl [1, 2, 0] rfl) hw
theorem p_X12_layStars_ex : ∃ f : Int32 → Mem → Option Mem, ∀ (a1 : Int32) (μ : Mem), f a1 μ = p_X12_layStars_b2  FUEL a1 (0 : Int32) μ := ⟨fun (a1 : Int32) (μ : Mem) => p_X12_layStars_b2  FUEL a1 (0 : Int32) μ, fun _ _ => rfl⟩
noncomputable def p_X12_layStars : Int32 → Mem → Option Mem := Classical.choose p_X12_layStars_ex
theorem p_X12_layStars_eq (a1 : Int32) (μ : Mem) : p_X12_layStars a1 μ = p_X12_layStars_b2  FUEL a1 (0 : Int32) μ := Classical.choose_spec p_X12_layStars_ex a1 μ
set_option maxHeartbeats 4000000 in
set_option maxRecDepth 100000 in
theorem t_X12_layStars (l : Launch) (G : Gt) (ad : Nat → Nat) (a1 : Int32) (μ : Mem) {μz : Mem} (h : p_X12_layStars a1 μ = some μz) : Mt l yX12_layStars cX12_layStars 3 none ({ frames := 0, cells := 0, slots := 0, locals := 0 } : Room) G [.ref (ad 0), .int a1] (wd 1 G ad μ) (eV 1 G ad μz) := by
  refine Bk.mt (by decide) rfl (Nat.le_of_ble_eq_true rfl) ?_
  intro p e s m below meth c A ls H locs cx hr hlk hA hl hw
  have hx := cx.1
  have hb := cx.2.1
  have hl : lv_has ls 3 [(0, .ref (ad 0)), (1, .int a1)] := hl
  rw [p_X12_layStars_eq] at h
  refine lv_iconst (v := 0) hx hb dX12_layStars_0 (by decide) ?_
  refine lv_istore_n (lv' := [(2, .int 0), (0, .ref (ad 0)), (1, .int a1)]) hx hb dX12_layStars_1 rfl hl (by decide) rfl (fun ls hl => ?_)
  exact t_X12_layStars_b2 l G ad _  FUEL a1 (0 : Int32) μ h p e s m below meth c A ls H locs cx hr hlk hA (lv_sub hl [1, 2, 0] rfl) hw

theorem p_X12_newVariant_ex : ∃ f : Int32 → Int32 → Mem → Option (Int32 × Mem), ∀ (a1 : Int32) (a2 : Int32) (μ : Mem), f a1 a2 μ = (if (μ.1 0 110) = (24 : Int32) then bv (sF μ 0 68 (-4 : Int32)) (fun μ14 => some ((-1 : Int32), μ14)) else bv (μ.1 0 110) (fun v2 => bv (sF μ 0 110 ((μ.1 0 110) + (1 : Int32))) (fun μ3 => gd (inb v2 25) (bv (sF μ3 57 v2.toNatClampNeg a1) (fun μ4 => gd (inb v2 25) (bv (sF μ4 66 v2.toNatClampNeg a2) (fun μ5 => gd (inb v2 25) (bv (sF μ5 58 v2.toNatClampNeg (μ5.1 0 118)) (fun μ6 => bd (p_X12_starsMade μ6) (fun r8 μ7 => gd (inb v2 25) (bv (sF μ7 59 v2.toNatClampNeg r8) (fun μ9 => bw (p_X12_copy 67 (0 : Int32) (μ9.1 0 118) 60 ((210 : Int32) * v2) μ9) (fun μ10 => bw (p_X12_copy 68 (0 : Int32) (μ10.1 0 118) 61 ((210 : Int32) * v2) μ10) (fun μ12 => some (v2, μ12))))))))))))))) := ⟨fun (a1 : Int32) (a2 : Int32) (μ : Mem) => (if (μ.1 0 110) = (24 : Int32) then bv (sF μ 0 68 (-4 : Int32)) (fun μ14 => some ((-1 : Int32), μ14)) else bv (μ.1 0 110) (fun v2 => bv (sF μ 0 110 ((μ.1 0 110) + (1 : Int32))) (fun μ3 => gd (inb v2 25) (bv (sF μ3 57 v2.toNatClampNeg a1) (fun μ4 => gd (inb v2 25) (bv (sF μ4 66 v2.toNatClampNeg a2) (fun μ5 => gd (inb v2 25) (bv (sF μ5 58 v2.toNatClampNeg (μ5.1 0 118)) (fun μ6 => bd (p_X12_starsMade μ6) (fun r8 μ7 => gd (inb v2 25) (bv (sF μ7 59 v2.toNatClampNeg r8) (fun μ9 => bw (p_X12_copy 67 (0 : Int32) (μ9.1 0 118) 60 ((210 : Int32) * v2) μ9) (fun μ10 => bw (p_X12_copy 68 (0 : Int32) (μ10.1 0 118) 61 ((210 : Int32) * v2) μ10) (fun μ12 => some (v2, μ12))))))))))))))), fun _ _ _ => rfl⟩
noncomputable def p_X12_newVariant : Int32 → Int32 → Mem → Option (Int32 × Mem) := Classical.choose p_X12_newVariant_ex
theorem p_X12_newVariant_eq (a1 : Int32) (a2 : Int32) (μ : Mem) : p_X12_newVariant a1 a2 μ = (if (μ.1 0 110) = (24 : Int32) then bv (sF μ 0 68 (-4 : Int32)) (fun μ14 => some ((-1 : Int32), μ14)) else bv (μ.1 0 110) (fun v2 => bv (sF μ 0 110 ((μ.1 0 110) + (1 : Int32))) (fun μ3 => gd (inb v2 25) (bv (sF μ3 57 v2.toNatClampNeg a1) (fun μ4 => gd (inb v2 25) (bv (sF μ4 66 v2.toNatClampNeg a2) (fun μ5 => gd (inb v2 25) (bv (sF μ5 58 v2.toNatClampNeg (μ5.1 0 118)) (fun μ6 => bd (p_X12_starsMade μ6) (fun r8 μ7 => gd (inb v2 25) (bv (sF μ7 59 v2.toNatClampNeg r8) (fun μ9 => bw (p_X12_copy 67 (0 : Int32) (μ9.1 0 118) 60 ((210 : Int32) * v2) μ9) (fun μ10 => bw (p_X12_copy 68 (0 : Int32) (μ10.1 0 118) 61 ((210 : Int32) * v2) μ10) (fun μ12 => some (v2, μ12))))))))))))))) := Classical.choose_spec p_X12_newVariant_ex a1 a2 μ
set_option maxHeartbeats 4000000 in
set_option maxRecDepth 100000 in
theorem t_X12_newVariant (l : Launch) (G : Gt) (ad : Nat → Nat) (a1 : Int32) (a2 : Int32) (μ : Mem) {r : Int32} {μz : Mem} (h : p_X12_newVariant a1 a2 μ = some (r, μz)) : Mt l yX12_newVariant cX12_newVariant 4 (some .int) ({ frames := 1, cells := 0, slots := 0, locals := 25 } : Room) G [.ref (ad 0), .int a1, .int a2] (wd 1 G ad μ) (eI 1 G ad r μz) := by
  refine Bk.mt (by decide) rfl (Nat.le_of_ble_eq_true rfl) ?_
  intro p e s m below meth c A ls H locs cx hr hlk hA hl hw
  have hx := cx.1
  have hb := cx.2.1
  have hl : lv_has ls 4 [(0, .ref (ad 0)), (1, .int a1), (2, .int a2)] := hl
  rw [p_X12_newVariant_eq] at h
  refine lv_aload_n hx hb dX12_newVariant_0 rfl (lv_at hl 0 rfl) ?_
  refine g_get cx hw inX12 (ci := 11) rfl 110 (by decide) rfl (v := .int (μ.1 0 110)) shm_0 rfl fl_X12_724 dX12_newVariant_1 ?_
  refine lv_bipush (v := 24) hx hb dX12_newVariant_4 (by decide) ?_
  refine lv_icmp_ne (tgt := 17) hx hb dX12_newVariant_6 (by decide) (fun c1 => ?_) (fun c1 => ?_)
  · rw [if_neg c1] at h
    refine lv_aload_n hx hb dX12_newVariant_17 rfl (lv_at hl 0 rfl) ?_
    refine g_get cx hw inX12 (ci := 11) rfl 110 (by decide) rfl (v := .int (μ.1 0 110)) shm_0 rfl fl_X12_724 dX12_newVariant_18 ?_
    obtain ⟨v2, ev2, h⟩ := bv_ex h
    refine lv_topi (fun y9 z9 => ?_)
    obtain rfl : v2 = y9 := ev2.trans z9.symm
    refine lv_istore_n (lv' := [(3, .int v2), (0, .ref (ad 0)), (1, .int a1), (2, .int a2)]) hx hb dX12_newVariant_21 rfl hl (by decide) rfl (fun ls hl => ?_)
    refine lv_aload_n hx hb dX12_newVariant_22 rfl (lv_at hl 1 rfl) ?_
    refine lv_dup hx hb dX12_newVariant_23 rfl ?_
    refine g_get cx hw inX12 (ci := 11) rfl 110 (by decide) rfl (v := .int (μ.1 0 110)) shm_0 rfl fl_X12_724 dX12_newVariant_24 ?_
    refine lv_iconst (v := 1) hx hb dX12_newVariant_27 (by decide) ?_
    refine lv_iadd hx hb dX12_newVariant_28 ?_
    refine g_put cx hw inX12 (ci := 11) rfl tyX12_ok nmX12 110 (by decide) rfl rfl rfl rfl shm_0 h fl_X12_724 dX12_newVariant_29 (fun μ3 H locs h hw => ?_)
    refine lv_aload_n hx hb dX12_newVariant_32 rfl (lv_at hl 1 rfl) ?_
    refine g_get cx hw inX12 (ci := 11) rfl 100 (by decide) rfl (v := .ref (ad 57)) shm_0 rfl fl_X12_187 dX12_newVariant_33 ?_
    refine lv_iload_n hx hb dX12_newVariant_36 rfl (lv_at hl 0 rfl) ?_
    refine lv_iload_n hx hb dX12_newVariant_37 rfl (lv_at hl 2 rfl) ?_
    refine g_iast cx hw shm_57 h dX12_newVariant_38 (fun μ4 H locs h hw => ?_)
    refine lv_aload_n hx hb dX12_newVariant_39 rfl (lv_at hl 1 rfl) ?_
    refine g_get cx hw inX12 (ci := 11) rfl 109 (by decide) rfl (v := .ref (ad 66)) shm_0 rfl fl_X12_214 dX12_newVariant_40 ?_
    refine lv_iload_n hx hb dX12_newVariant_43 rfl (lv_at hl 0 rfl) ?_
    refine lv_iload_n hx hb dX12_newVariant_44 rfl (lv_at hl 3 rfl) ?_
    refine g_iast cx hw shm_66 h dX12_newVariant_45 (fun μ5 H locs h hw => ?_)
    refine lv_aload_n hx hb dX12_newVariant_46 rfl (lv_at hl 1 rfl) ?_
    refine g_get cx hw inX12 (ci := 11) rfl 101 (by decide) rfl (v := .ref (ad 58)) shm_0 rfl fl_X12_190 dX12_newVariant_47 ?_
    refine lv_iload_n hx hb dX12_newVariant_50 rfl (lv_at hl 0 rfl) ?_
    refine lv_aload_n hx hb dX12_newVariant_51 rfl (lv_at hl 1 rfl) ?_
    refine g_get cx hw inX12 (ci := 11) rfl 118 (by decide) rfl (v := .int (μ5.1 0 118)) shm_0 rfl fl_X12_707 dX12_newVariant_52 ?_
    refine g_iast cx hw shm_58 h dX12_newVariant_55 (fun μ6 H locs h hw => ?_)
    refine lv_aload_n hx hb dX12_newVariant_56 rfl (lv_at hl 1 rfl) ?_
    refine g_get cx hw inX12 (ci := 11) rfl 102 (by decide) rfl (v := .ref (ad 59)) shm_0 rfl fl_X12_193 dX12_newVariant_57 ?_
    refine lv_iload_n hx hb dX12_newVariant_60 rfl (lv_at hl 0 rfl) ?_
    refine lv_aload_n hx hb dX12_newVariant_61 rfl (lv_at hl 1 rfl) ?_
    obtain ⟨r8, μ7, gr8, h⟩ := bd_some h
    refine g_callVI (As := []) (rest := [.int v2, .ref (ad 59)]) cx hw hA (t_X12_starsMade l G ad μ6 gr8) shm_0 rfl ml_X12_730 im_X12_starsMade se_X12_starsMade in_X12 co_X12_starsMade rfl hd_X12_starsMade rfl ⟨(Nat.le_of_ble_eq_true rfl), (Nat.le_of_ble_eq_true rfl)⟩ hl.1 rfl (Nat.le_of_ble_eq_true rfl) dX12_newVariant_62 ⟨rfl, rfl⟩ (fun H locs hw => ?_)
    refine g_iast cx hw shm_59 h dX12_newVariant_65 (fun μ9 H locs h hw => ?_)
    refine lv_aload_n hx hb dX12_newVariant_66 rfl (lv_at hl 1 rfl) ?_
    refine g_get cx hw inX12 (ci := 11) rfl 112 (by decide) rfl (v := .ref (ad 67)) shm_0 rfl fl_X12_217 dX12_newVariant_67 ?_
    refine lv_iconst (v := 0) hx hb dX12_newVariant_70 (by decide) ?_
    refine lv_aload_n hx hb dX12_newVariant_71 rfl (lv_at hl 1 rfl) ?_
    refine g_get cx hw inX12 (ci := 11) rfl 118 (by decide) rfl (v := .int (μ9.1 0 118)) shm_0 rfl fl_X12_707 dX12_newVariant_72 ?_
    refine lv_aload_n hx hb dX12_newVariant_75 rfl (lv_at hl 1 rfl) ?_
    refine g_get cx hw inX12 (ci := 11) rfl 103 (by decide) rfl (v := .ref (ad 60)) shm_0 rfl fl_X12_196 dX12_newVariant_76 ?_
    refine lv_sipush (v := 210) hx hb dX12_newVariant_79 (by decide) ?_
    refine lv_iload_n hx hb dX12_newVariant_82 rfl (lv_at hl 0 rfl) ?_
    refine lv_imul hx hb dX12_newVariant_83 ?_
    obtain ⟨μ10, gμ10, h⟩ := bw_some h
    refine g_callSV (As := [.ref (ad 67), .int 0, .int (μ9.1 0 118), .ref (ad 60), .int ((210 : Int32) * v2)]) (rest := []) cx hw hA (t_X12_copy l G ad 67 (sh_f shm_67) (0 : Int32) (μ9.1 0 118) 60 (sh_f shm_60) ((210 : Int32) * v2) μ9 gμ10) ml_X12_471 st_X12_copy in_X12 co_X12_copy hd_X12_copy rfl ⟨(Nat.le_of_ble_eq_true rfl), (Nat.le_of_ble_eq_true rfl)⟩ hl.1 rfl (Nat.le_of_ble_eq_true rfl) dX12_newVariant_84 ⟨rfl, rfl⟩ (fun H locs hw => ?_)
    refine lv_aload_n hx hb dX12_newVariant_87 rfl (lv_at hl 1 rfl) ?_
    refine g_get cx hw inX12 (ci := 11) rfl 113 (by decide) rfl (v := .ref (ad 68)) shm_0 rfl fl_X12_220 dX12_newVariant_88 ?_
    refine lv_iconst (v := 0) hx hb dX12_newVariant_91 (by decide) ?_
    refine lv_aload_n hx hb dX12_newVariant_92 rfl (lv_at hl 1 rfl) ?_
    refine g_get cx hw inX12 (ci := 11) rfl 118 (by decide) rfl (v := .int (μ10.1 0 118)) shm_0 rfl fl_X12_707 dX12_newVariant_93 ?_
    refine lv_aload_n hx hb dX12_newVariant_96 rfl (lv_at hl 1 rfl) ?_
    refine g_get cx hw inX12 (ci := 11) rfl 104 (by decide) rfl (v := .ref (ad 61)) shm_0 rfl fl_X12_199 dX12_newVariant_97 ?_
    refine lv_sipush (v := 210) hx hb dX12_newVariant_100 (by decide) ?_
    refine lv_iload_n hx hb dX12_newVariant_103 rfl (lv_at hl 0 rfl) ?_
    refine lv_imul hx hb dX12_newVariant_104 ?_
    obtain ⟨μ12, gμ12, h⟩ := bw_some h
    refine g_callSV (As := [.ref (ad 68), .int 0, .int (μ10.1 0 118), .ref (ad 61), .int ((210 : Int32) * v2)]) (rest := []) cx hw hA (t_X12_copy l G ad 68 (sh_f shm_68) (0 : Int32) (μ10.1 0 118) 61 (sh_f shm_61) ((210 : Int32) * v2) μ10 gμ12) ml_X12_471 st_X12_copy in_X12 co_X12_copy hd_X12_copy rfl ⟨(Nat.le_of_ble_eq_true rfl), (Nat.le_of_ble_eq_true rfl)⟩ hl.1 rfl (Nat.le_of_ble_eq_true rfl) dX12_newVariant_105 ⟨rfl, rfl⟩ (fun H locs hw => ?_)
    refine lv_iload_n hx hb dX12_newVariant_108 rfl (lv_at hl 0 rfl) ?_
    exact g_iret cx hr hlk hw h dX12_newVariant_109
  · rw [if_pos c1] at h
    refine lv_aload_n hx hb dX12_newVariant_9 rfl (lv_at hl 0 rfl) ?_
    refine lv_bipush (v := (-4)) hx hb dX12_newVariant_10 (by decide) ?_
    refine g_put cx hw inX12 (ci := 11) rfl tyX12_ok nmX12 68 (by decide) rfl rfl rfl rfl shm_0 h fl_X12_557 dX12_newVariant_12 (fun μ14 H locs h hw => ?_)
    refine lv_iconst (v := (-1)) hx hb dX12_newVariant_15 (by decide) ?_
    exact g_iret cx hr hlk hw h dX12_newVariant_16

theorem p_X12_liftPair_ex : ∃ f : Int32 → Int32 → Mem → Option (Int32 × Mem), ∀ (a1 : Int32) (a2 : Int32) (μ : Mem), f a1 a2 μ = bd (p_X12_instruction (10 : Int32) (1 : Int32) μ) (fun r2 μ1 => (if (μ1.1 0 68) = (0 : Int32) then bw (p_X12_operand r2 a1 μ1) (fun μ4 => bw (p_X12_operand r2 a2 μ4) (fun μ6 => bd (p_X12_registerOf r2 μ6) (fun r9 μ8 => some (r9, μ8)))) else some (a1, μ1))) := ⟨fun (a1 : Int32) (a2 : Int32) (μ : Mem) => bd (p_X12_instruction (10 : Int32) (1 : Int32) μ) (fun r2 μ1 => (if (μ1.1 0 68) = (0 : Int32) then bw (p_X12_operand r2 a1 μ1) (fun μ4 => bw (p_X12_operand r2 a2 μ4) (fun μ6 => bd (p_X12_registerOf r2 μ6) (fun r9 μ8 => some (r9, μ8)))) else some (a1, μ1))), fun _ _ _ => rfl⟩
noncomputable def p_X12_liftPair : Int32 → Int32 → Mem → Option (Int32 × Mem) := Classical.choose p_X12_liftPair_ex
theorem p_X12_liftPair_eq (a1 : Int32) (a2 : Int32) (μ : Mem) : p_X12_liftPair a1 a2 μ = bd (p_X12_instruction (10 : Int32) (1 : Int32) μ) (fun r2 μ1 => (if (μ1.1 0 68) = (0 : Int32) then bw (p_X12_operand r2 a1 μ1) (fun μ4 => bw (p_X12_operand r2 a2 μ4) (fun μ6 => bd (p_X12_registerOf r2 μ6) (fun r9 μ8 => some (r9, μ8)))) else some (a1, μ1))) := Classical.choose_spec p_X12_liftPair_ex a1 a2 μ
set_option maxHeartbeats 4000000 in
set_option maxRecDepth 100000 in
theorem t_X12_liftPair (l : Launch) (G : Gt) (ad : Nat → Nat) (a1 : Int32) (a2 : Int32) (μ : Mem) {r : Int32} {μz : Mem} (h : p_X12_liftPair a1 a2 μ = some (r, μz)) : Mt l yX12_liftPair cX12_liftPair 4 (some .int) ({ frames := 2, cells := 0, slots := 0, locals := 45 } : Room) G [.ref (ad 0), .int a1, .int a2] (wd 1 G ad μ) (eI 1 G ad r μz) := by
  refine Bk.mt (by decide) rfl (Nat.le_of_ble_eq_true rfl) ?_
  intro p e s m below meth c A ls H locs cx hr hlk hA hl hw
  have hx := cx.1
  have hb := cx.2.1
  have hl : lv_has ls 4 [(0, .ref (ad 0)), (1, .int a1), (2, .int a2)] := hl
  rw [p_X12_liftPair_eq] at h
  refine lv_aload_n hx hb dX12_liftPair_0 rfl (lv_at hl 0 rfl) ?_
  refine lv_bipush (v := 10) hx hb dX12_liftPair_1 (by decide) ?_
  refine lv_iconst (v := 1) hx hb dX12_liftPair_3 (by decide) ?_
  obtain ⟨r2, μ1, gr2, h⟩ := bd_some h
  refine g_callVI (As := [.int 10, .int 1]) (rest := []) cx hw hA (t_X12_instruction l G ad (10 : Int32) (1 : Int32) μ gr2) shm_0 rfl ml_X12_639 im_X12_instruction se_X12_instruction in_X12 co_X12_instruction rfl hd_X12_instruction rfl ⟨(Nat.le_of_ble_eq_true rfl), (Nat.le_of_ble_eq_true rfl)⟩ hl.1 rfl (Nat.le_of_ble_eq_true rfl) dX12_liftPair_4 ⟨rfl, rfl⟩ (fun H locs hw => ?_)
  refine lv_istore_n (lv' := [(3, .int r2), (0, .ref (ad 0)), (1, .int a1), (2, .int a2)]) hx hb dX12_liftPair_7 rfl hl (by decide) rfl (fun ls hl => ?_)
  refine lv_aload_n hx hb dX12_liftPair_8 rfl (lv_at hl 1 rfl) ?_
  refine g_get cx hw inX12 (ci := 11) rfl 68 (by decide) rfl (v := .int (μ1.1 0 68)) shm_0 rfl fl_X12_557 dX12_liftPair_9 ?_
  refine lv_if_eq (tgt := 17) hx hb dX12_liftPair_12 (by decide) (fun c3 => ?_) (fun c3 => ?_)
  · rw [if_pos c3] at h
    refine lv_aload_n hx hb dX12_liftPair_17 rfl (lv_at hl 1 rfl) ?_
    refine lv_iload_n hx hb dX12_liftPair_18 rfl (lv_at hl 0 rfl) ?_
    refine lv_iload_n hx hb dX12_liftPair_19 rfl (lv_at hl 2 rfl) ?_
    obtain ⟨μ4, gμ4, h⟩ := bw_some h
    refine g_callVV (As := [.int r2, .int a1]) (rest := []) cx hw hA (t_X12_operand l G ad r2 a1 μ1 gμ4) shm_0 rfl ml_X12_609 im_X12_operand se_X12_operand in_X12 co_X12_operand rfl hd_X12_operand rfl ⟨(Nat.le_of_ble_eq_true rfl), (Nat.le_of_ble_eq_true rfl)⟩ hl.1 rfl (Nat.le_of_ble_eq_true rfl) dX12_liftPair_20 ⟨rfl, rfl⟩ (fun H locs hw => ?_)
    refine lv_aload_n hx hb dX12_liftPair_23 rfl (lv_at hl 1 rfl) ?_
    refine lv_iload_n hx hb dX12_liftPair_24 rfl (lv_at hl 0 rfl) ?_
    refine lv_iload_n hx hb dX12_liftPair_25 rfl (lv_at hl 3 rfl) ?_
    obtain ⟨μ6, gμ6, h⟩ := bw_some h
    refine g_callVV (As := [.int r2, .int a2]) (rest := []) cx hw hA (t_X12_operand l G ad r2 a2 μ4 gμ6) shm_0 rfl ml_X12_609 im_X12_operand se_X12_operand in_X12 co_X12_operand rfl hd_X12_operand rfl ⟨(Nat.le_of_ble_eq_true rfl), (Nat.le_of_ble_eq_true rfl)⟩ hl.1 rfl (Nat.le_of_ble_eq_true rfl) dX12_liftPair_26 ⟨rfl, rfl⟩ (fun H locs hw => ?_)
    refine lv_aload_n hx hb dX12_liftPair_29 rfl (lv_at hl 1 rfl) ?_
    refine lv_iload_n hx hb dX12_liftPair_30 rfl (lv_at hl 0 rfl) ?_
    obtain ⟨r9, μ8, gr9, h⟩ := bd_some h
    refine g_callVI (As := [.int r2]) (rest := []) cx hw hA (t_X12_registerOf l G ad r2 μ6 gr9) shm_0 rfl ml_X12_643 im_X12_registerOf se_X12_registerOf in_X12 co_X12_registerOf rfl hd_X12_registerOf rfl ⟨(Nat.le_of_ble_eq_true rfl), (Nat.le_of_ble_eq_true rfl)⟩ hl.1 rfl (Nat.le_of_ble_eq_true rfl) dX12_liftPair_31 ⟨rfl, rfl⟩ (fun H locs hw => ?_)
    exact g_iret cx hr hlk hw h dX12_liftPair_34
  · rw [if_neg c3] at h
    refine lv_iload_n hx hb dX12_liftPair_15 rfl (lv_at hl 2 rfl) ?_
    exact g_iret cx hr hlk hw h dX12_liftPair_16

theorem p_X12_lift_b139_ex : ∃ f : Int32 → Mem → Option (Int32 × Mem), ∀ (a1 : Int32) (μ : Mem), f a1 μ = (if (μ.1 0 68) = (0 : Int32) then gd (inb (0 : Int32) 200) (some ((μ.1 56 (0 : Int32).toNatClampNeg), μ)) else some (a1, μ)) := ⟨fun (a1 : Int32) (μ : Mem) => (if (μ.1 0 68) = (0 : Int32) then gd (inb (0 : Int32) 200) (some ((μ.1 56 (0 : Int32).toNatClampNeg), μ)) else some (a1, μ)), fun _ _ => rfl⟩
noncomputable def p_X12_lift_b139 : Int32 → Mem → Option (Int32 × Mem) := Classical.choose p_X12_lift_b139_ex
theorem p_X12_lift_b139_eq (a1 : Int32) (μ : Mem) : p_X12_lift_b139 a1 μ = (if (μ.1 0 68) = (0 : Int32) then gd (inb (0 : Int32) 200) (some ((μ.1 56 (0 : Int32).toNatClampNeg), μ)) else some (a1, μ)) := Classical.choose_spec p_X12_lift_b139_ex a1 μ
set_option maxHeartbeats 4000000 in
set_option maxRecDepth 100000 in
theorem t_X12_lift_b139 (l : Launch) (G : Gt) (ad : Nat → Nat) (av : List Value) {r : Int32} {μz : Mem} (a1 : Int32) (μ : Mem) (h : p_X12_lift_b139  a1 μ = some (r, μz)) : Bk l cX12_lift 5 RX12 (some .int) ({ frames := 3, cells := 0, slots := 0, locals := 68 } : Room) G av (eI 1 G ad r μz) (wd 1 G ad μ) 139 [(0, .ref (ad 0)), (1, .int a1)] [] := by
  intro p e s m below meth c A ls H locs cx hr hlk hA hl hw
  have hx := cx.1
  have hb := cx.2.1
  rw [p_X12_lift_b139_eq] at h
  refine lv_aload_n hx hb dX12_lift_139 rfl (lv_at hl 0 rfl) ?_
  refine g_get cx hw inX12 (ci := 11) rfl 68 (by decide) rfl (v := .int (μ.1 0 68)) shm_0 rfl fl_X12_557 dX12_lift_140 ?_
  refine lv_if_ne (tgt := 155) hx hb dX12_lift_143 (by decide) (fun c3 => ?_) (fun c3 => ?_)
  · rw [if_neg c3] at h
    refine lv_iload_n hx hb dX12_lift_155 rfl (lv_at hl 1 rfl) ?_
    exact g_iret cx hr hlk hw h dX12_lift_156
  · rw [if_pos c3] at h
    refine lv_aload_n hx hb dX12_lift_146 rfl (lv_at hl 0 rfl) ?_
    refine g_get cx hw inX12 (ci := 11) rfl 99 (by decide) rfl (v := .ref (ad 56)) shm_0 rfl fl_X12_184 dX12_lift_147 ?_
    refine lv_iconst (v := 0) hx hb dX12_lift_150 (by decide) ?_
    refine g_iald cx hw shm_56 h dX12_lift_151 (fun h => ?_)
    refine lv_goto (tgt := 156) hx hb dX12_lift_152 (by decide) ?_
    exact g_iret cx hr hlk hw h dX12_lift_156
theorem p_X12_lift_b136_ex : ∃ f : (Int32 → Int32 → Int32 → Mem → Option (Int32 × Mem)) → Int32 → Int32 → Int32 → Mem → Option (Int32 × Mem), ∀ (K11 : Int32 → Int32 → Int32 → Mem → Option (Int32 × Mem)) (a1 : Int32) (a2 : Int32) (a3 : Int32) (μ : Mem), f K11 a1 a2 a3 μ = K11 a1 a2 a3 μ := ⟨fun (K11 : Int32 → Int32 → Int32 → Mem → Option (Int32 × Mem)) (a1 : Int32) (a2 : Int32) (a3 : Int32) (μ : Mem) => K11 a1 a2 a3 μ, fun _ _ _ _ _ => rfl⟩
noncomputable def p_X12_lift_b136 : (Int32 → Int32 → Int32 → Mem → Option (Int32 × Mem)) → Int32 → Int32 → Int32 → Mem → Option (Int32 × Mem) := Classical.choose p_X12_lift_b136_ex
theorem p_X12_lift_b136_eq (K11 : Int32 → Int32 → Int32 → Mem → Option (Int32 × Mem)) (a1 : Int32) (a2 : Int32) (a3 : Int32) (μ : Mem) : p_X12_lift_b136 K11 a1 a2 a3 μ = K11 a1 a2 a3 μ := Classical.choose_spec p_X12_lift_b136_ex K11 a1 a2 a3 μ
set_option maxHeartbeats 4000000 in
set_option maxRecDepth 100000 in
theorem t_X12_lift_b136 (l : Launch) (G : Gt) (ad : Nat → Nat) (av : List Value) {r : Int32} {μz : Mem} (K11 : Int32 → Int32 → Int32 → Mem → Option (Int32 × Mem)) (hK11 : ∀ (z1 : Int32) (z2 : Int32) (z3 : Int32) (μ1 : Mem), K11 z1 z2 z3 μ1 = some (r, μz) → Bk l cX12_lift 5 RX12 (some .int) ({ frames := 3, cells := 0, slots := 0, locals := 68 } : Room) G av (eI 1 G ad r μz) (wd 1 G ad μ1) 11 [(0, .ref (ad 0)), (1, .int z1), (2, .int z2), (3, .int z3)] []) (a1 : Int32) (a2 : Int32) (a3 : Int32) (μ : Mem) (h : p_X12_lift_b136 K11 a1 a2 a3 μ = some (r, μz)) : Bk l cX12_lift 5 RX12 (some .int) ({ frames := 3, cells := 0, slots := 0, locals := 68 } : Room) G av (eI 1 G ad r μz) (wd 1 G ad μ) 136 [(0, .ref (ad 0)), (1, .int a1), (2, .int a2), (3, .int a3)] [] := by
  intro p e s m below meth c A ls H locs cx hr hlk hA hl hw
  have hx := cx.1
  have hb := cx.2.1
  rw [p_X12_lift_b136_eq] at h
  refine lv_goto (tgt := 11) hx hb dX12_lift_136 (by decide) ?_
  exact hK11 a1 a2 a3 μ h p e s m below meth c A ls H locs cx hr hlk hA (lv_sub hl [0, 1, 2, 3] rfl) hw
theorem p_X12_lift_b11_ex : ∃ f : Nat → Int32 → Int32 → Int32 → Mem → Option (Int32 × Mem), (∀ (a1 : Int32) (a2 : Int32) (a3 : Int32) (μ : Mem), f  0 a1 a2 a3 μ = none) ∧ (∀ (n : Nat) (a1 : Int32) (a2 : Int32) (a3 : Int32) (μ : Mem), f  (n + 1) a1 a2 a3 μ = (if a3 ≤ (0 : Int32) then p_X12_lift_b139  a1 μ else (if (μ.1 0 68) = (0 : Int32) then bv (a3 + (-1)) (fun v5 => gd (inb v5 200) (bv (μ.1 55 v5.toNatClampNeg) (fun v6 => (if (0 : Int32) ≤ v6 then gd (inb v6 100000) ((if (μ.1 30 v6.toNatClampNeg) = (2 : Int32) then gd (inb v5 200) (bv (sF μ 55 v5.toNatClampNeg (-1 : Int32)) (fun μ11 => gd (inb v6 100000) (gd (inb (v5 + (1 : Int32)) 200) (bv (sF μ11 55 (v5 + (1 : Int32)).toNatClampNeg (μ11.1 32 v6.toNatClampNeg)) (fun μ12 => gd (inb v6 100000) (gd (inb (v5 + (2 : Int32)) 200) (bv (sF μ12 55 (v5 + (2 : Int32)).toNatClampNeg (μ12.1 31 v6.toNatClampNeg)) (fun μ13 => bv (v5 + 3) (fun v14 => p_X12_lift_b136 (f n) a1 a2 v14 μ13))))))))) else gd (inb a2 200) (bv (sF μ 56 a2.toNatClampNeg v6) (fun μ9 => bv (a2 + 1) (fun v10 => p_X12_lift_b136 (f n) a1 v10 v5 μ9))))) else bv (a2 + (-2)) (fun v15 => gd (inb v15 200) (gd (inb (v15 + (1 : Int32)) 200) (bd (p_X12_liftPair (μ.1 56 v15.toNatClampNeg) (μ.1 56 (v15 + (1 : Int32)).toNatClampNeg) μ) (fun r17 μ16 => gd (inb v15 200) (bv (sF μ16 56 v15.toNatClampNeg r17) (fun μ18 => bv (v15 + 1) (fun v19 => p_X12_lift_b136 (f n) a1 v19 v5 μ18))))))))))) else p_X12_lift_b139  a1 μ))) := ⟨fun n => Nat.rec (fun (a1 : Int32) (a2 : Int32) (a3 : Int32) (μ : Mem) => none) (fun _ ih => fun (a1 : Int32) (a2 : Int32) (a3 : Int32) (μ : Mem) => (if a3 ≤ (0 : Int32) then p_X12_lift_b139  a1 μ else (if (μ.1 0 68) = (0 : Int32) then bv (a3 + (-1)) (fun v5 => gd (inb v5 200) (bv (μ.1 55 v5.toNatClampNeg) (fun v6 => (if (0 : Int32) ≤ v6 then gd (inb v6 100000) ((if (μ.1 30 v6.toNatClampNeg) = (2 : Int32) then gd (inb v5 200) (bv (sF μ 55 v5.toNatClampNeg (-1 : Int32)) (fun μ11 => gd (inb v6 100000) (gd (inb (v5 + (1 : Int32)) 200) (bv (sF μ11 55 (v5 + (1 : Int32)).toNatClampNeg (μ11.1 32 v6.toNatClampNeg)) (fun μ12 => gd (inb v6 100000) (gd (inb (v5 + (2 : Int32)) 200) (bv (sF μ12 55 (v5 + (2 : Int32)).toNatClampNeg (μ12.1 31 v6.toNatClampNeg)) (fun μ13 => bv (v5 + 3) (fun v14 => p_X12_lift_b136 (ih) a1 a2 v14 μ13))))))))) else gd (inb a2 200) (bv (sF μ 56 a2.toNatClampNeg v6) (fun μ9 => bv (a2 + 1) (fun v10 => p_X12_lift_b136 (ih) a1 v10 v5 μ9))))) else bv (a2 + (-2)) (fun v15 => gd (inb v15 200) (gd (inb (v15 + (1 : Int32)) 200) (bd (p_X12_liftPair (μ.1 56 v15.toNatClampNeg) (μ.1 56 (v15 + (1 : Int32)).toNatClampNeg) μ) (fun r17 μ16 => gd (inb v15 200) (bv (sF μ16 56 v15.toNatClampNeg r17) (fun μ18 => bv (v15 + 1) (fun v19 => p_X12_lift_b136 (ih) a1 v19 v5 μ18))))))))))) else p_X12_lift_b139  a1 μ))) n, fun  _ _ _ _ => rfl, fun  _ _ _ _ _ => rfl⟩
noncomputable def p_X12_lift_b11 : Nat → Int32 → Int32 → Int32 → Mem → Option (Int32 × Mem) := Classical.choose p_X12_lift_b11_ex
theorem p_X12_lift_b11_z (a1 : Int32) (a2 : Int32) (a3 : Int32) (μ : Mem) : p_X12_lift_b11  0 a1 a2 a3 μ = none := (Classical.choose_spec p_X12_lift_b11_ex).1  a1 a2 a3 μ
theorem p_X12_lift_b11_s (n : Nat) (a1 : Int32) (a2 : Int32) (a3 : Int32) (μ : Mem) : p_X12_lift_b11  (n + 1) a1 a2 a3 μ = (if a3 ≤ (0 : Int32) then p_X12_lift_b139  a1 μ else (if (μ.1 0 68) = (0 : Int32) then bv (a3 + (-1)) (fun v5 => gd (inb v5 200) (bv (μ.1 55 v5.toNatClampNeg) (fun v6 => (if (0 : Int32) ≤ v6 then gd (inb v6 100000) ((if (μ.1 30 v6.toNatClampNeg) = (2 : Int32) then gd (inb v5 200) (bv (sF μ 55 v5.toNatClampNeg (-1 : Int32)) (fun μ11 => gd (inb v6 100000) (gd (inb (v5 + (1 : Int32)) 200) (bv (sF μ11 55 (v5 + (1 : Int32)).toNatClampNeg (μ11.1 32 v6.toNatClampNeg)) (fun μ12 => gd (inb v6 100000) (gd (inb (v5 + (2 : Int32)) 200) (bv (sF μ12 55 (v5 + (2 : Int32)).toNatClampNeg (μ12.1 31 v6.toNatClampNeg)) (fun μ13 => bv (v5 + 3) (fun v14 => p_X12_lift_b136 (p_X12_lift_b11  n) a1 a2 v14 μ13))))))))) else gd (inb a2 200) (bv (sF μ 56 a2.toNatClampNeg v6) (fun μ9 => bv (a2 + 1) (fun v10 => p_X12_lift_b136 (p_X12_lift_b11  n) a1 v10 v5 μ9))))) else bv (a2 + (-2)) (fun v15 => gd (inb v15 200) (gd (inb (v15 + (1 : Int32)) 200) (bd (p_X12_liftPair (μ.1 56 v15.toNatClampNeg) (μ.1 56 (v15 + (1 : Int32)).toNatClampNeg) μ) (fun r17 μ16 => gd (inb v15 200) (bv (sF μ16 56 v15.toNatClampNeg r17) (fun μ18 => bv (v15 + 1) (fun v19 => p_X12_lift_b136 (p_X12_lift_b11  n) a1 v19 v5 μ18))))))))))) else p_X12_lift_b139  a1 μ)) := (Classical.choose_spec p_X12_lift_b11_ex).2  n a1 a2 a3 μ
set_option maxHeartbeats 4000000 in
set_option maxRecDepth 100000 in
theorem t_X12_lift_b11 (l : Launch) (G : Gt) (ad : Nat → Nat) (av : List Value) {r : Int32} {μz : Mem} : ∀ (n : Nat) (a1 : Int32) (a2 : Int32) (a3 : Int32) (μ : Mem), p_X12_lift_b11  n a1 a2 a3 μ = some (r, μz) → Bk l cX12_lift 5 RX12 (some .int) ({ frames := 3, cells := 0, slots := 0, locals := 68 } : Room) G av (eI 1 G ad r μz) (wd 1 G ad μ) 11 [(0, .ref (ad 0)), (1, .int a1), (2, .int a2), (3, .int a3)] [] := by
  intro n
  induction n with
  | zero => intro a1 a2 a3 μ h; rw [p_X12_lift_b11_z] at h; cases h
  | succ n ih =>
    intro a1 a2 a3 μ h p e s m below meth c A ls H locs cx hr hlk hA hl hw
    have hx := cx.1
    have hb := cx.2.1
    rw [p_X12_lift_b11_s] at h
    refine lv_iload_n hx hb dX12_lift_11 rfl (lv_at hl 3 rfl) ?_
    refine lv_if_le (tgt := 139) hx hb dX12_lift_12 (by decide) (fun c2 => ?_) (fun c2 => ?_)
    · rw [if_pos c2] at h
      exact t_X12_lift_b139 l G ad av  a1 μ h p e s m below meth c A ls H locs cx hr hlk hA (lv_sub hl [0, 1] rfl) hw
    · rw [if_neg c2] at h
      refine lv_aload_n hx hb dX12_lift_15 rfl (lv_at hl 0 rfl) ?_
      refine g_get cx hw inX12 (ci := 11) rfl 68 (by decide) rfl (v := .int (μ.1 0 68)) shm_0 rfl fl_X12_557 dX12_lift_16 ?_
      refine lv_if_ne (tgt := 139) hx hb dX12_lift_19 (by decide) (fun c4 => ?_) (fun c4 => ?_)
      · rw [if_neg c4] at h
        exact t_X12_lift_b139 l G ad av  a1 μ h p e s m below meth c A ls H locs cx hr hlk hA (lv_sub hl [0, 1] rfl) hw
      · rw [if_pos c4] at h
        obtain ⟨v5, ev5, h⟩ := bv_ex h
        refine lv_iinc (v := v5) (lv' := [(3, .int v5), (0, .ref (ad 0)), (1, .int a1), (2, .int a2)]) hx hb dX12_lift_22 hl (k := 3) rfl (by rw [ev5]; rfl) (by decide) rfl (fun ls hl => ?_)
        refine lv_aload_n hx hb dX12_lift_25 rfl (lv_at hl 1 rfl) ?_
        refine g_get cx hw inX12 (ci := 11) rfl 98 (by decide) rfl (v := .ref (ad 55)) shm_0 rfl fl_X12_181 dX12_lift_26 ?_
        refine lv_iload_n hx hb dX12_lift_29 rfl (lv_at hl 0 rfl) ?_
        refine g_iald cx hw shm_55 h dX12_lift_30 (fun h => ?_)
        obtain ⟨v6, ev6, h⟩ := bv_ex h
        refine lv_topi (fun y9 z9 => ?_)
        obtain rfl : v6 = y9 := ev6.trans z9.symm
        refine lv_istore (lv' := [(4, .int v6), (3, .int v5), (0, .ref (ad 0)), (1, .int a1), (2, .int a2)]) hx hb dX12_lift_31 hl (by decide) rfl (fun ls hl => ?_)
        refine lv_iload hx hb dX12_lift_33 (lv_at hl 0 rfl) ?_
        refine lv_if_ge (tgt := 71) hx hb dX12_lift_35 (by decide) (fun c7 => ?_) (fun c7 => ?_)
        · rw [if_pos c7] at h
          refine lv_aload_n hx hb dX12_lift_71 rfl (lv_at hl 2 rfl) ?_
          refine g_get cx hw inX12 (ci := 11) rfl 51 (by decide) rfl (v := .ref (ad 30)) shm_0 rfl fl_X12_106 dX12_lift_72 ?_
          refine lv_iload hx hb dX12_lift_75 (lv_at hl 0 rfl) ?_
          refine g_iald cx hw shm_30 h dX12_lift_77 (fun h => ?_)
          refine lv_iconst (v := 2) hx hb dX12_lift_78 (by decide) ?_
          refine lv_icmp_ne (tgt := 125) hx hb dX12_lift_79 (by decide) (fun c8 => ?_) (fun c8 => ?_)
          · rw [if_neg c8] at h
            refine lv_aload_n hx hb dX12_lift_125 rfl (lv_at hl 2 rfl) ?_
            refine g_get cx hw inX12 (ci := 11) rfl 99 (by decide) rfl (v := .ref (ad 56)) shm_0 rfl fl_X12_184 dX12_lift_126 ?_
            refine lv_iload_n hx hb dX12_lift_129 rfl (lv_at hl 4 rfl) ?_
            refine lv_iload hx hb dX12_lift_130 (lv_at hl 0 rfl) ?_
            refine g_iast cx hw shm_56 h dX12_lift_132 (fun μ9 H locs h hw => ?_)
            obtain ⟨v10, ev10, h⟩ := bv_ex h
            refine lv_iinc (v := v10) (lv' := [(2, .int v10), (4, .int v6), (3, .int v5), (0, .ref (ad 0)), (1, .int a1)]) hx hb dX12_lift_133 hl (k := 4) rfl (by rw [ev10]; rfl) (by decide) rfl (fun ls hl => ?_)
            exact t_X12_lift_b136 l G ad av _ ih a1 v10 v5 μ9 h p e s m below meth c A ls H locs cx hr hlk hA (lv_sub hl [3, 4, 0, 2] rfl) hw
          · rw [if_pos c8] at h
            refine lv_aload_n hx hb dX12_lift_82 rfl (lv_at hl 2 rfl) ?_
            refine g_get cx hw inX12 (ci := 11) rfl 98 (by decide) rfl (v := .ref (ad 55)) shm_0 rfl fl_X12_181 dX12_lift_83 ?_
            refine lv_iload_n hx hb dX12_lift_86 rfl (lv_at hl 1 rfl) ?_
            refine lv_iconst (v := (-1)) hx hb dX12_lift_87 (by decide) ?_
            refine g_iast cx hw shm_55 h dX12_lift_88 (fun μ11 H locs h hw => ?_)
            refine lv_aload_n hx hb dX12_lift_89 rfl (lv_at hl 2 rfl) ?_
            refine g_get cx hw inX12 (ci := 11) rfl 98 (by decide) rfl (v := .ref (ad 55)) shm_0 rfl fl_X12_181 dX12_lift_90 ?_
            refine lv_iload_n hx hb dX12_lift_93 rfl (lv_at hl 1 rfl) ?_
            refine lv_iconst (v := 1) hx hb dX12_lift_94 (by decide) ?_
            refine lv_iadd hx hb dX12_lift_95 ?_
            refine lv_aload_n hx hb dX12_lift_96 rfl (lv_at hl 2 rfl) ?_
            refine g_get cx hw inX12 (ci := 11) rfl 53 (by decide) rfl (v := .ref (ad 32)) shm_0 rfl fl_X12_112 dX12_lift_97 ?_
            refine lv_iload hx hb dX12_lift_100 (lv_at hl 0 rfl) ?_
            refine g_iald cx hw shm_32 h dX12_lift_102 (fun h => ?_)
            refine g_iast cx hw shm_55 h dX12_lift_103 (fun μ12 H locs h hw => ?_)
            refine lv_aload_n hx hb dX12_lift_104 rfl (lv_at hl 2 rfl) ?_
            refine g_get cx hw inX12 (ci := 11) rfl 98 (by decide) rfl (v := .ref (ad 55)) shm_0 rfl fl_X12_181 dX12_lift_105 ?_
            refine lv_iload_n hx hb dX12_lift_108 rfl (lv_at hl 1 rfl) ?_
            refine lv_iconst (v := 2) hx hb dX12_lift_109 (by decide) ?_
            refine lv_iadd hx hb dX12_lift_110 ?_
            refine lv_aload_n hx hb dX12_lift_111 rfl (lv_at hl 2 rfl) ?_
            refine g_get cx hw inX12 (ci := 11) rfl 52 (by decide) rfl (v := .ref (ad 31)) shm_0 rfl fl_X12_109 dX12_lift_112 ?_
            refine lv_iload hx hb dX12_lift_115 (lv_at hl 0 rfl) ?_
            refine g_iald cx hw shm_31 h dX12_lift_117 (fun h => ?_)
            refine g_iast cx hw shm_55 h dX12_lift_118 (fun μ13 H locs h hw => ?_)
            obtain ⟨v14, ev14, h⟩ := bv_ex h
            refine lv_iinc (v := v14) (lv' := [(3, .int v14), (4, .int v6), (0, .ref (ad 0)), (1, .int a1), (2, .int a2)]) hx hb dX12_lift_119 hl (k := 1) rfl (by rw [ev14]; rfl) (by decide) rfl (fun ls hl => ?_)
            refine lv_goto (tgt := 136) hx hb dX12_lift_122 (by decide) ?_
            exact t_X12_lift_b136 l G ad av _ ih a1 a2 v14 μ13 h p e s m below meth c A ls H locs cx hr hlk hA (lv_sub hl [2, 3, 4, 0] rfl) hw
        · rw [if_neg c7] at h
          obtain ⟨v15, ev15, h⟩ := bv_ex h
          refine lv_iinc (v := v15) (lv' := [(2, .int v15), (4, .int v6), (3, .int v5), (0, .ref (ad 0)), (1, .int a1)]) hx hb dX12_lift_38 hl (k := 4) rfl (by rw [ev15]; rfl) (by decide) rfl (fun ls hl => ?_)
          refine lv_aload_n hx hb dX12_lift_41 rfl (lv_at hl 3 rfl) ?_
          refine g_get cx hw inX12 (ci := 11) rfl 99 (by decide) rfl (v := .ref (ad 56)) shm_0 rfl fl_X12_184 dX12_lift_42 ?_
          refine lv_iload_n hx hb dX12_lift_45 rfl (lv_at hl 0 rfl) ?_
          refine lv_aload_n hx hb dX12_lift_46 rfl (lv_at hl 3 rfl) ?_
          refine lv_aload_n hx hb dX12_lift_47 rfl (lv_at hl 3 rfl) ?_
          refine g_get cx hw inX12 (ci := 11) rfl 99 (by decide) rfl (v := .ref (ad 56)) shm_0 rfl fl_X12_184 dX12_lift_48 ?_
          refine lv_iload_n hx hb dX12_lift_51 rfl (lv_at hl 0 rfl) ?_
          refine g_iald cx hw shm_56 h dX12_lift_52 (fun h => ?_)
          refine lv_aload_n hx hb dX12_lift_53 rfl (lv_at hl 3 rfl) ?_
          refine g_get cx hw inX12 (ci := 11) rfl 99 (by decide) rfl (v := .ref (ad 56)) shm_0 rfl fl_X12_184 dX12_lift_54 ?_
          refine lv_iload_n hx hb dX12_lift_57 rfl (lv_at hl 0 rfl) ?_
          refine lv_iconst (v := 1) hx hb dX12_lift_58 (by decide) ?_
          refine lv_iadd hx hb dX12_lift_59 ?_
          refine g_iald cx hw shm_56 h dX12_lift_60 (fun h => ?_)
          obtain ⟨r17, μ16, gr17, h⟩ := bd_some h
          refine g_callVI (As := [.int (μ.1 56 v15.toNatClampNeg), .int (μ.1 56 (v15 + (1 : Int32)).toNatClampNeg)]) (rest := [.int v15, .ref (ad 56)]) cx hw hA (t_X12_liftPair l G ad (μ.1 56 v15.toNatClampNeg) (μ.1 56 (v15 + (1 : Int32)).toNatClampNeg) μ gr17) shm_0 rfl ml_X12_698 im_X12_liftPair se_X12_liftPair in_X12 co_X12_liftPair rfl hd_X12_liftPair rfl ⟨(Nat.le_of_ble_eq_true rfl), (Nat.le_of_ble_eq_true rfl)⟩ hl.1 rfl (Nat.le_of_ble_eq_true rfl) dX12_lift_61 ⟨rfl, rfl⟩ (fun H locs hw => ?_)
          refine g_iast cx hw shm_56 h dX12_lift_64 (fun μ18 H locs h hw => ?_)
          obtain ⟨v19, ev19, h⟩ := bv_ex h
          refine lv_iinc (v := v19) (lv' := [(2, .int v19), (4, .int v6), (3, .int v5), (0, .ref (ad 0)), (1, .int a1)]) hx hb dX12_lift_65 hl (k := 0) rfl (by rw [ev19]; rfl) (by decide) rfl (fun ls hl => ?_)
          refine lv_goto (tgt := 136) hx hb dX12_lift_68 (by decide) ?_
          exact t_X12_lift_b136 l G ad av _ ih a1 v19 v5 μ18 h p e s m below meth c A ls H locs cx hr hlk hA (lv_sub hl [3, 4, 0, 2] rfl) hw
theorem p_X12_lift_ex : ∃ f : Int32 → Mem → Option (Int32 × Mem), ∀ (a1 : Int32) (μ : Mem), f a1 μ = gd (inb (0 : Int32) 200) (bv (sF μ 55 (0 : Int32).toNatClampNeg a1) (fun μ1 => p_X12_lift_b11  FUEL a1 (0 : Int32) (1 : Int32) μ1)) := ⟨fun (a1 : Int32) (μ : Mem) => gd (inb (0 : Int32) 200) (bv (sF μ 55 (0 : Int32).toNatClampNeg a1) (fun μ1 => p_X12_lift_b11  FUEL a1 (0 : Int32) (1 : Int32) μ1)), fun _ _ => rfl⟩
noncomputable def p_X12_lift : Int32 → Mem → Option (Int32 × Mem) := Classical.choose p_X12_lift_ex
theorem p_X12_lift_eq (a1 : Int32) (μ : Mem) : p_X12_lift a1 μ = gd (inb (0 : Int32) 200) (bv (sF μ 55 (0 : Int32).toNatClampNeg a1) (fun μ1 => p_X12_lift_b11  FUEL a1 (0 : Int32) (1 : Int32) μ1)) := Classical.choose_spec p_X12_lift_ex a1 μ
set_option maxHeartbeats 4000000 in
set_option maxRecDepth 100000 in
theorem t_X12_lift (l : Launch) (G : Gt) (ad : Nat → Nat) (a1 : Int32) (μ : Mem) {r : Int32} {μz : Mem} (h : p_X12_lift a1 μ = some (r, μz)) : Mt l yX12_lift cX12_lift 5 (some .int) ({ frames := 3, cells := 0, slots := 0, locals := 68 } : Room) G [.ref (ad 0), .int a1] (wd 1 G ad μ) (eI 1 G ad r μz) := by
  refine Bk.mt (by decide) rfl (Nat.le_of_ble_eq_true rfl) ?_
  intro p e s m below meth c A ls H locs cx hr hlk hA hl hw
  have hx := cx.1
  have hb := cx.2.1
  have hl : lv_has ls 5 [(0, .ref (ad 0)), (1, .int a1)] := hl
  rw [p_X12_lift_eq] at h
  refine lv_iconst (v := 0) hx hb dX12_lift_0 (by decide) ?_
  refine lv_istore_n (lv' := [(2, .int 0), (0, .ref (ad 0)), (1, .int a1)]) hx hb dX12_lift_1 rfl hl (by decide) rfl (fun ls hl => ?_)
  refine lv_iconst (v := 1) hx hb dX12_lift_2 (by decide) ?_
  refine lv_istore_n (lv' := [(3, .int 1), (2, .int 0), (0, .ref (ad 0)), (1, .int a1)]) hx hb dX12_lift_3 rfl hl (by decide) rfl (fun ls hl => ?_)
  refine lv_aload_n hx hb dX12_lift_4 rfl (lv_at hl 2 rfl) ?_
  refine g_get cx hw inX12 (ci := 11) rfl 98 (by decide) rfl (v := .ref (ad 55)) shm_0 rfl fl_X12_181 dX12_lift_5 ?_
  refine lv_iconst (v := 0) hx hb dX12_lift_8 (by decide) ?_
  refine lv_iload_n hx hb dX12_lift_9 rfl (lv_at hl 3 rfl) ?_
  refine g_iast cx hw shm_55 h dX12_lift_10 (fun μ1 H locs h hw => ?_)
  exact t_X12_lift_b11 l G ad _  FUEL a1 (0 : Int32) (1 : Int32) μ1 h p e s m below meth c A ls H locs cx hr hlk hA (lv_sub hl [2, 3, 1, 0] rfl) hw
