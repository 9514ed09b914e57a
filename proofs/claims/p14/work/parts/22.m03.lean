theorem p_X12_hasMore_b188_ex : ∃ f : (Mem → Option (Int32 × Mem)) → Mem → Option (Int32 × Mem), ∀ (K0 : Mem → Option (Int32 × Mem))  (μ : Mem), f K0  μ = bv (sF μ 0 32 ((μ.1 0 32) - (1 : Int32))) (fun μ13 => K0 μ13) := ⟨fun (K0 : Mem → Option (Int32 × Mem))  (μ : Mem) => bv (sF μ 0 32 ((μ.1 0 32) - (1 : Int32))) (fun μ13 => K0 μ13), fun _ _ => rfl⟩
noncomputable def p_X12_hasMore_b188 : (Mem → Option (Int32 × Mem)) → Mem → Option (Int32 × Mem) := Classical.choose p_X12_hasMore_b188_ex
theorem p_X12_hasMore_b188_eq (K0 : Mem → Option (Int32 × Mem))  (μ : Mem) : p_X12_hasMore_b188 K0  μ = bv (sF μ 0 32 ((μ.1 0 32) - (1 : Int32))) (fun μ13 => K0 μ13) := Classical.choose_spec p_X12_hasMore_b188_ex K0  μ
set_option maxHeartbeats 4000000 in
set_option maxRecDepth 100000 in
theorem t_X12_hasMore_b188 (l : Launch) (G : Gt) (ad : Nat → Nat) (av : List Value) {r : Int32} {μz : Mem} (K0 : Mem → Option (Int32 × Mem)) (hK0 : ∀  (μ1 : Mem), K0  μ1 = some (r, μz) → Bk l cX12_hasMore 5 RX12 (some .boolean) ({ frames := 3, cells := 0, slots := 0, locals := 64 } : Room) G av (eI 1 G ad r μz) (wd 1 G ad μ1) 0 [(0, .ref (ad 0))] [])  (μ : Mem) (h : p_X12_hasMore_b188 K0  μ = some (r, μz)) : Bk l cX12_hasMore 5 RX12 (some .boolean) ({ frames := 3, cells := 0, slots := 0, locals := 64 } : Room) G av (eI 1 G ad r μz) (wd 1 G ad μ) 188 [(0, .ref (ad 0))] [] := by
  intro p e s m below meth c A ls H locs cx hr hlk hA hl hw
  have hx := cx.1
  have hb := cx.2.1
  rw [p_X12_hasMore_b188_eq] at h
  refine lv_aload_n hx hb dX12_hasMore_188 rfl (lv_at hl 0 rfl) ?_
  refine lv_dup hx hb dX12_hasMore_189 rfl ?_
  refine g_get cx hw inX12 (ci := 11) rfl 32 (by decide) rfl (v := .int (μ.1 0 32)) shm_0 rfl fl_X12_390 dX12_hasMore_190 ?_
  refine lv_iconst (v := 1) hx hb dX12_hasMore_193 (by decide) ?_
  refine lv_isub hx hb dX12_hasMore_194 ?_
  refine g_put cx hw inX12 (ci := 11) rfl tyX12_ok nmX12 32 (by decide) rfl rfl rfl rfl shm_0 h fl_X12_390 dX12_hasMore_195 (fun μ13 H locs h hw => ?_)
  refine lv_goto (tgt := 0) hx hb dX12_hasMore_198 (by decide) ?_
  exact hK0 μ13 h p e s m below meth c A ls H locs cx hr hlk hA (lv_sub hl [0] rfl) hw
theorem p_X12_hasMore_b167_ex : ∃ f : (Mem → Option (Int32 × Mem)) → Int32 → Int32 → Mem → Option (Int32 × Mem), ∀ (K0 : Mem → Option (Int32 × Mem)) (a1 : Int32) (a3 : Int32) (μ : Mem), f K0 a1 a3 μ = (if a3 = (11 : Int32) then gd (inb a1 800) (bv (μ.1 17 a1.toNatClampNeg) (fun v14 => gd (inb v14 14) (gd (inb v14 14) (bv (sF μ 21 v14.toNatClampNeg ((μ.1 21 v14.toNatClampNeg) - (1 : Int32))) (fun μ15 => p_X12_hasMore_b188 K0 μ15))))) else p_X12_hasMore_b188 K0 μ) := ⟨fun (K0 : Mem → Option (Int32 × Mem)) (a1 : Int32) (a3 : Int32) (μ : Mem) => (if a3 = (11 : Int32) then gd (inb a1 800) (bv (μ.1 17 a1.toNatClampNeg) (fun v14 => gd (inb v14 14) (gd (inb v14 14) (bv (sF μ 21 v14.toNatClampNeg ((μ.1 21 v14.toNatClampNeg) - (1 : Int32))) (fun μ15 => p_X12_hasMore_b188 K0 μ15))))) else p_X12_hasMore_b188 K0 μ), fun _ _ _ _ => rfl⟩
noncomputable def p_X12_hasMore_b167 : (Mem → Option (Int32 × Mem)) → Int32 → Int32 → Mem → Option (Int32 × Mem) := Classical.choose p_X12_hasMore_b167_ex
theorem p_X12_hasMore_b167_eq (K0 : Mem → Option (Int32 × Mem)) (a1 : Int32) (a3 : Int32) (μ : Mem) : p_X12_hasMore_b167 K0 a1 a3 μ = (if a3 = (11 : Int32) then gd (inb a1 800) (bv (μ.1 17 a1.toNatClampNeg) (fun v14 => gd (inb v14 14) (gd (inb v14 14) (bv (sF μ 21 v14.toNatClampNeg ((μ.1 21 v14.toNatClampNeg) - (1 : Int32))) (fun μ15 => p_X12_hasMore_b188 K0 μ15))))) else p_X12_hasMore_b188 K0 μ) := Classical.choose_spec p_X12_hasMore_b167_ex K0 a1 a3 μ
set_option maxHeartbeats 4000000 in
set_option maxRecDepth 100000 in
theorem t_X12_hasMore_b167 (l : Launch) (G : Gt) (ad : Nat → Nat) (av : List Value) {r : Int32} {μz : Mem} (K0 : Mem → Option (Int32 × Mem)) (hK0 : ∀  (μ1 : Mem), K0  μ1 = some (r, μz) → Bk l cX12_hasMore 5 RX12 (some .boolean) ({ frames := 3, cells := 0, slots := 0, locals := 64 } : Room) G av (eI 1 G ad r μz) (wd 1 G ad μ1) 0 [(0, .ref (ad 0))] []) (a1 : Int32) (a3 : Int32) (μ : Mem) (h : p_X12_hasMore_b167 K0 a1 a3 μ = some (r, μz)) : Bk l cX12_hasMore 5 RX12 (some .boolean) ({ frames := 3, cells := 0, slots := 0, locals := 64 } : Room) G av (eI 1 G ad r μz) (wd 1 G ad μ) 167 [(0, .ref (ad 0)), (1, .int a1), (3, .int a3)] [] := by
  intro p e s m below meth c A ls H locs cx hr hlk hA hl hw
  have hx := cx.1
  have hb := cx.2.1
  rw [p_X12_hasMore_b167_eq] at h
  refine lv_iload_n hx hb dX12_hasMore_167 rfl (lv_at hl 2 rfl) ?_
  refine lv_bipush (v := 11) hx hb dX12_hasMore_168 (by decide) ?_
  refine lv_icmp_ne (tgt := 188) hx hb dX12_hasMore_170 (by decide) (fun c12 => ?_) (fun c12 => ?_)
  · rw [if_neg c12] at h
    exact t_X12_hasMore_b188 l G ad av K0 hK0 μ h p e s m below meth c A ls H locs cx hr hlk hA (lv_sub hl [0] rfl) hw
  · rw [if_pos c12] at h
    refine lv_aload_n hx hb dX12_hasMore_173 rfl (lv_at hl 0 rfl) ?_
    refine g_get cx hw inX12 (ci := 11) rfl 31 (by decide) rfl (v := .ref (ad 21)) shm_0 rfl fl_X12_75 dX12_hasMore_174 ?_
    refine lv_aload_n hx hb dX12_hasMore_177 rfl (lv_at hl 0 rfl) ?_
    refine g_get cx hw inX12 (ci := 11) rfl 25 (by decide) rfl (v := .ref (ad 17)) shm_0 rfl fl_X12_63 dX12_hasMore_178 ?_
    refine lv_iload_n hx hb dX12_hasMore_181 rfl (lv_at hl 1 rfl) ?_
    refine g_iald cx hw shm_17 h dX12_hasMore_182 (fun h => ?_)
    obtain ⟨v14, ev14, h⟩ := bv_ex h
    refine lv_topi (fun y9 z9 => ?_)
    obtain rfl : v14 = y9 := ev14.trans z9.symm
    refine lv_dup2_11 hx hb dX12_hasMore_183 rfl rfl ?_
    refine g_iald cx hw shm_21 h dX12_hasMore_184 (fun h => ?_)
    refine lv_iconst (v := 1) hx hb dX12_hasMore_185 (by decide) ?_
    refine lv_isub hx hb dX12_hasMore_186 ?_
    refine g_iast cx hw shm_21 h dX12_hasMore_187 (fun μ15 H locs h hw => ?_)
    exact t_X12_hasMore_b188 l G ad av K0 hK0 μ15 h p e s m below meth c A ls H locs cx hr hlk hA (lv_sub hl [0] rfl) hw
theorem p_X12_hasMore_b148_ex : ∃ f : (Mem → Option (Int32 × Mem)) → Int32 → Int32 → Int32 → Mem → Option (Int32 × Mem), ∀ (K0 : Mem → Option (Int32 × Mem)) (a1 : Int32) (a3 : Int32) (k0 : Int32) (μ : Mem), f K0 a1 a3 k0 μ = (if k0 = (-1 : Int32) then p_X12_hasMore_b167 K0 a1 a3 μ else bd (p_X12_takes k0 μ) (fun r17 μ16 => (if r17 = (0 : Int32) then some ((0 : Int32), μ16) else p_X12_hasMore_b167 K0 a1 a3 μ16))) := ⟨fun (K0 : Mem → Option (Int32 × Mem)) (a1 : Int32) (a3 : Int32) (k0 : Int32) (μ : Mem) => (if k0 = (-1 : Int32) then p_X12_hasMore_b167 K0 a1 a3 μ else bd (p_X12_takes k0 μ) (fun r17 μ16 => (if r17 = (0 : Int32) then some ((0 : Int32), μ16) else p_X12_hasMore_b167 K0 a1 a3 μ16))), fun _ _ _ _ _ => rfl⟩
noncomputable def p_X12_hasMore_b148 : (Mem → Option (Int32 × Mem)) → Int32 → Int32 → Int32 → Mem → Option (Int32 × Mem) := Classical.choose p_X12_hasMore_b148_ex
theorem p_X12_hasMore_b148_eq (K0 : Mem → Option (Int32 × Mem)) (a1 : Int32) (a3 : Int32) (k0 : Int32) (μ : Mem) : p_X12_hasMore_b148 K0 a1 a3 k0 μ = (if k0 = (-1 : Int32) then p_X12_hasMore_b167 K0 a1 a3 μ else bd (p_X12_takes k0 μ) (fun r17 μ16 => (if r17 = (0 : Int32) then some ((0 : Int32), μ16) else p_X12_hasMore_b167 K0 a1 a3 μ16))) := Classical.choose_spec p_X12_hasMore_b148_ex K0 a1 a3 k0 μ
set_option maxHeartbeats 4000000 in
set_option maxRecDepth 100000 in
theorem t_X12_hasMore_b148 (l : Launch) (G : Gt) (ad : Nat → Nat) (av : List Value) {r : Int32} {μz : Mem} (K0 : Mem → Option (Int32 × Mem)) (hK0 : ∀  (μ1 : Mem), K0  μ1 = some (r, μz) → Bk l cX12_hasMore 5 RX12 (some .boolean) ({ frames := 3, cells := 0, slots := 0, locals := 64 } : Room) G av (eI 1 G ad r μz) (wd 1 G ad μ1) 0 [(0, .ref (ad 0))] []) (a1 : Int32) (a3 : Int32) (k0 : Int32) (μ : Mem) (h : p_X12_hasMore_b148 K0 a1 a3 k0 μ = some (r, μz)) : Bk l cX12_hasMore 5 RX12 (some .boolean) ({ frames := 3, cells := 0, slots := 0, locals := 64 } : Room) G av (eI 1 G ad r μz) (wd 1 G ad μ) 148 [(0, .ref (ad 0)), (1, .int a1), (3, .int a3)] [.int k0] := by
  intro p e s m below meth c A ls H locs cx hr hlk hA hl hw
  have hx := cx.1
  have hb := cx.2.1
  rw [p_X12_hasMore_b148_eq] at h
  refine lv_istore (lv' := [(4, .int k0), (0, .ref (ad 0)), (1, .int a1), (3, .int a3)]) hx hb dX12_hasMore_148 hl (by decide) rfl (fun ls hl => ?_)
  refine lv_iload hx hb dX12_hasMore_150 (lv_at hl 0 rfl) ?_
  refine lv_iconst (v := (-1)) hx hb dX12_hasMore_152 (by decide) ?_
  refine lv_icmp_eq (tgt := 167) hx hb dX12_hasMore_153 (by decide) (fun c11 => ?_) (fun c11 => ?_)
  · rw [if_pos c11] at h
    exact t_X12_hasMore_b167 l G ad av K0 hK0 a1 a3 μ h p e s m below meth c A ls H locs cx hr hlk hA (lv_sub hl [1, 2, 3] rfl) hw
  · rw [if_neg c11] at h
    refine lv_aload_n hx hb dX12_hasMore_156 rfl (lv_at hl 1 rfl) ?_
    refine lv_iload hx hb dX12_hasMore_157 (lv_at hl 0 rfl) ?_
    obtain ⟨r17, μ16, gr17, h⟩ := bd_some h
    refine g_callVI (As := [.int k0]) (rest := []) cx hw hA (t_X12_takes l G ad k0 μ gr17) shm_0 rfl ml_X12_422 im_X12_takes se_X12_takes in_X12 co_X12_takes rfl hd_X12_takes rfl ⟨(Nat.le_of_ble_eq_true rfl), (Nat.le_of_ble_eq_true rfl)⟩ hl.1 rfl (Nat.le_of_ble_eq_true rfl) dX12_hasMore_159 ⟨rfl, rfl⟩ (fun H locs hw => ?_)
    refine lv_if_ne (tgt := 167) hx hb dX12_hasMore_162 (by decide) (fun c18 => ?_) (fun c18 => ?_)
    · rw [if_neg c18] at h
      exact t_X12_hasMore_b167 l G ad av K0 hK0 a1 a3 μ16 h p e s m below meth c A ls H locs cx hr hlk hA (lv_sub hl [1, 2, 3] rfl) hw
    · rw [if_pos c18] at h
      refine lv_iconst (v := 0) hx hb dX12_hasMore_165 (by decide) ?_
      exact g_zret cx hr hlk rfl hw h dX12_hasMore_166
theorem p_X12_hasMore_b132_ex : ∃ f : (Mem → Option (Int32 × Mem)) → Int32 → Int32 → Mem → Option (Int32 × Mem), ∀ (K0 : Mem → Option (Int32 × Mem)) (a1 : Int32) (a3 : Int32) (μ : Mem), f K0 a1 a3 μ = p_X12_hasMore_b148 K0 a1 a3 (41 : Int32) μ := ⟨fun (K0 : Mem → Option (Int32 × Mem)) (a1 : Int32) (a3 : Int32) (μ : Mem) => p_X12_hasMore_b148 K0 a1 a3 (41 : Int32) μ, fun _ _ _ _ => rfl⟩
noncomputable def p_X12_hasMore_b132 : (Mem → Option (Int32 × Mem)) → Int32 → Int32 → Mem → Option (Int32 × Mem) := Classical.choose p_X12_hasMore_b132_ex
theorem p_X12_hasMore_b132_eq (K0 : Mem → Option (Int32 × Mem)) (a1 : Int32) (a3 : Int32) (μ : Mem) : p_X12_hasMore_b132 K0 a1 a3 μ = p_X12_hasMore_b148 K0 a1 a3 (41 : Int32) μ := Classical.choose_spec p_X12_hasMore_b132_ex K0 a1 a3 μ
set_option maxHeartbeats 4000000 in
set_option maxRecDepth 100000 in
theorem t_X12_hasMore_b132 (l : Launch) (G : Gt) (ad : Nat → Nat) (av : List Value) {r : Int32} {μz : Mem} (K0 : Mem → Option (Int32 × Mem)) (hK0 : ∀  (μ1 : Mem), K0  μ1 = some (r, μz) → Bk l cX12_hasMore 5 RX12 (some .boolean) ({ frames := 3, cells := 0, slots := 0, locals := 64 } : Room) G av (eI 1 G ad r μz) (wd 1 G ad μ1) 0 [(0, .ref (ad 0))] []) (a1 : Int32) (a3 : Int32) (μ : Mem) (h : p_X12_hasMore_b132 K0 a1 a3 μ = some (r, μz)) : Bk l cX12_hasMore 5 RX12 (some .boolean) ({ frames := 3, cells := 0, slots := 0, locals := 64 } : Room) G av (eI 1 G ad r μz) (wd 1 G ad μ) 132 [(0, .ref (ad 0)), (1, .int a1), (3, .int a3)] [] := by
  intro p e s m below meth c A ls H locs cx hr hlk hA hl hw
  have hx := cx.1
  have hb := cx.2.1
  rw [p_X12_hasMore_b132_eq] at h
  refine lv_bipush (v := 41) hx hb dX12_hasMore_132 (by decide) ?_
  refine lv_goto (tgt := 148) hx hb dX12_hasMore_134 (by decide) ?_
  exact t_X12_hasMore_b148 l G ad av K0 hK0 a1 a3 (41 : Int32) μ h p e s m below meth c A ls H locs cx hr hlk hA (lv_sub hl [0, 1, 2] rfl) hw
theorem p_X12_hasMore_b98_ex : ∃ f : (Mem → Option (Int32 × Mem)) → Int32 → Int32 → Int32 → Mem → Option (Int32 × Mem), ∀ (K0 : Mem → Option (Int32 × Mem)) (a1 : Int32) (a2 : Int32) (a3 : Int32) (μ : Mem), f K0 a1 a2 a3 μ = gd (inb a1 800) ((if (μ.1 18 a1.toNatClampNeg) ≤ a2 then (if a3 = (5 : Int32) then p_X12_hasMore_b132 K0 a1 a3 μ else (if a3 = (7 : Int32) then p_X12_hasMore_b132 K0 a1 a3 μ else (if a3 = (12 : Int32) then p_X12_hasMore_b132 K0 a1 a3 μ else (if a3 = (2 : Int32) then p_X12_hasMore_b148 K0 a1 a3 (93 : Int32) μ else p_X12_hasMore_b148 K0 a1 a3 (-1 : Int32) μ)))) else bd (p_X12_goesOn a1 a3 μ) (fun r23 μ22 => gd (isB r23) (some (r23, μ22))))) := ⟨fun (K0 : Mem → Option (Int32 × Mem)) (a1 : Int32) (a2 : Int32) (a3 : Int32) (μ : Mem) => gd (inb a1 800) ((if (μ.1 18 a1.toNatClampNeg) ≤ a2 then (if a3 = (5 : Int32) then p_X12_hasMore_b132 K0 a1 a3 μ else (if a3 = (7 : Int32) then p_X12_hasMore_b132 K0 a1 a3 μ else (if a3 = (12 : Int32) then p_X12_hasMore_b132 K0 a1 a3 μ else (if a3 = (2 : Int32) then p_X12_hasMore_b148 K0 a1 a3 (93 : Int32) μ else p_X12_hasMore_b148 K0 a1 a3 (-1 : Int32) μ)))) else bd (p_X12_goesOn a1 a3 μ) (fun r23 μ22 => gd (isB r23) (some (r23, μ22))))), fun _ _ _ _ _ => rfl⟩
noncomputable def p_X12_hasMore_b98 : (Mem → Option (Int32 × Mem)) → Int32 → Int32 → Int32 → Mem → Option (Int32 × Mem) := Classical.choose p_X12_hasMore_b98_ex
theorem p_X12_hasMore_b98_eq (K0 : Mem → Option (Int32 × Mem)) (a1 : Int32) (a2 : Int32) (a3 : Int32) (μ : Mem) : p_X12_hasMore_b98 K0 a1 a2 a3 μ = gd (inb a1 800) ((if (μ.1 18 a1.toNatClampNeg) ≤ a2 then (if a3 = (5 : Int32) then p_X12_hasMore_b132 K0 a1 a3 μ else (if a3 = (7 : Int32) then p_X12_hasMore_b132 K0 a1 a3 μ else (if a3 = (12 : Int32) then p_X12_hasMore_b132 K0 a1 a3 μ else (if a3 = (2 : Int32) then p_X12_hasMore_b148 K0 a1 a3 (93 : Int32) μ else p_X12_hasMore_b148 K0 a1 a3 (-1 : Int32) μ)))) else bd (p_X12_goesOn a1 a3 μ) (fun r23 μ22 => gd (isB r23) (some (r23, μ22))))) := Classical.choose_spec p_X12_hasMore_b98_ex K0 a1 a2 a3 μ
set_option maxHeartbeats 4000000 in
set_option maxRecDepth 100000 in
theorem t_X12_hasMore_b98 (l : Launch) (G : Gt) (ad : Nat → Nat) (av : List Value) {r : Int32} {μz : Mem} (K0 : Mem → Option (Int32 × Mem)) (hK0 : ∀  (μ1 : Mem), K0  μ1 = some (r, μz) → Bk l cX12_hasMore 5 RX12 (some .boolean) ({ frames := 3, cells := 0, slots := 0, locals := 64 } : Room) G av (eI 1 G ad r μz) (wd 1 G ad μ1) 0 [(0, .ref (ad 0))] []) (a1 : Int32) (a2 : Int32) (a3 : Int32) (μ : Mem) (h : p_X12_hasMore_b98 K0 a1 a2 a3 μ = some (r, μz)) : Bk l cX12_hasMore 5 RX12 (some .boolean) ({ frames := 3, cells := 0, slots := 0, locals := 64 } : Room) G av (eI 1 G ad r μz) (wd 1 G ad μ) 98 [(0, .ref (ad 0)), (1, .int a1), (2, .int a2), (3, .int a3)] [] := by
  intro p e s m below meth c A ls H locs cx hr hlk hA hl hw
  have hx := cx.1
  have hb := cx.2.1
  rw [p_X12_hasMore_b98_eq] at h
  refine lv_iload_n hx hb dX12_hasMore_98 rfl (lv_at hl 2 rfl) ?_
  refine lv_aload_n hx hb dX12_hasMore_99 rfl (lv_at hl 0 rfl) ?_
  refine g_get cx hw inX12 (ci := 11) rfl 26 (by decide) rfl (v := .ref (ad 18)) shm_0 rfl fl_X12_66 dX12_hasMore_100 ?_
  refine lv_iload_n hx hb dX12_hasMore_103 rfl (lv_at hl 1 rfl) ?_
  refine g_iald cx hw shm_18 h dX12_hasMore_104 (fun h => ?_)
  refine lv_icmp_ge (tgt := 115) hx hb dX12_hasMore_105 (by decide) (fun c9 => ?_) (fun c9 => ?_)
  · rw [if_pos c9] at h
    refine lv_iload_n hx hb dX12_hasMore_115 rfl (lv_at hl 3 rfl) ?_
    refine lv_iconst (v := 5) hx hb dX12_hasMore_116 (by decide) ?_
    refine lv_icmp_eq (tgt := 132) hx hb dX12_hasMore_117 (by decide) (fun c10 => ?_) (fun c10 => ?_)
    · rw [if_pos c10] at h
      exact t_X12_hasMore_b132 l G ad av K0 hK0 a1 a3 μ h p e s m below meth c A ls H locs cx hr hlk hA (lv_sub hl [0, 1, 3] rfl) hw
    · rw [if_neg c10] at h
      refine lv_iload_n hx hb dX12_hasMore_120 rfl (lv_at hl 3 rfl) ?_
      refine lv_bipush (v := 7) hx hb dX12_hasMore_121 (by decide) ?_
      refine lv_icmp_eq (tgt := 132) hx hb dX12_hasMore_123 (by decide) (fun c19 => ?_) (fun c19 => ?_)
      · rw [if_pos c19] at h
        exact t_X12_hasMore_b132 l G ad av K0 hK0 a1 a3 μ h p e s m below meth c A ls H locs cx hr hlk hA (lv_sub hl [0, 1, 3] rfl) hw
      · rw [if_neg c19] at h
        refine lv_iload_n hx hb dX12_hasMore_126 rfl (lv_at hl 3 rfl) ?_
        refine lv_bipush (v := 12) hx hb dX12_hasMore_127 (by decide) ?_
        refine lv_icmp_ne (tgt := 137) hx hb dX12_hasMore_129 (by decide) (fun c20 => ?_) (fun c20 => ?_)
        · rw [if_neg c20] at h
          refine lv_iload_n hx hb dX12_hasMore_137 rfl (lv_at hl 3 rfl) ?_
          refine lv_iconst (v := 2) hx hb dX12_hasMore_138 (by decide) ?_
          refine lv_icmp_ne (tgt := 147) hx hb dX12_hasMore_139 (by decide) (fun c21 => ?_) (fun c21 => ?_)
          · rw [if_neg c21] at h
            refine lv_iconst (v := (-1)) hx hb dX12_hasMore_147 (by decide) ?_
            exact t_X12_hasMore_b148 l G ad av K0 hK0 a1 a3 (-1 : Int32) μ h p e s m below meth c A ls H locs cx hr hlk hA (lv_sub hl [0, 1, 3] rfl) hw
          · rw [if_pos c21] at h
            refine lv_bipush (v := 93) hx hb dX12_hasMore_142 (by decide) ?_
            refine lv_goto (tgt := 148) hx hb dX12_hasMore_144 (by decide) ?_
            exact t_X12_hasMore_b148 l G ad av K0 hK0 a1 a3 (93 : Int32) μ h p e s m below meth c A ls H locs cx hr hlk hA (lv_sub hl [0, 1, 3] rfl) hw
        · rw [if_pos c20] at h
          exact t_X12_hasMore_b132 l G ad av K0 hK0 a1 a3 μ h p e s m below meth c A ls H locs cx hr hlk hA (lv_sub hl [0, 1, 3] rfl) hw
  · rw [if_neg c9] at h
    refine lv_aload_n hx hb dX12_hasMore_108 rfl (lv_at hl 0 rfl) ?_
    refine lv_iload_n hx hb dX12_hasMore_109 rfl (lv_at hl 1 rfl) ?_
    refine lv_iload_n hx hb dX12_hasMore_110 rfl (lv_at hl 3 rfl) ?_
    obtain ⟨r23, μ22, gr23, h⟩ := bd_some h
    refine g_callVI (As := [.int a1, .int a3]) (rest := []) cx hw hA (t_X12_goesOn l G ad a1 a3 μ gr23) shm_0 rfl ml_X12_434 im_X12_goesOn se_X12_goesOn in_X12 co_X12_goesOn rfl hd_X12_goesOn rfl ⟨(Nat.le_of_ble_eq_true rfl), (Nat.le_of_ble_eq_true rfl)⟩ hl.1 rfl (Nat.le_of_ble_eq_true rfl) dX12_hasMore_111 ⟨rfl, rfl⟩ (fun H locs hw => ?_)
    obtain ⟨c24, h⟩ := gd_some h
    exact g_zret cx hr hlk (isB_n c24) hw h dX12_hasMore_114
theorem p_X12_hasMore_b85_ex : ∃ f : (Mem → Option (Int32 × Mem)) → Int32 → Int32 → Int32 → Mem → Option (Int32 × Mem), ∀ (K0 : Mem → Option (Int32 × Mem)) (a1 : Int32) (a2 : Int32) (a3 : Int32) (μ : Mem), f K0 a1 a2 a3 μ = (if a3 = (12 : Int32) then gd (inb a1 800) (bv (sF μ 18 a1.toNatClampNeg a2) (fun μ25 => p_X12_hasMore_b98 K0 a1 a2 a3 μ25)) else p_X12_hasMore_b98 K0 a1 a2 a3 μ) := ⟨fun (K0 : Mem → Option (Int32 × Mem)) (a1 : Int32) (a2 : Int32) (a3 : Int32) (μ : Mem) => (if a3 = (12 : Int32) then gd (inb a1 800) (bv (sF μ 18 a1.toNatClampNeg a2) (fun μ25 => p_X12_hasMore_b98 K0 a1 a2 a3 μ25)) else p_X12_hasMore_b98 K0 a1 a2 a3 μ), fun _ _ _ _ _ => rfl⟩
noncomputable def p_X12_hasMore_b85 : (Mem → Option (Int32 × Mem)) → Int32 → Int32 → Int32 → Mem → Option (Int32 × Mem) := Classical.choose p_X12_hasMore_b85_ex
theorem p_X12_hasMore_b85_eq (K0 : Mem → Option (Int32 × Mem)) (a1 : Int32) (a2 : Int32) (a3 : Int32) (μ : Mem) : p_X12_hasMore_b85 K0 a1 a2 a3 μ = (if a3 = (12 : Int32) then gd (inb a1 800) (bv (sF μ 18 a1.toNatClampNeg a2) (fun μ25 => p_X12_hasMore_b98 K0 a1 a2 a3 μ25)) else p_X12_hasMore_b98 K0 a1 a2 a3 μ) := Classical.choose_spec p_X12_hasMore_b85_ex K0 a1 a2 a3 μ
set_option maxHeartbeats 4000000 in
set_option maxRecDepth 100000 in
theorem t_X12_hasMore_b85 (l : Launch) (G : Gt) (ad : Nat → Nat) (av : List Value) {r : Int32} {μz : Mem} (K0 : Mem → Option (Int32 × Mem)) (hK0 : ∀  (μ1 : Mem), K0  μ1 = some (r, μz) → Bk l cX12_hasMore 5 RX12 (some .boolean) ({ frames := 3, cells := 0, slots := 0, locals := 64 } : Room) G av (eI 1 G ad r μz) (wd 1 G ad μ1) 0 [(0, .ref (ad 0))] []) (a1 : Int32) (a2 : Int32) (a3 : Int32) (μ : Mem) (h : p_X12_hasMore_b85 K0 a1 a2 a3 μ = some (r, μz)) : Bk l cX12_hasMore 5 RX12 (some .boolean) ({ frames := 3, cells := 0, slots := 0, locals := 64 } : Room) G av (eI 1 G ad r μz) (wd 1 G ad μ) 85 [(0, .ref (ad 0)), (1, .int a1), (2, .int a2), (3, .int a3)] [] := by
  intro p e s m below meth c A ls H locs cx hr hlk hA hl hw
  have hx := cx.1
  have hb := cx.2.1
  rw [p_X12_hasMore_b85_eq] at h
  refine lv_iload_n hx hb dX12_hasMore_85 rfl (lv_at hl 3 rfl) ?_
  refine lv_bipush (v := 12) hx hb dX12_hasMore_86 (by decide) ?_
  refine lv_icmp_ne (tgt := 98) hx hb dX12_hasMore_88 (by decide) (fun c8 => ?_) (fun c8 => ?_)
  · rw [if_neg c8] at h
    exact t_X12_hasMore_b98 l G ad av K0 hK0 a1 a2 a3 μ h p e s m below meth c A ls H locs cx hr hlk hA (lv_sub hl [0, 1, 2, 3] rfl) hw
  · rw [if_pos c8] at h
    refine lv_aload_n hx hb dX12_hasMore_91 rfl (lv_at hl 0 rfl) ?_
    refine g_get cx hw inX12 (ci := 11) rfl 26 (by decide) rfl (v := .ref (ad 18)) shm_0 rfl fl_X12_66 dX12_hasMore_92 ?_
    refine lv_iload_n hx hb dX12_hasMore_95 rfl (lv_at hl 1 rfl) ?_
    refine lv_iload_n hx hb dX12_hasMore_96 rfl (lv_at hl 2 rfl) ?_
    refine g_iast cx hw shm_18 h dX12_hasMore_97 (fun μ25 H locs h hw => ?_)
    exact t_X12_hasMore_b98 l G ad av K0 hK0 a1 a2 a3 μ25 h p e s m below meth c A ls H locs cx hr hlk hA (lv_sub hl [0, 1, 2, 3] rfl) hw
theorem p_X12_hasMore_b0_ex : ∃ f : Nat → Mem → Option (Int32 × Mem), (∀  (μ : Mem), f  0  μ = none) ∧ (∀ (n : Nat)  (μ : Mem), f  (n + 1)  μ = (if (μ.1 0 32) ≤ (0 : Int32) then some ((0 : Int32), μ) else gd (inb ((μ.1 0 32) - (1 : Int32)) 20) (bv (μ.1 19 ((μ.1 0 32) - (1 : Int32)).toNatClampNeg) (fun v2 => bv ((μ.1 0 32) - (1 : Int32)) (fun v3 => gd (inb v3 20) (gd (inb v3 20) (bv (sF μ 20 v3.toNatClampNeg ((μ.1 20 v3.toNatClampNeg) + (1 : Int32))) (fun μ4 => gd (inb ((μ4.1 0 32) - (1 : Int32)) 20) (bv (μ4.1 20 ((μ4.1 0 32) - (1 : Int32)).toNatClampNeg) (fun v5 => gd (inb v2 800) (bv (μ4.1 16 v2.toNatClampNeg) (fun v6 => (if v6 = (12 : Int32) then bd (p_X12_here μ4) (fun r27 μ26 => (if r27 = (44 : Int32) then (if (5 : Int32) ≤ v5 then p_X12_hasMore_b85 (f n) v2 v5 v6 μ26 else bv (sF μ26 0 4 ((μ26.1 0 4) + (1 : Int32))) (fun μ30 => some ((1 : Int32), μ30))) else p_X12_hasMore_b85 (f n) v2 v5 v6 μ26)) else p_X12_hasMore_b85 (f n) v2 v5 v6 μ4))))))))))))) := ⟨fun n => Nat.rec (fun  (μ : Mem) => none) (fun _ ih => fun  (μ : Mem) => (if (μ.1 0 32) ≤ (0 : Int32) then some ((0 : Int32), μ) else gd (inb ((μ.1 0 32) - (1 : Int32)) 20) (bv (μ.1 19 ((μ.1 0 32) - (1 : Int32)).toNatClampNeg) (fun v2 => bv ((μ.1 0 32) - (1 : Int32)) (fun v3 => gd (inb v3 20) (gd (inb v3 20) (bv (sF μ 20 v3.toNatClampNeg ((μ.1 20 v3.toNatClampNeg) + (1 : Int32))) (fun μ4 => gd (inb ((μ4.1 0 32) - (1 : Int32)) 20) (bv (μ4.1 20 ((μ4.1 0 32) - (1 : Int32)).toNatClampNeg) (fun v5 => gd (inb v2 800) (bv (μ4.1 16 v2.toNatClampNeg) (fun v6 => (if v6 = (12 : Int32) then bd (p_X12_here μ4) (fun r27 μ26 => (if r27 = (44 : Int32) then (if (5 : Int32) ≤ v5 then p_X12_hasMore_b85 (ih) v2 v5 v6 μ26 else bv (sF μ26 0 4 ((μ26.1 0 4) + (1 : Int32))) (fun μ30 => some ((1 : Int32), μ30))) else p_X12_hasMore_b85 (ih) v2 v5 v6 μ26)) else p_X12_hasMore_b85 (ih) v2 v5 v6 μ4))))))))))))) n, fun   _ => rfl, fun  _  _ => rfl⟩
noncomputable def p_X12_hasMore_b0 : Nat → Mem → Option (Int32 × Mem) := Classical.choose p_X12_hasMore_b0_ex
theorem p_X12_hasMore_b0_z  (μ : Mem) : p_X12_hasMore_b0  0  μ = none := (Classical.choose_spec p_X12_hasMore_b0_ex).1   μ
theorem p_X12_hasMore_b0_s (n : Nat)  (μ : Mem) : p_X12_hasMore_b0  (n + 1)  μ = (if (μ.1 0 32) ≤ (0 : Int32) then some ((0 : Int32), μ) else gd (inb ((μ.1 0 32) - (1 : Int32)) 20) (bv (μ.1 19 ((μ.1 0 32) - (1 : Int32)).toNatClampNeg) (fun v2 => bv ((μ.1 0 32) - (1 : Int32)) (fun v3 => gd (inb v3 20) (gd (inb v3 20) (bv (sF μ 20 v3.toNatClampNeg ((μ.1 20 v3.toNatClampNeg) + (1 : Int32))) (fun μ4 => gd (inb ((μ4.1 0 32) - (1 : Int32)) 20) (bv (μ4.1 20 ((μ4.1 0 32) - (1 : Int32)).toNatClampNeg) (fun v5 => gd (inb v2 800) (bv (μ4.1 16 v2.toNatClampNeg) (fun v6 => (if v6 = (12 : Int32) then bd (p_X12_here μ4) (fun r27 μ26 => (if r27 = (44 : Int32) then (if (5 : Int32) ≤ v5 then p_X12_hasMore_b85 (p_X12_hasMore_b0  n) v2 v5 v6 μ26 else bv (sF μ26 0 4 ((μ26.1 0 4) + (1 : Int32))) (fun μ30 => some ((1 : Int32), μ30))) else p_X12_hasMore_b85 (p_X12_hasMore_b0  n) v2 v5 v6 μ26)) else p_X12_hasMore_b85 (p_X12_hasMore_b0  n) v2 v5 v6 μ4)))))))))))) := (Classical.choose_spec p_X12_hasMore_b0_ex).2  n  μ
set_option maxHeartbeats 4000000 in
set_option maxRecDepth 100000 in
theorem t_X12_hasMore_b0 (l : Launch) (G : Gt) (ad : Nat → Nat) (av : List Value) {r : Int32} {μz : Mem} : ∀ (n : Nat)  (μ : Mem), p_X12_hasMore_b0  n  μ = some (r, μz) → Bk l cX12_hasMore 5 RX12 (some .boolean) ({ frames := 3, cells := 0, slots := 0, locals := 64 } : Room) G av (eI 1 G ad r μz) (wd 1 G ad μ) 0 [(0, .ref (ad 0))] [] := by
  intro n
  induction n with
  | zero => intro  μ h; rw [p_X12_hasMore_b0_z] at h; cases h
  | succ n ih =>
    intro  μ h p e s m below meth c A ls H locs cx hr hlk hA hl hw
    have hx := cx.1
    have hb := cx.2.1
    rw [p_X12_hasMore_b0_s] at h
    refine lv_aload_n hx hb dX12_hasMore_0 rfl (lv_at hl 0 rfl) ?_
    refine g_get cx hw inX12 (ci := 11) rfl 32 (by decide) rfl (v := .int (μ.1 0 32)) shm_0 rfl fl_X12_390 dX12_hasMore_1 ?_
    refine lv_if_le (tgt := 201) hx hb dX12_hasMore_4 (by decide) (fun c1 => ?_) (fun c1 => ?_)
    · rw [if_pos c1] at h
      refine lv_iconst (v := 0) hx hb dX12_hasMore_201 (by decide) ?_
      exact g_zret cx hr hlk rfl hw h dX12_hasMore_202
    · rw [if_neg c1] at h
      refine lv_aload_n hx hb dX12_hasMore_7 rfl (lv_at hl 0 rfl) ?_
      refine g_get cx hw inX12 (ci := 11) rfl 29 (by decide) rfl (v := .ref (ad 19)) shm_0 rfl fl_X12_69 dX12_hasMore_8 ?_
      refine lv_aload_n hx hb dX12_hasMore_11 rfl (lv_at hl 0 rfl) ?_
      refine g_get cx hw inX12 (ci := 11) rfl 32 (by decide) rfl (v := .int (μ.1 0 32)) shm_0 rfl fl_X12_390 dX12_hasMore_12 ?_
      refine lv_iconst (v := 1) hx hb dX12_hasMore_15 (by decide) ?_
      refine lv_isub hx hb dX12_hasMore_16 ?_
      refine g_iald cx hw shm_19 h dX12_hasMore_17 (fun h => ?_)
      obtain ⟨v2, ev2, h⟩ := bv_ex h
      refine lv_topi (fun y9 z9 => ?_)
      obtain rfl : v2 = y9 := ev2.trans z9.symm
      refine lv_istore_n (lv' := [(1, .int v2), (0, .ref (ad 0))]) hx hb dX12_hasMore_18 rfl hl (by decide) rfl (fun ls hl => ?_)
      refine lv_aload_n hx hb dX12_hasMore_19 rfl (lv_at hl 1 rfl) ?_
      refine g_get cx hw inX12 (ci := 11) rfl 30 (by decide) rfl (v := .ref (ad 20)) shm_0 rfl fl_X12_72 dX12_hasMore_20 ?_
      refine lv_aload_n hx hb dX12_hasMore_23 rfl (lv_at hl 1 rfl) ?_
      refine g_get cx hw inX12 (ci := 11) rfl 32 (by decide) rfl (v := .int (μ.1 0 32)) shm_0 rfl fl_X12_390 dX12_hasMore_24 ?_
      refine lv_iconst (v := 1) hx hb dX12_hasMore_27 (by decide) ?_
      refine lv_isub hx hb dX12_hasMore_28 ?_
      obtain ⟨v3, ev3, h⟩ := bv_ex h
      refine lv_topi (fun y9 z9 => ?_)
      obtain rfl : v3 = y9 := ev3.trans z9.symm
      refine lv_dup2_11 hx hb dX12_hasMore_29 rfl rfl ?_
      refine g_iald cx hw shm_20 h dX12_hasMore_30 (fun h => ?_)
      refine lv_iconst (v := 1) hx hb dX12_hasMore_31 (by decide) ?_
      refine lv_iadd hx hb dX12_hasMore_32 ?_
      refine g_iast cx hw shm_20 h dX12_hasMore_33 (fun μ4 H locs h hw => ?_)
      refine lv_aload_n hx hb dX12_hasMore_34 rfl (lv_at hl 1 rfl) ?_
      refine g_get cx hw inX12 (ci := 11) rfl 30 (by decide) rfl (v := .ref (ad 20)) shm_0 rfl fl_X12_72 dX12_hasMore_35 ?_
      refine lv_aload_n hx hb dX12_hasMore_38 rfl (lv_at hl 1 rfl) ?_
      refine g_get cx hw inX12 (ci := 11) rfl 32 (by decide) rfl (v := .int (μ4.1 0 32)) shm_0 rfl fl_X12_390 dX12_hasMore_39 ?_
      refine lv_iconst (v := 1) hx hb dX12_hasMore_42 (by decide) ?_
      refine lv_isub hx hb dX12_hasMore_43 ?_
      refine g_iald cx hw shm_20 h dX12_hasMore_44 (fun h => ?_)
      obtain ⟨v5, ev5, h⟩ := bv_ex h
      refine lv_topi (fun y9 z9 => ?_)
      obtain rfl : v5 = y9 := ev5.trans z9.symm
      refine lv_istore_n (lv' := [(2, .int v5), (1, .int v2), (0, .ref (ad 0))]) hx hb dX12_hasMore_45 rfl hl (by decide) rfl (fun ls hl => ?_)
      refine lv_aload_n hx hb dX12_hasMore_46 rfl (lv_at hl 2 rfl) ?_
      refine g_get cx hw inX12 (ci := 11) rfl 24 (by decide) rfl (v := .ref (ad 16)) shm_0 rfl fl_X12_60 dX12_hasMore_47 ?_
      refine lv_iload_n hx hb dX12_hasMore_50 rfl (lv_at hl 1 rfl) ?_
      refine g_iald cx hw shm_16 h dX12_hasMore_51 (fun h => ?_)
      obtain ⟨v6, ev6, h⟩ := bv_ex h
      refine lv_topi (fun y9 z9 => ?_)
      obtain rfl : v6 = y9 := ev6.trans z9.symm
      refine lv_istore_n (lv' := [(3, .int v6), (2, .int v5), (1, .int v2), (0, .ref (ad 0))]) hx hb dX12_hasMore_52 rfl hl (by decide) rfl (fun ls hl => ?_)
      refine lv_iload_n hx hb dX12_hasMore_53 rfl (lv_at hl 0 rfl) ?_
      refine lv_bipush (v := 12) hx hb dX12_hasMore_54 (by decide) ?_
      refine lv_icmp_ne (tgt := 85) hx hb dX12_hasMore_56 (by decide) (fun c7 => ?_) (fun c7 => ?_)
      · rw [if_neg c7] at h
        exact t_X12_hasMore_b85 l G ad av _ ih v2 v5 v6 μ4 h p e s m below meth c A ls H locs cx hr hlk hA (lv_sub hl [3, 2, 1, 0] rfl) hw
      · rw [if_pos c7] at h
        refine lv_aload_n hx hb dX12_hasMore_59 rfl (lv_at hl 3 rfl) ?_
        obtain ⟨r27, μ26, gr27, h⟩ := bd_some h
        refine g_callVI (As := []) (rest := []) cx hw hA (t_X12_here l G ad μ4 gr27) shm_0 rfl ml_X12_365 im_X12_here se_X12_here in_X12 co_X12_here rfl hd_X12_here rfl ⟨(Nat.le_of_ble_eq_true rfl), (Nat.le_of_ble_eq_true rfl)⟩ hl.1 rfl (Nat.le_of_ble_eq_true rfl) dX12_hasMore_60 ⟨rfl, rfl⟩ (fun H locs hw => ?_)
        refine lv_bipush (v := 44) hx hb dX12_hasMore_63 (by decide) ?_
        refine lv_icmp_ne (tgt := 85) hx hb dX12_hasMore_65 (by decide) (fun c28 => ?_) (fun c28 => ?_)
        · rw [if_neg c28] at h
          exact t_X12_hasMore_b85 l G ad av _ ih v2 v5 v6 μ26 h p e s m below meth c A ls H locs cx hr hlk hA (lv_sub hl [3, 2, 1, 0] rfl) hw
        · rw [if_pos c28] at h
          refine lv_iload_n hx hb dX12_hasMore_68 rfl (lv_at hl 1 rfl) ?_
          refine lv_iconst (v := 5) hx hb dX12_hasMore_69 (by decide) ?_
          refine lv_icmp_ge (tgt := 85) hx hb dX12_hasMore_70 (by decide) (fun c29 => ?_) (fun c29 => ?_)
          · rw [if_pos c29] at h
            exact t_X12_hasMore_b85 l G ad av _ ih v2 v5 v6 μ26 h p e s m below meth c A ls H locs cx hr hlk hA (lv_sub hl [3, 2, 1, 0] rfl) hw
          · rw [if_neg c29] at h
            refine lv_aload_n hx hb dX12_hasMore_73 rfl (lv_at hl 3 rfl) ?_
            refine lv_dup hx hb dX12_hasMore_74 rfl ?_
            refine g_get cx hw inX12 (ci := 11) rfl 4 (by decide) rfl (v := .int (μ26.1 0 4)) shm_0 rfl fl_X12_362 dX12_hasMore_75 ?_
            refine lv_iconst (v := 1) hx hb dX12_hasMore_78 (by decide) ?_
            refine lv_iadd hx hb dX12_hasMore_79 ?_
            refine g_put cx hw inX12 (ci := 11) rfl tyX12_ok nmX12 4 (by decide) rfl rfl rfl rfl shm_0 h fl_X12_362 dX12_hasMore_80 (fun μ30 H locs h hw => ?_)
            refine lv_iconst (v := 1) hx hb dX12_hasMore_83 (by decide) ?_
            exact g_zret cx hr hlk rfl hw h dX12_hasMore_84
theorem p_X12_hasMore_ex : ∃ f : Mem → Option (Int32 × Mem), ∀  (μ : Mem), f  μ = p_X12_hasMore_b0  FUEL μ := ⟨fun  (μ : Mem) => p_X12_hasMore_b0  FUEL μ, fun _ => rfl⟩
noncomputable def p_X12_hasMore : Mem → Option (Int32 × Mem) := Classical.choose p_X12_hasMore_ex
theorem p_X12_hasMore_eq  (μ : Mem) : p_X12_hasMore  μ = p_X12_hasMore_b0  FUEL μ := Classical.choose_spec p_X12_hasMore_ex  μ
set_option maxHeartbeats 4000000 in
set_option maxRecDepth 100000 in
theorem t_X12_hasMore (l : Launch) (G : Gt) (ad : Nat → Nat)  (μ : Mem) {r : Int32} {μz : Mem} (h : p_X12_hasMore  μ = some (r, μz)) : Mt l yX12_hasMore cX12_hasMore 5 (some .boolean) ({ frames := 3, cells := 0, slots := 0, locals := 64 } : Room) G [.ref (ad 0)] (wd 1 G ad μ) (eI 1 G ad r μz) := by
  refine Bk.mt (by decide) rfl (Nat.le_of_ble_eq_true rfl) ?_
  intro p e s m below meth c A ls H locs cx hr hlk hA hl hw
  have hx := cx.1
  have hb := cx.2.1
  have hl : lv_has ls 5 [(0, .ref (ad 0))] := hl
  rw [p_X12_hasMore_eq] at h
  exact t_X12_hasMore_b0 l G ad _  FUEL μ h p e s m below meth c A ls H locs cx hr hlk hA (lv_sub hl [0] rfl) hw

theorem p_X12_readExpression_b62_ex : ∃ f : (Int32 → Mem → Option (Int32 × Mem)) → Int32 → Mem → Option (Int32 × Mem), ∀ (K7 : Int32 → Mem → Option (Int32 × Mem)) (k0 : Int32) (μ : Mem), f K7 k0 μ = (if (μ.1 0 5) = (-1 : Int32) then K7 k0 μ else some ((0 : Int32), μ)) := ⟨fun (K7 : Int32 → Mem → Option (Int32 × Mem)) (k0 : Int32) (μ : Mem) => (if (μ.1 0 5) = (-1 : Int32) then K7 k0 μ else some ((0 : Int32), μ)), fun _ _ _ => rfl⟩
noncomputable def p_X12_readExpression_b62 : (Int32 → Mem → Option (Int32 × Mem)) → Int32 → Mem → Option (Int32 × Mem) := Classical.choose p_X12_readExpression_b62_ex
theorem p_X12_readExpression_b62_eq (K7 : Int32 → Mem → Option (Int32 × Mem)) (k0 : Int32) (μ : Mem) : p_X12_readExpression_b62 K7 k0 μ = (if (μ.1 0 5) = (-1 : Int32) then K7 k0 μ else some ((0 : Int32), μ)) := Classical.choose_spec p_X12_readExpression_b62_ex K7 k0 μ
set_option maxHeartbeats 4000000 in
set_option maxRecDepth 100000 in
theorem t_X12_readExpression_b62 (l : Launch) (G : Gt) (ad : Nat → Nat) (av : List Value) {r : Int32} {μz : Mem} (K7 : Int32 → Mem → Option (Int32 × Mem)) (hK7 : ∀ (z1 : Int32) (μ1 : Mem), K7 z1 μ1 = some (r, μz) → Bk l cX12_readExpression 5 RX12 (some .boolean) ({ frames := 5, cells := 0, slots := 0, locals := 111 } : Room) G av (eI 1 G ad r μz) (wd 1 G ad μ1) 7 [(0, .ref (ad 0)), (1, .int z1)] []) (k0 : Int32) (μ : Mem) (h : p_X12_readExpression_b62 K7 k0 μ = some (r, μz)) : Bk l cX12_readExpression 5 RX12 (some .boolean) ({ frames := 5, cells := 0, slots := 0, locals := 111 } : Room) G av (eI 1 G ad r μz) (wd 1 G ad μ) 62 [(0, .ref (ad 0))] [.int k0] := by
  intro p e s m below meth c A ls H locs cx hr hlk hA hl hw
  have hx := cx.1
  have hb := cx.2.1
  rw [p_X12_readExpression_b62_eq] at h
  refine lv_istore_n (lv' := [(1, .int k0), (0, .ref (ad 0))]) hx hb dX12_readExpression_62 rfl hl (by decide) rfl (fun ls hl => ?_)
  refine lv_aload_n hx hb dX12_readExpression_63 rfl (lv_at hl 1 rfl) ?_
  refine g_get cx hw inX12 (ci := 11) rfl 5 (by decide) rfl (v := .int (μ.1 0 5)) shm_0 rfl fl_X12_13 dX12_readExpression_64 ?_
  refine lv_iconst (v := (-1)) hx hb dX12_readExpression_67 (by decide) ?_
  refine lv_icmp_eq (tgt := 73) hx hb dX12_readExpression_68 (by decide) (fun c10 => ?_) (fun c10 => ?_)
  · rw [if_pos c10] at h
    refine lv_goto (tgt := 7) hx hb dX12_readExpression_73 (by decide) ?_
    exact hK7 k0 μ h p e s m below meth c A ls H locs cx hr hlk hA (lv_sub hl [1, 0] rfl) hw
  · rw [if_neg c10] at h
    refine lv_iconst (v := 0) hx hb dX12_readExpression_71 (by decide) ?_
    exact g_zret cx hr hlk rfl hw h dX12_readExpression_72
theorem p_X12_readExpression_b57_ex : ∃ f : (Int32 → Mem → Option (Int32 × Mem)) → Mem → Option (Int32 × Mem), ∀ (K7 : Int32 → Mem → Option (Int32 × Mem))  (μ : Mem), f K7  μ = p_X12_readExpression_b62 K7 (1 : Int32) μ := ⟨fun (K7 : Int32 → Mem → Option (Int32 × Mem))  (μ : Mem) => p_X12_readExpression_b62 K7 (1 : Int32) μ, fun _ _ => rfl⟩
noncomputable def p_X12_readExpression_b57 : (Int32 → Mem → Option (Int32 × Mem)) → Mem → Option (Int32 × Mem) := Classical.choose p_X12_readExpression_b57_ex
theorem p_X12_readExpression_b57_eq (K7 : Int32 → Mem → Option (Int32 × Mem))  (μ : Mem) : p_X12_readExpression_b57 K7  μ = p_X12_readExpression_b62 K7 (1 : Int32) μ := Classical.choose_spec p_X12_readExpression_b57_ex K7  μ
set_option maxHeartbeats 4000000 in
set_option maxRecDepth 100000 in
theorem t_X12_readExpression_b57 (l : Launch) (G : Gt) (ad : Nat → Nat) (av : List Value) {r : Int32} {μz : Mem} (K7 : Int32 → Mem → Option (Int32 × Mem)) (hK7 : ∀ (z1 : Int32) (μ1 : Mem), K7 z1 μ1 = some (r, μz) → Bk l cX12_readExpression 5 RX12 (some .boolean) ({ frames := 5, cells := 0, slots := 0, locals := 111 } : Room) G av (eI 1 G ad r μz) (wd 1 G ad μ1) 7 [(0, .ref (ad 0)), (1, .int z1)] [])  (μ : Mem) (h : p_X12_readExpression_b57 K7  μ = some (r, μz)) : Bk l cX12_readExpression 5 RX12 (some .boolean) ({ frames := 5, cells := 0, slots := 0, locals := 111 } : Room) G av (eI 1 G ad r μz) (wd 1 G ad μ) 57 [(0, .ref (ad 0))] [] := by
  intro p e s m below meth c A ls H locs cx hr hlk hA hl hw
  have hx := cx.1
  have hb := cx.2.1
  rw [p_X12_readExpression_b57_eq] at h
  refine lv_iconst (v := 1) hx hb dX12_readExpression_57 (by decide) ?_
  refine lv_goto (tgt := 62) hx hb dX12_readExpression_58 (by decide) ?_
  exact t_X12_readExpression_b62 l G ad av K7 hK7 (1 : Int32) μ h p e s m below meth c A ls H locs cx hr hlk hA (lv_sub hl [0] rfl) hw
theorem p_X12_readExpression_b43_ex : ∃ f : (Int32 → Mem → Option (Int32 × Mem)) → Int32 → Mem → Option (Int32 × Mem), ∀ (K7 : Int32 → Mem → Option (Int32 × Mem)) (k0 : Int32) (μ : Mem), f K7 k0 μ = (if k0 = (0 : Int32) then bd (p_X12_hasMore μ) (fun r12 μ11 => (if r12 = (0 : Int32) then p_X12_readExpression_b62 K7 (0 : Int32) μ11 else p_X12_readExpression_b57 K7 μ11)) else p_X12_readExpression_b57 K7 μ) := ⟨fun (K7 : Int32 → Mem → Option (Int32 × Mem)) (k0 : Int32) (μ : Mem) => (if k0 = (0 : Int32) then bd (p_X12_hasMore μ) (fun r12 μ11 => (if r12 = (0 : Int32) then p_X12_readExpression_b62 K7 (0 : Int32) μ11 else p_X12_readExpression_b57 K7 μ11)) else p_X12_readExpression_b57 K7 μ), fun _ _ _ => rfl⟩
noncomputable def p_X12_readExpression_b43 : (Int32 → Mem → Option (Int32 × Mem)) → Int32 → Mem → Option (Int32 × Mem) := Classical.choose p_X12_readExpression_b43_ex
theorem p_X12_readExpression_b43_eq (K7 : Int32 → Mem → Option (Int32 × Mem)) (k0 : Int32) (μ : Mem) : p_X12_readExpression_b43 K7 k0 μ = (if k0 = (0 : Int32) then bd (p_X12_hasMore μ) (fun r12 μ11 => (if r12 = (0 : Int32) then p_X12_readExpression_b62 K7 (0 : Int32) μ11 else p_X12_readExpression_b57 K7 μ11)) else p_X12_readExpression_b57 K7 μ) := Classical.choose_spec p_X12_readExpression_b43_ex K7 k0 μ
set_option maxHeartbeats 4000000 in
set_option maxRecDepth 100000 in
theorem t_X12_readExpression_b43 (l : Launch) (G : Gt) (ad : Nat → Nat) (av : List Value) {r : Int32} {μz : Mem} (K7 : Int32 → Mem → Option (Int32 × Mem)) (hK7 : ∀ (z1 : Int32) (μ1 : Mem), K7 z1 μ1 = some (r, μz) → Bk l cX12_readExpression 5 RX12 (some .boolean) ({ frames := 5, cells := 0, slots := 0, locals := 111 } : Room) G av (eI 1 G ad r μz) (wd 1 G ad μ1) 7 [(0, .ref (ad 0)), (1, .int z1)] []) (k0 : Int32) (μ : Mem) (h : p_X12_readExpression_b43 K7 k0 μ = some (r, μz)) : Bk l cX12_readExpression 5 RX12 (some .boolean) ({ frames := 5, cells := 0, slots := 0, locals := 111 } : Room) G av (eI 1 G ad r μz) (wd 1 G ad μ) 43 [(0, .ref (ad 0))] [.int k0] := by
  intro p e s m below meth c A ls H locs cx hr hlk hA hl hw
  have hx := cx.1
  have hb := cx.2.1
  rw [p_X12_readExpression_b43_eq] at h
  refine lv_istore (lv' := [(4, .int k0), (0, .ref (ad 0))]) hx hb dX12_readExpression_43 hl (by decide) rfl (fun ls hl => ?_)
  refine lv_iload hx hb dX12_readExpression_45 (lv_at hl 0 rfl) ?_
  refine lv_if_ne (tgt := 57) hx hb dX12_readExpression_47 (by decide) (fun c9 => ?_) (fun c9 => ?_)
  · rw [if_neg c9] at h
    exact t_X12_readExpression_b57 l G ad av K7 hK7 μ h p e s m below meth c A ls H locs cx hr hlk hA (lv_sub hl [1] rfl) hw
  · rw [if_pos c9] at h
    refine lv_aload_n hx hb dX12_readExpression_50 rfl (lv_at hl 1 rfl) ?_
    obtain ⟨r12, μ11, gr12, h⟩ := bd_some h
    refine g_callVI (As := []) (rest := []) cx hw hA (t_X12_hasMore l G ad μ gr12) shm_0 rfl ml_X12_440 im_X12_hasMore se_X12_hasMore in_X12 co_X12_hasMore rfl hd_X12_hasMore rfl ⟨(Nat.le_of_ble_eq_true rfl), (Nat.le_of_ble_eq_true rfl)⟩ hl.1 rfl (Nat.le_of_ble_eq_true rfl) dX12_readExpression_51 ⟨rfl, rfl⟩ (fun H locs hw => ?_)
    refine lv_if_eq (tgt := 61) hx hb dX12_readExpression_54 (by decide) (fun c13 => ?_) (fun c13 => ?_)
    · rw [if_pos c13] at h
      refine lv_iconst (v := 0) hx hb dX12_readExpression_61 (by decide) ?_
      exact t_X12_readExpression_b62 l G ad av K7 hK7 (0 : Int32) μ11 h p e s m below meth c A ls H locs cx hr hlk hA (lv_sub hl [1] rfl) hw
    · rw [if_neg c13] at h
      exact t_X12_readExpression_b57 l G ad av K7 hK7 μ11 h p e s m below meth c A ls H locs cx hr hlk hA (lv_sub hl [1] rfl) hw
theorem p_X12_readExpression_b7_ex : ∃ f : Nat → Int32 → Mem → Option (Int32 × Mem), (∀ (a1 : Int32) (μ : Mem), f  0 a1 μ = none) ∧ (∀ (n : Nat) (a1 : Int32) (μ : Mem), f  (n + 1) a1 μ = (if a1 = (0 : Int32) then some ((1 : Int32), μ) else bv (μ.1 0 32) (fun v3 => bv (μ.1 0 28) (fun v4 => bd (p_X12_readThing μ) (fun r6 μ5 => (if r6 = (0 : Int32) then some ((0 : Int32), μ5) else (if (μ5.1 0 32) ≤ v3 then p_X12_readExpression_b43 (f n) (0 : Int32) μ5 else p_X12_readExpression_b43 (f n) (1 : Int32) μ5))))))) := ⟨fun n => Nat.rec (fun (a1 : Int32) (μ : Mem) => none) (fun _ ih => fun (a1 : Int32) (μ : Mem) => (if a1 = (0 : Int32) then some ((1 : Int32), μ) else bv (μ.1 0 32) (fun v3 => bv (μ.1 0 28) (fun v4 => bd (p_X12_readThing μ) (fun r6 μ5 => (if r6 = (0 : Int32) then some ((0 : Int32), μ5) else (if (μ5.1 0 32) ≤ v3 then p_X12_readExpression_b43 (ih) (0 : Int32) μ5 else p_X12_readExpression_b43 (ih) (1 : Int32) μ5))))))) n, fun  _ _ => rfl, fun  _ _ _ => rfl⟩
noncomputable def p_X12_readExpression_b7 : Nat → Int32 → Mem → Option (Int32 × Mem) := Classical.choose p_X12_readExpression_b7_ex
theorem p_X12_readExpression_b7_z (a1 : Int32) (μ : Mem) : p_X12_readExpression_b7  0 a1 μ = none := (Classical.choose_spec p_X12_readExpression_b7_ex).1  a1 μ
theorem p_X12_readExpression_b7_s (n : Nat) (a1 : Int32) (μ : Mem) : p_X12_readExpression_b7  (n + 1) a1 μ = (if a1 = (0 : Int32) then some ((1 : Int32), μ) else bv (μ.1 0 32) (fun v3 => bv (μ.1 0 28) (fun v4 => bd (p_X12_readThing μ) (fun r6 μ5 => (if r6 = (0 : Int32) then some ((0 : Int32), μ5) else (if (μ5.1 0 32) ≤ v3 then p_X12_readExpression_b43 (p_X12_readExpression_b7  n) (0 : Int32) μ5 else p_X12_readExpression_b43 (p_X12_readExpression_b7  n) (1 : Int32) μ5)))))) := (Classical.choose_spec p_X12_readExpression_b7_ex).2  n a1 μ
set_option maxHeartbeats 4000000 in
set_option maxRecDepth 100000 in
theorem t_X12_readExpression_b7 (l : Launch) (G : Gt) (ad : Nat → Nat) (av : List Value) {r : Int32} {μz : Mem} : ∀ (n : Nat) (a1 : Int32) (μ : Mem), p_X12_readExpression_b7  n a1 μ = some (r, μz) → Bk l cX12_readExpression 5 RX12 (some .boolean) ({ frames := 5, cells := 0, slots := 0, locals := 111 } : Room) G av (eI 1 G ad r μz) (wd 1 G ad μ) 7 [(0, .ref (ad 0)), (1, .int a1)] [] := by
  intro n
  induction n with
  | zero => intro a1 μ h; rw [p_X12_readExpression_b7_z] at h; cases h
  | succ n ih =>
    intro a1 μ h p e s m below meth c A ls H locs cx hr hlk hA hl hw
    have hx := cx.1
    have hb := cx.2.1
    rw [p_X12_readExpression_b7_s] at h
    refine lv_iload_n hx hb dX12_readExpression_7 rfl (lv_at hl 1 rfl) ?_
    refine lv_if_eq (tgt := 76) hx hb dX12_readExpression_8 (by decide) (fun c2 => ?_) (fun c2 => ?_)
    · rw [if_pos c2] at h
      refine lv_iconst (v := 1) hx hb dX12_readExpression_76 (by decide) ?_
      exact g_zret cx hr hlk rfl hw h dX12_readExpression_77
    · rw [if_neg c2] at h
      refine lv_aload_n hx hb dX12_readExpression_11 rfl (lv_at hl 0 rfl) ?_
      refine g_get cx hw inX12 (ci := 11) rfl 32 (by decide) rfl (v := .int (μ.1 0 32)) shm_0 rfl fl_X12_390 dX12_readExpression_12 ?_
      obtain ⟨v3, ev3, h⟩ := bv_ex h
      refine lv_topi (fun y9 z9 => ?_)
      obtain rfl : v3 = y9 := ev3.trans z9.symm
      refine lv_istore_n (lv' := [(2, .int v3), (0, .ref (ad 0)), (1, .int a1)]) hx hb dX12_readExpression_15 rfl hl (by decide) rfl (fun ls hl => ?_)
      refine lv_aload_n hx hb dX12_readExpression_16 rfl (lv_at hl 1 rfl) ?_
      refine g_get cx hw inX12 (ci := 11) rfl 28 (by decide) rfl (v := .int (μ.1 0 28)) shm_0 rfl fl_X12_387 dX12_readExpression_17 ?_
      obtain ⟨v4, ev4, h⟩ := bv_ex h
      refine lv_topi (fun y9 z9 => ?_)
      obtain rfl : v4 = y9 := ev4.trans z9.symm
      refine lv_istore_n (lv' := [(3, .int v4), (2, .int v3), (0, .ref (ad 0)), (1, .int a1)]) hx hb dX12_readExpression_20 rfl hl (by decide) rfl (fun ls hl => ?_)
      refine lv_aload_n hx hb dX12_readExpression_21 rfl (lv_at hl 2 rfl) ?_
      obtain ⟨r6, μ5, gr6, h⟩ := bd_some h
      refine g_callVI (As := []) (rest := []) cx hw hA (t_X12_readThing l G ad μ gr6) shm_0 rfl ml_X12_437 im_X12_readThing se_X12_readThing in_X12 co_X12_readThing rfl hd_X12_readThing rfl ⟨(Nat.le_of_ble_eq_true rfl), (Nat.le_of_ble_eq_true rfl)⟩ hl.1 rfl (Nat.le_of_ble_eq_true rfl) dX12_readExpression_22 ⟨rfl, rfl⟩ (fun H locs hw => ?_)
      refine lv_if_ne (tgt := 30) hx hb dX12_readExpression_25 (by decide) (fun c7 => ?_) (fun c7 => ?_)
      · rw [if_neg c7] at h
        refine lv_aload_n hx hb dX12_readExpression_30 rfl (lv_at hl 2 rfl) ?_
        refine g_get cx hw inX12 (ci := 11) rfl 32 (by decide) rfl (v := .int (μ5.1 0 32)) shm_0 rfl fl_X12_390 dX12_readExpression_31 ?_
        refine lv_iload_n hx hb dX12_readExpression_34 rfl (lv_at hl 1 rfl) ?_
        refine lv_icmp_le (tgt := 42) hx hb dX12_readExpression_35 (by decide) (fun c8 => ?_) (fun c8 => ?_)
        · rw [if_pos c8] at h
          refine lv_iconst (v := 0) hx hb dX12_readExpression_42 (by decide) ?_
          exact t_X12_readExpression_b43 l G ad av _ ih (0 : Int32) μ5 h p e s m below meth c A ls H locs cx hr hlk hA (lv_sub hl [2] rfl) hw
        · rw [if_neg c8] at h
          refine lv_iconst (v := 1) hx hb dX12_readExpression_38 (by decide) ?_
          refine lv_goto (tgt := 43) hx hb dX12_readExpression_39 (by decide) ?_
          exact t_X12_readExpression_b43 l G ad av _ ih (1 : Int32) μ5 h p e s m below meth c A ls H locs cx hr hlk hA (lv_sub hl [2] rfl) hw
      · rw [if_pos c7] at h
        refine lv_iconst (v := 0) hx hb dX12_readExpression_28 (by decide) ?_
        exact g_zret cx hr hlk rfl hw h dX12_readExpression_29
theorem p_X12_readExpression_ex : ∃ f : Mem → Option (Int32 × Mem), ∀  (μ : Mem), f  μ = bv (sF μ 0 32 (0 : Int32)) (fun μ1 => p_X12_readExpression_b7  FUEL (1 : Int32) μ1) := ⟨fun  (μ : Mem) => bv (sF μ 0 32 (0 : Int32)) (fun μ1 => p_X12_readExpression_b7  FUEL (1 : Int32) μ1), fun _ => rfl⟩
noncomputable def p_X12_readExpression : Mem → Option (Int32 × Mem) := Classical.choose p_X12_readExpression_ex
theorem p_X12_readExpression_eq  (μ : Mem) : p_X12_readExpression  μ = bv (sF μ 0 32 (0 : Int32)) (fun μ1 => p_X12_readExpression_b7  FUEL (1 : Int32) μ1) := Classical.choose_spec p_X12_readExpression_ex  μ
set_option maxHeartbeats 4000000 in
set_option maxRecDepth 100000 in
theorem t_X12_readExpression (l : Launch) (G : Gt) (ad : Nat → Nat)  (μ : Mem) {r : Int32} {μz : Mem} (h : p_X12_readExpression  μ = some (r, μz)) : Mt l yX12_readExpression cX12_readExpression 5 (some .boolean) ({ frames := 5, cells := 0, slots := 0, locals := 111 } : Room) G [.ref (ad 0)] (wd 1 G ad μ) (eI 1 G ad r μz) := by
  refine Bk.mt (by decide) rfl (Nat.le_of_ble_eq_true rfl) ?_
  intro p e s m below meth c A ls H locs cx hr hlk hA hl hw
  have hx := cx.1
  have hb := cx.2.1
  have hl : lv_has ls 5 [(0, .ref (ad 0))] := hl
  rw [p_X12_readExpression_eq] at h
  refine lv_aload_n hx hb dX12_readExpression_0 rfl (lv_at hl 0 rfl) ?_
  refine lv_iconst (v := 0) hx hb dX12_readExpression_1 (by decide) ?_
  refine g_put cx hw inX12 (ci := 11) rfl tyX12_ok nmX12 32 (by decide) rfl rfl rfl rfl shm_0 h fl_X12_390 dX12_readExpression_2 (fun μ1 H locs h hw => ?_)
  refine lv_iconst (v := 1) hx hb dX12_readExpression_5 (by decide) ?_
  refine lv_istore_n (lv' := [(1, .int 1), (0, .ref (ad 0))]) hx hb dX12_readExpression_6 rfl hl (by decide) rfl (fun ls hl => ?_)
  exact t_X12_readExpression_b7 l G ad _  FUEL (1 : Int32) μ1 h p e s m below meth c A ls H locs cx hr hlk hA (lv_sub hl [1, 0] rfl) hw

theorem p_X12_readVars_b160_ex : ∃ f : (Int32 → Int32 → Mem → Option (Int32 × Mem)) → Int32 → Int32 → Mem → Option (Int32 × Mem), ∀ (K46 : Int32 → Int32 → Mem → Option (Int32 × Mem)) (a1 : Int32) (a2 : Int32) (μ : Mem), f K46 a1 a2 μ = K46 a1 a2 μ := ⟨fun (K46 : Int32 → Int32 → Mem → Option (Int32 × Mem)) (a1 : Int32) (a2 : Int32) (μ : Mem) => K46 a1 a2 μ, fun _ _ _ _ => rfl⟩
noncomputable def p_X12_readVars_b160 : (Int32 → Int32 → Mem → Option (Int32 × Mem)) → Int32 → Int32 → Mem → Option (Int32 × Mem) := Classical.choose p_X12_readVars_b160_ex
theorem p_X12_readVars_b160_eq (K46 : Int32 → Int32 → Mem → Option (Int32 × Mem)) (a1 : Int32) (a2 : Int32) (μ : Mem) : p_X12_readVars_b160 K46 a1 a2 μ = K46 a1 a2 μ := Classical.choose_spec p_X12_readVars_b160_ex K46 a1 a2 μ
set_option maxHeartbeats 4000000 in
set_option maxRecDepth 100000 in
theorem t_X12_readVars_b160 (l : Launch) (G : Gt) (ad : Nat → Nat) (av : List Value) {r : Int32} {μz : Mem} (K46 : Int32 → Int32 → Mem → Option (Int32 × Mem)) (hK46 : ∀ (z1 : Int32) (z2 : Int32) (μ1 : Mem), K46 z1 z2 μ1 = some (r, μz) → Bk l cX12_readVars 4 RX12 (some .boolean) ({ frames := 1, cells := 0, slots := 0, locals := 21 } : Room) G av (eI 1 G ad r μz) (wd 1 G ad μ1) 46 [(0, .ref (ad 0)), (1, .int z1), (2, .int z2)] []) (a1 : Int32) (a2 : Int32) (μ : Mem) (h : p_X12_readVars_b160 K46 a1 a2 μ = some (r, μz)) : Bk l cX12_readVars 4 RX12 (some .boolean) ({ frames := 1, cells := 0, slots := 0, locals := 21 } : Room) G av (eI 1 G ad r μz) (wd 1 G ad μ) 160 [(0, .ref (ad 0)), (1, .int a1), (2, .int a2)] [] := by
  intro p e s m below meth c A ls H locs cx hr hlk hA hl hw
  have hx := cx.1
  have hb := cx.2.1
  rw [p_X12_readVars_b160_eq] at h
  refine lv_goto (tgt := 46) hx hb dX12_readVars_160 (by decide) ?_
  exact hK46 a1 a2 μ h p e s m below meth c A ls H locs cx hr hlk hA (lv_sub hl [0, 1, 2] rfl) hw
theorem p_X12_readVars_b145_ex : ∃ f : (Int32 → Int32 → Mem → Option (Int32 × Mem)) → Int32 → Int32 → Mem → Option (Int32 × Mem), ∀ (K46 : Int32 → Int32 → Mem → Option (Int32 × Mem)) (a1 : Int32) (k0 : Int32) (μ : Mem), f K46 a1 k0 μ = (if k0 = (0 : Int32) then p_X12_readVars_b160 K46 a1 k0 μ else bv (sF μ 0 4 ((μ.1 0 4) + (1 : Int32))) (fun μ24 => p_X12_readVars_b160 K46 a1 k0 μ24)) := ⟨fun (K46 : Int32 → Int32 → Mem → Option (Int32 × Mem)) (a1 : Int32) (k0 : Int32) (μ : Mem) => (if k0 = (0 : Int32) then p_X12_readVars_b160 K46 a1 k0 μ else bv (sF μ 0 4 ((μ.1 0 4) + (1 : Int32))) (fun μ24 => p_X12_readVars_b160 K46 a1 k0 μ24)), fun _ _ _ _ => rfl⟩
noncomputable def p_X12_readVars_b145 : (Int32 → Int32 → Mem → Option (Int32 × Mem)) → Int32 → Int32 → Mem → Option (Int32 × Mem) := Classical.choose p_X12_readVars_b145_ex
theorem p_X12_readVars_b145_eq (K46 : Int32 → Int32 → Mem → Option (Int32 × Mem)) (a1 : Int32) (k0 : Int32) (μ : Mem) : p_X12_readVars_b145 K46 a1 k0 μ = (if k0 = (0 : Int32) then p_X12_readVars_b160 K46 a1 k0 μ else bv (sF μ 0 4 ((μ.1 0 4) + (1 : Int32))) (fun μ24 => p_X12_readVars_b160 K46 a1 k0 μ24)) := Classical.choose_spec p_X12_readVars_b145_ex K46 a1 k0 μ
set_option maxHeartbeats 4000000 in
set_option maxRecDepth 100000 in
theorem t_X12_readVars_b145 (l : Launch) (G : Gt) (ad : Nat → Nat) (av : List Value) {r : Int32} {μz : Mem} (K46 : Int32 → Int32 → Mem → Option (Int32 × Mem)) (hK46 : ∀ (z1 : Int32) (z2 : Int32) (μ1 : Mem), K46 z1 z2 μ1 = some (r, μz) → Bk l cX12_readVars 4 RX12 (some .boolean) ({ frames := 1, cells := 0, slots := 0, locals := 21 } : Room) G av (eI 1 G ad r μz) (wd 1 G ad μ1) 46 [(0, .ref (ad 0)), (1, .int z1), (2, .int z2)] []) (a1 : Int32) (k0 : Int32) (μ : Mem) (h : p_X12_readVars_b145 K46 a1 k0 μ = some (r, μz)) : Bk l cX12_readVars 4 RX12 (some .boolean) ({ frames := 1, cells := 0, slots := 0, locals := 21 } : Room) G av (eI 1 G ad r μz) (wd 1 G ad μ) 145 [(0, .ref (ad 0)), (1, .int a1)] [.int k0] := by
  intro p e s m below meth c A ls H locs cx hr hlk hA hl hw
  have hx := cx.1
  have hb := cx.2.1
  rw [p_X12_readVars_b145_eq] at h
  refine lv_istore_n (lv' := [(2, .int k0), (0, .ref (ad 0)), (1, .int a1)]) hx hb dX12_readVars_145 rfl hl (by decide) rfl (fun ls hl => ?_)
  refine lv_iload_n hx hb dX12_readVars_146 rfl (lv_at hl 0 rfl) ?_
  refine lv_if_eq (tgt := 160) hx hb dX12_readVars_147 (by decide) (fun c23 => ?_) (fun c23 => ?_)
  · rw [if_pos c23] at h
    exact t_X12_readVars_b160 l G ad av K46 hK46 a1 k0 μ h p e s m below meth c A ls H locs cx hr hlk hA (lv_sub hl [1, 2, 0] rfl) hw
  · rw [if_neg c23] at h
    refine lv_aload_n hx hb dX12_readVars_150 rfl (lv_at hl 1 rfl) ?_
    refine lv_dup hx hb dX12_readVars_151 rfl ?_
    refine g_get cx hw inX12 (ci := 11) rfl 4 (by decide) rfl (v := .int (μ.1 0 4)) shm_0 rfl fl_X12_362 dX12_readVars_152 ?_
    refine lv_iconst (v := 1) hx hb dX12_readVars_155 (by decide) ?_
    refine lv_iadd hx hb dX12_readVars_156 ?_
    refine g_put cx hw inX12 (ci := 11) rfl tyX12_ok nmX12 4 (by decide) rfl rfl rfl rfl shm_0 h fl_X12_362 dX12_readVars_157 (fun μ24 H locs h hw => ?_)
    exact t_X12_readVars_b160 l G ad av K46 hK46 a1 k0 μ24 h p e s m below meth c A ls H locs cx hr hlk hA (lv_sub hl [1, 2, 0] rfl) hw
theorem p_X12_readVars_b144_ex : ∃ f : (Int32 → Int32 → Mem → Option (Int32 × Mem)) → Int32 → Mem → Option (Int32 × Mem), ∀ (K46 : Int32 → Int32 → Mem → Option (Int32 × Mem)) (a1 : Int32) (μ : Mem), f K46 a1 μ = p_X12_readVars_b145 K46 a1 (0 : Int32) μ := ⟨fun (K46 : Int32 → Int32 → Mem → Option (Int32 × Mem)) (a1 : Int32) (μ : Mem) => p_X12_readVars_b145 K46 a1 (0 : Int32) μ, fun _ _ _ => rfl⟩
noncomputable def p_X12_readVars_b144 : (Int32 → Int32 → Mem → Option (Int32 × Mem)) → Int32 → Mem → Option (Int32 × Mem) := Classical.choose p_X12_readVars_b144_ex
theorem p_X12_readVars_b144_eq (K46 : Int32 → Int32 → Mem → Option (Int32 × Mem)) (a1 : Int32) (μ : Mem) : p_X12_readVars_b144 K46 a1 μ = p_X12_readVars_b145 K46 a1 (0 : Int32) μ := Classical.choose_spec p_X12_readVars_b144_ex K46 a1 μ
set_option maxHeartbeats 4000000 in
set_option maxRecDepth 100000 in
theorem t_X12_readVars_b144 (l : Launch) (G : Gt) (ad : Nat → Nat) (av : List Value) {r : Int32} {μz : Mem} (K46 : Int32 → Int32 → Mem → Option (Int32 × Mem)) (hK46 : ∀ (z1 : Int32) (z2 : Int32) (μ1 : Mem), K46 z1 z2 μ1 = some (r, μz) → Bk l cX12_readVars 4 RX12 (some .boolean) ({ frames := 1, cells := 0, slots := 0, locals := 21 } : Room) G av (eI 1 G ad r μz) (wd 1 G ad μ1) 46 [(0, .ref (ad 0)), (1, .int z1), (2, .int z2)] []) (a1 : Int32) (μ : Mem) (h : p_X12_readVars_b144 K46 a1 μ = some (r, μz)) : Bk l cX12_readVars 4 RX12 (some .boolean) ({ frames := 1, cells := 0, slots := 0, locals := 21 } : Room) G av (eI 1 G ad r μz) (wd 1 G ad μ) 144 [(0, .ref (ad 0)), (1, .int a1)] [] := by
  intro p e s m below meth c A ls H locs cx hr hlk hA hl hw
  have hx := cx.1
  have hb := cx.2.1
  rw [p_X12_readVars_b144_eq] at h
  refine lv_iconst (v := 0) hx hb dX12_readVars_144 (by decide) ?_
  exact t_X12_readVars_b145 l G ad av K46 hK46 a1 (0 : Int32) μ h p e s m below meth c A ls H locs cx hr hlk hA (lv_sub hl [0, 1] rfl) hw
theorem p_X12_readVars_b46_ex : ∃ f : Nat → Int32 → Int32 → Mem → Option (Int32 × Mem), (∀ (a1 : Int32) (a2 : Int32) (μ : Mem), f  0 a1 a2 μ = none) ∧ (∀ (n : Nat) (a1 : Int32) (a2 : Int32) (μ : Mem), f  (n + 1) a1 a2 μ = (if a2 = (0 : Int32) then gd (inb (μ.1 0 27) 73) (bv (sF μ 12 (μ.1 0 27).toNatClampNeg a1) (fun μ7 => some ((1 : Int32), μ7))) else bd (p_X12_here μ) (fun r9 μ8 => (if (s_X12_isVarLetter r9) = (0 : Int32) then bd (p_X12_fails (μ8.1 0 4) μ8) (fun r12 μ11 => gd (isB r12) (some (r12, μ11))) else gd (inb (r9 - (109 : Int32)) 14) ((if (μ8.1 21 (r9 - (109 : Int32)).toNatClampNeg) ≤ (0 : Int32) then bv (r9 - (109 : Int32)) (fun v15 => gd (inb v15 14) (gd (inb v15 14) (bv (sF μ8 21 v15.toNatClampNeg ((μ8.1 21 v15.toNatClampNeg) + (1 : Int32))) (fun μ16 => gd (inb (((5 : Int32) * (μ16.1 0 27)) + a1) 365) (bv (sF μ16 13 (((5 : Int32) * (μ16.1 0 27)) + a1).toNatClampNeg (r9 - (109 : Int32))) (fun μ17 => bv (a1 + 1) (fun v18 => bv (sF μ17 0 4 ((μ17.1 0 4) + (1 : Int32))) (fun μ19 => bd (p_X12_here μ19) (fun r21 μ20 => (if r21 = (44 : Int32) then (if (5 : Int32) ≤ v18 then p_X12_readVars_b144 (f n) v18 μ20 else p_X12_readVars_b145 (f n) v18 (1 : Int32) μ20) else p_X12_readVars_b144 (f n) v18 μ20)))))))))) else bd (p_X12_fails (μ8.1 0 4) μ8) (fun r27 μ26 => gd (isB r27) (some (r27, μ26))))))))) := ⟨fun n => Nat.rec (fun (a1 : Int32) (a2 : Int32) (μ : Mem) => none) (fun _ ih => fun (a1 : Int32) (a2 : Int32) (μ : Mem) => (if a2 = (0 : Int32) then gd (inb (μ.1 0 27) 73) (bv (sF μ 12 (μ.1 0 27).toNatClampNeg a1) (fun μ7 => some ((1 : Int32), μ7))) else bd (p_X12_here μ) (fun r9 μ8 => (if (s_X12_isVarLetter r9) = (0 : Int32) then bd (p_X12_fails (μ8.1 0 4) μ8) (fun r12 μ11 => gd (isB r12) (some (r12, μ11))) else gd (inb (r9 - (109 : Int32)) 14) ((if (μ8.1 21 (r9 - (109 : Int32)).toNatClampNeg) ≤ (0 : Int32) then bv (r9 - (109 : Int32)) (fun v15 => gd (inb v15 14) (gd (inb v15 14) (bv (sF μ8 21 v15.toNatClampNeg ((μ8.1 21 v15.toNatClampNeg) + (1 : Int32))) (fun μ16 => gd (inb (((5 : Int32) * (μ16.1 0 27)) + a1) 365) (bv (sF μ16 13 (((5 : Int32) * (μ16.1 0 27)) + a1).toNatClampNeg (r9 - (109 : Int32))) (fun μ17 => bv (a1 + 1) (fun v18 => bv (sF μ17 0 4 ((μ17.1 0 4) + (1 : Int32))) (fun μ19 => bd (p_X12_here μ19) (fun r21 μ20 => (if r21 = (44 : Int32) then (if (5 : Int32) ≤ v18 then p_X12_readVars_b144 (ih) v18 μ20 else p_X12_readVars_b145 (ih) v18 (1 : Int32) μ20) else p_X12_readVars_b144 (ih) v18 μ20)))))))))) else bd (p_X12_fails (μ8.1 0 4) μ8) (fun r27 μ26 => gd (isB r27) (some (r27, μ26))))))))) n, fun  _ _ _ => rfl, fun  _ _ _ _ => rfl⟩
noncomputable def p_X12_readVars_b46 : Nat → Int32 → Int32 → Mem → Option (Int32 × Mem) := Classical.choose p_X12_readVars_b46_ex
theorem p_X12_readVars_b46_z (a1 : Int32) (a2 : Int32) (μ : Mem) : p_X12_readVars_b46  0 a1 a2 μ = none := (Classical.choose_spec p_X12_readVars_b46_ex).1  a1 a2 μ
theorem p_X12_readVars_b46_s (n : Nat) (a1 : Int32) (a2 : Int32) (μ : Mem) : p_X12_readVars_b46  (n + 1) a1 a2 μ = (if a2 = (0 : Int32) then gd (inb (μ.1 0 27) 73) (bv (sF μ 12 (μ.1 0 27).toNatClampNeg a1) (fun μ7 => some ((1 : Int32), μ7))) else bd (p_X12_here μ) (fun r9 μ8 => (if (s_X12_isVarLetter r9) = (0 : Int32) then bd (p_X12_fails (μ8.1 0 4) μ8) (fun r12 μ11 => gd (isB r12) (some (r12, μ11))) else gd (inb (r9 - (109 : Int32)) 14) ((if (μ8.1 21 (r9 - (109 : Int32)).toNatClampNeg) ≤ (0 : Int32) then bv (r9 - (109 : Int32)) (fun v15 => gd (inb v15 14) (gd (inb v15 14) (bv (sF μ8 21 v15.toNatClampNeg ((μ8.1 21 v15.toNatClampNeg) + (1 : Int32))) (fun μ16 => gd (inb (((5 : Int32) * (μ16.1 0 27)) + a1) 365) (bv (sF μ16 13 (((5 : Int32) * (μ16.1 0 27)) + a1).toNatClampNeg (r9 - (109 : Int32))) (fun μ17 => bv (a1 + 1) (fun v18 => bv (sF μ17 0 4 ((μ17.1 0 4) + (1 : Int32))) (fun μ19 => bd (p_X12_here μ19) (fun r21 μ20 => (if r21 = (44 : Int32) then (if (5 : Int32) ≤ v18 then p_X12_readVars_b144 (p_X12_readVars_b46  n) v18 μ20 else p_X12_readVars_b145 (p_X12_readVars_b46  n) v18 (1 : Int32) μ20) else p_X12_readVars_b144 (p_X12_readVars_b46  n) v18 μ20)))))))))) else bd (p_X12_fails (μ8.1 0 4) μ8) (fun r27 μ26 => gd (isB r27) (some (r27, μ26)))))))) := (Classical.choose_spec p_X12_readVars_b46_ex).2  n a1 a2 μ
set_option maxHeartbeats 4000000 in
set_option maxRecDepth 100000 in
theorem t_X12_readVars_b46 (l : Launch) (G : Gt) (ad : Nat → Nat) (av : List Value) {r : Int32} {μz : Mem} : ∀ (n : Nat) (a1 : Int32) (a2 : Int32) (μ : Mem), p_X12_readVars_b46  n a1 a2 μ = some (r, μz) → Bk l cX12_readVars 4 RX12 (some .boolean) ({ frames := 1, cells := 0, slots := 0, locals := 21 } : Room) G av (eI 1 G ad r μz) (wd 1 G ad μ) 46 [(0, .ref (ad 0)), (1, .int a1), (2, .int a2)] [] := by
  intro n
  induction n with
  | zero => intro a1 a2 μ h; rw [p_X12_readVars_b46_z] at h; cases h
  | succ n ih =>
    intro a1 a2 μ h p e s m below meth c A ls H locs cx hr hlk hA hl hw
    have hx := cx.1
    have hb := cx.2.1
    rw [p_X12_readVars_b46_s] at h
    refine lv_iload_n hx hb dX12_readVars_46 rfl (lv_at hl 2 rfl) ?_
    refine lv_if_eq (tgt := 163) hx hb dX12_readVars_47 (by decide) (fun c6 => ?_) (fun c6 => ?_)
    · rw [if_pos c6] at h
      refine lv_aload_n hx hb dX12_readVars_163 rfl (lv_at hl 0 rfl) ?_
      refine g_get cx hw inX12 (ci := 11) rfl 20 (by decide) rfl (v := .ref (ad 12)) shm_0 rfl fl_X12_48 dX12_readVars_164 ?_
      refine lv_aload_n hx hb dX12_readVars_167 rfl (lv_at hl 0 rfl) ?_
      refine g_get cx hw inX12 (ci := 11) rfl 27 (by decide) rfl (v := .int (μ.1 0 27)) shm_0 rfl fl_X12_413 dX12_readVars_168 ?_
      refine lv_iload_n hx hb dX12_readVars_171 rfl (lv_at hl 1 rfl) ?_
      refine g_iast cx hw shm_12 h dX12_readVars_172 (fun μ7 H locs h hw => ?_)
      refine lv_iconst (v := 1) hx hb dX12_readVars_173 (by decide) ?_
      exact g_zret cx hr hlk rfl hw h dX12_readVars_174
    · rw [if_neg c6] at h
      refine lv_aload_n hx hb dX12_readVars_50 rfl (lv_at hl 0 rfl) ?_
      obtain ⟨r9, μ8, gr9, h⟩ := bd_some h
      refine g_callVI (As := []) (rest := []) cx hw hA (t_X12_here l G ad μ gr9) shm_0 rfl ml_X12_365 im_X12_here se_X12_here in_X12 co_X12_here rfl hd_X12_here rfl ⟨(Nat.le_of_ble_eq_true rfl), (Nat.le_of_ble_eq_true rfl)⟩ hl.1 rfl (Nat.le_of_ble_eq_true rfl) dX12_readVars_51 ⟨rfl, rfl⟩ (fun H locs hw => ?_)
      refine lv_istore_n (lv' := [(3, .int r9), (0, .ref (ad 0)), (1, .int a1), (2, .int a2)]) hx hb dX12_readVars_54 rfl hl (by decide) rfl (fun ls hl => ?_)
      refine lv_iload_n hx hb dX12_readVars_55 rfl (lv_at hl 0 rfl) ?_
      refine s_callI (As := [.int r9]) (rest := []) cx hw hA (t_X12_isVarLetter l G r9) ml_X12_403 st_X12_isVarLetter in_X12 co_X12_isVarLetter hd_X12_isVarLetter rfl ⟨(Nat.le_of_ble_eq_true rfl), (Nat.le_of_ble_eq_true rfl)⟩ hl.1 rfl (Nat.le_of_ble_eq_true rfl) dX12_readVars_56 rfl (fun H locs hw => ?_)
      refine lv_if_eq (tgt := 74) hx hb dX12_readVars_59 (by decide) (fun c10 => ?_) (fun c10 => ?_)
      · rw [if_pos c10] at h
        refine lv_aload_n hx hb dX12_readVars_74 rfl (lv_at hl 1 rfl) ?_
        refine lv_aload_n hx hb dX12_readVars_75 rfl (lv_at hl 1 rfl) ?_
        refine g_get cx hw inX12 (ci := 11) rfl 4 (by decide) rfl (v := .int (μ8.1 0 4)) shm_0 rfl fl_X12_362 dX12_readVars_76 ?_
        obtain ⟨r12, μ11, gr12, h⟩ := bd_some h
        refine g_callVI (As := [.int (μ8.1 0 4)]) (rest := []) cx hw hA (t_X12_fails l G ad (μ8.1 0 4) μ8 gr12) shm_0 rfl ml_X12_369 im_X12_fails se_X12_fails in_X12 co_X12_fails rfl hd_X12_fails rfl ⟨(Nat.le_of_ble_eq_true rfl), (Nat.le_of_ble_eq_true rfl)⟩ hl.1 rfl (Nat.le_of_ble_eq_true rfl) dX12_readVars_79 ⟨rfl, rfl⟩ (fun H locs hw => ?_)
        obtain ⟨c13, h⟩ := gd_some h
        exact g_zret cx hr hlk (isB_n c13) hw h dX12_readVars_82
      · rw [if_neg c10] at h
        refine lv_aload_n hx hb dX12_readVars_62 rfl (lv_at hl 1 rfl) ?_
        refine g_get cx hw inX12 (ci := 11) rfl 31 (by decide) rfl (v := .ref (ad 21)) shm_0 rfl fl_X12_75 dX12_readVars_63 ?_
        refine lv_iload_n hx hb dX12_readVars_66 rfl (lv_at hl 0 rfl) ?_
        refine lv_bipush (v := 109) hx hb dX12_readVars_67 (by decide) ?_
        refine lv_isub hx hb dX12_readVars_69 ?_
        refine g_iald cx hw shm_21 h dX12_readVars_70 (fun h => ?_)
        refine lv_if_le (tgt := 83) hx hb dX12_readVars_71 (by decide) (fun c14 => ?_) (fun c14 => ?_)
        · rw [if_pos c14] at h
          refine lv_aload_n hx hb dX12_readVars_83 rfl (lv_at hl 1 rfl) ?_
          refine g_get cx hw inX12 (ci := 11) rfl 31 (by decide) rfl (v := .ref (ad 21)) shm_0 rfl fl_X12_75 dX12_readVars_84 ?_
          refine lv_iload_n hx hb dX12_readVars_87 rfl (lv_at hl 0 rfl) ?_
          refine lv_bipush (v := 109) hx hb dX12_readVars_88 (by decide) ?_
          refine lv_isub hx hb dX12_readVars_90 ?_
          obtain ⟨v15, ev15, h⟩ := bv_ex h
          refine lv_topi (fun y9 z9 => ?_)
          obtain rfl : v15 = y9 := ev15.trans z9.symm
          refine lv_dup2_11 hx hb dX12_readVars_91 rfl rfl ?_
          refine g_iald cx hw shm_21 h dX12_readVars_92 (fun h => ?_)
          refine lv_iconst (v := 1) hx hb dX12_readVars_93 (by decide) ?_
          refine lv_iadd hx hb dX12_readVars_94 ?_
          refine g_iast cx hw shm_21 h dX12_readVars_95 (fun μ16 H locs h hw => ?_)
          refine lv_aload_n hx hb dX12_readVars_96 rfl (lv_at hl 1 rfl) ?_
          refine g_get cx hw inX12 (ci := 11) rfl 21 (by decide) rfl (v := .ref (ad 13)) shm_0 rfl fl_X12_51 dX12_readVars_97 ?_
          refine lv_iconst (v := 5) hx hb dX12_readVars_100 (by decide) ?_
          refine lv_aload_n hx hb dX12_readVars_101 rfl (lv_at hl 1 rfl) ?_
          refine g_get cx hw inX12 (ci := 11) rfl 27 (by decide) rfl (v := .int (μ16.1 0 27)) shm_0 rfl fl_X12_413 dX12_readVars_102 ?_
          refine lv_imul hx hb dX12_readVars_105 ?_
          refine lv_iload_n hx hb dX12_readVars_106 rfl (lv_at hl 2 rfl) ?_
          refine lv_iadd hx hb dX12_readVars_107 ?_
          refine lv_iload_n hx hb dX12_readVars_108 rfl (lv_at hl 0 rfl) ?_
          refine lv_bipush (v := 109) hx hb dX12_readVars_109 (by decide) ?_
          refine lv_isub hx hb dX12_readVars_111 ?_
          refine g_iast cx hw shm_13 h dX12_readVars_112 (fun μ17 H locs h hw => ?_)
          obtain ⟨v18, ev18, h⟩ := bv_ex h
          refine lv_iinc (v := v18) (lv' := [(1, .int v18), (3, .int r9), (0, .ref (ad 0)), (2, .int a2)]) hx hb dX12_readVars_113 hl (k := 2) rfl (by rw [ev18]; rfl) (by decide) rfl (fun ls hl => ?_)
          refine lv_aload_n hx hb dX12_readVars_116 rfl (lv_at hl 2 rfl) ?_
          refine lv_dup hx hb dX12_readVars_117 rfl ?_
          refine g_get cx hw inX12 (ci := 11) rfl 4 (by decide) rfl (v := .int (μ17.1 0 4)) shm_0 rfl fl_X12_362 dX12_readVars_118 ?_
          refine lv_iconst (v := 1) hx hb dX12_readVars_121 (by decide) ?_
          refine lv_iadd hx hb dX12_readVars_122 ?_
          refine g_put cx hw inX12 (ci := 11) rfl tyX12_ok nmX12 4 (by decide) rfl rfl rfl rfl shm_0 h fl_X12_362 dX12_readVars_123 (fun μ19 H locs h hw => ?_)
          refine lv_aload_n hx hb dX12_readVars_126 rfl (lv_at hl 2 rfl) ?_
          obtain ⟨r21, μ20, gr21, h⟩ := bd_some h
          refine g_callVI (As := []) (rest := []) cx hw hA (t_X12_here l G ad μ19 gr21) shm_0 rfl ml_X12_365 im_X12_here se_X12_here in_X12 co_X12_here rfl hd_X12_here rfl ⟨(Nat.le_of_ble_eq_true rfl), (Nat.le_of_ble_eq_true rfl)⟩ hl.1 rfl (Nat.le_of_ble_eq_true rfl) dX12_readVars_127 ⟨rfl, rfl⟩ (fun H locs hw => ?_)
          refine lv_bipush (v := 44) hx hb dX12_readVars_130 (by decide) ?_
          refine lv_icmp_ne (tgt := 144) hx hb dX12_readVars_132 (by decide) (fun c22 => ?_) (fun c22 => ?_)
          · rw [if_neg c22] at h
            exact t_X12_readVars_b144 l G ad av _ ih v18 μ20 h p e s m below meth c A ls H locs cx hr hlk hA (lv_sub hl [2, 0] rfl) hw
          · rw [if_pos c22] at h
            refine lv_iload_n hx hb dX12_readVars_135 rfl (lv_at hl 0 rfl) ?_
            refine lv_iconst (v := 5) hx hb dX12_readVars_136 (by decide) ?_
            refine lv_icmp_ge (tgt := 144) hx hb dX12_readVars_137 (by decide) (fun c25 => ?_) (fun c25 => ?_)
            · rw [if_pos c25] at h
              exact t_X12_readVars_b144 l G ad av _ ih v18 μ20 h p e s m below meth c A ls H locs cx hr hlk hA (lv_sub hl [2, 0] rfl) hw
            · rw [if_neg c25] at h
              refine lv_iconst (v := 1) hx hb dX12_readVars_140 (by decide) ?_
              refine lv_goto (tgt := 145) hx hb dX12_readVars_141 (by decide) ?_
              exact t_X12_readVars_b145 l G ad av _ ih v18 (1 : Int32) μ20 h p e s m below meth c A ls H locs cx hr hlk hA (lv_sub hl [2, 0] rfl) hw
        · rw [if_neg c14] at h
          refine lv_aload_n hx hb dX12_readVars_74 rfl (lv_at hl 1 rfl) ?_
          refine lv_aload_n hx hb dX12_readVars_75 rfl (lv_at hl 1 rfl) ?_
          refine g_get cx hw inX12 (ci := 11) rfl 4 (by decide) rfl (v := .int (μ8.1 0 4)) shm_0 rfl fl_X12_362 dX12_readVars_76 ?_
          obtain ⟨r27, μ26, gr27, h⟩ := bd_some h
          refine g_callVI (As := [.int (μ8.1 0 4)]) (rest := []) cx hw hA (t_X12_fails l G ad (μ8.1 0 4) μ8 gr27) shm_0 rfl ml_X12_369 im_X12_fails se_X12_fails in_X12 co_X12_fails rfl hd_X12_fails rfl ⟨(Nat.le_of_ble_eq_true rfl), (Nat.le_of_ble_eq_true rfl)⟩ hl.1 rfl (Nat.le_of_ble_eq_true rfl) dX12_readVars_79 ⟨rfl, rfl⟩ (fun H locs hw => ?_)
          obtain ⟨c28, h⟩ := gd_some h
          exact g_zret cx hr hlk (isB_n c28) hw h dX12_readVars_82
theorem p_X12_readVars_b4_ex : ∃ f : Nat → Int32 → Int32 → Mem → Option (Int32 × Mem), (∀ (a1 : Int32) (a2 : Int32) (μ : Mem), f  0 a1 a2 μ = none) ∧ (∀ (n : Nat) (a1 : Int32) (a2 : Int32) (μ : Mem), f  (n + 1) a1 a2 μ = (if (14 : Int32) ≤ a2 then gd (inb (μ.1 0 27) 73) (bv (sF μ 12 (μ.1 0 27).toNatClampNeg (0 : Int32)) (fun μ2 => bd (p_X12_here μ2) (fun r4 μ3 => (if r4 = (41 : Int32) then some ((1 : Int32), μ3) else p_X12_readVars_b46  FUEL a1 (1 : Int32) μ3)))) else gd (inb a2 14) (bv (sF μ 21 a2.toNatClampNeg (0 : Int32)) (fun μ29 => bv (a2 + 1) (fun v30 => f n a1 v30 μ29))))) := ⟨fun n => Nat.rec (fun (a1 : Int32) (a2 : Int32) (μ : Mem) => none) (fun _ ih => fun (a1 : Int32) (a2 : Int32) (μ : Mem) => (if (14 : Int32) ≤ a2 then gd (inb (μ.1 0 27) 73) (bv (sF μ 12 (μ.1 0 27).toNatClampNeg (0 : Int32)) (fun μ2 => bd (p_X12_here μ2) (fun r4 μ3 => (if r4 = (41 : Int32) then some ((1 : Int32), μ3) else p_X12_readVars_b46  FUEL a1 (1 : Int32) μ3)))) else gd (inb a2 14) (bv (sF μ 21 a2.toNatClampNeg (0 : Int32)) (fun μ29 => bv (a2 + 1) (fun v30 => ih a1 v30 μ29))))) n, fun  _ _ _ => rfl, fun  _ _ _ _ => rfl⟩
noncomputable def p_X12_readVars_b4 : Nat → Int32 → Int32 → Mem → Option (Int32 × Mem) := Classical.choose p_X12_readVars_b4_ex
theorem p_X12_readVars_b4_z (a1 : Int32) (a2 : Int32) (μ : Mem) : p_X12_readVars_b4  0 a1 a2 μ = none := (Classical.choose_spec p_X12_readVars_b4_ex).1  a1 a2 μ
theorem p_X12_readVars_b4_s (n : Nat) (a1 : Int32) (a2 : Int32) (μ : Mem) : p_X12_readVars_b4  (n + 1) a1 a2 μ = (if (14 : Int32) ≤ a2 then gd (inb (μ.1 0 27) 73) (bv (sF μ 12 (μ.1 0 27).toNatClampNeg (0 : Int32)) (fun μ2 => bd (p_X12_here μ2) (fun r4 μ3 => (if r4 = (41 : Int32) then some ((1 : Int32), μ3) else p_X12_readVars_b46  FUEL a1 (1 : Int32) μ3)))) else gd (inb a2 14) (bv (sF μ 21 a2.toNatClampNeg (0 : Int32)) (fun μ29 => bv (a2 + 1) (fun v30 => p_X12_readVars_b4  n a1 v30 μ29)))) := (Classical.choose_spec p_X12_readVars_b4_ex).2  n a1 a2 μ
set_option maxHeartbeats 4000000 in
set_option maxRecDepth 100000 in
theorem t_X12_readVars_b4 (l : Launch) (G : Gt) (ad : Nat → Nat) (av : List Value) {r : Int32} {μz : Mem} : ∀ (n : Nat) (a1 : Int32) (a2 : Int32) (μ : Mem), p_X12_readVars_b4  n a1 a2 μ = some (r, μz) → Bk l cX12_readVars 4 RX12 (some .boolean) ({ frames := 1, cells := 0, slots := 0, locals := 21 } : Room) G av (eI 1 G ad r μz) (wd 1 G ad μ) 4 [(0, .ref (ad 0)), (1, .int a1), (2, .int a2)] [] := by
  intro n
  induction n with
  | zero => intro a1 a2 μ h; rw [p_X12_readVars_b4_z] at h; cases h
  | succ n ih =>
    intro a1 a2 μ h p e s m below meth c A ls H locs cx hr hlk hA hl hw
    have hx := cx.1
    have hb := cx.2.1
    rw [p_X12_readVars_b4_s] at h
    refine lv_iload_n hx hb dX12_readVars_4 rfl (lv_at hl 2 rfl) ?_
    refine lv_bipush (v := 14) hx hb dX12_readVars_5 (by decide) ?_
    refine lv_icmp_ge (tgt := 23) hx hb dX12_readVars_7 (by decide) (fun c1 => ?_) (fun c1 => ?_)
    · rw [if_pos c1] at h
      refine lv_aload_n hx hb dX12_readVars_23 rfl (lv_at hl 0 rfl) ?_
      refine g_get cx hw inX12 (ci := 11) rfl 20 (by decide) rfl (v := .ref (ad 12)) shm_0 rfl fl_X12_48 dX12_readVars_24 ?_
      refine lv_aload_n hx hb dX12_readVars_27 rfl (lv_at hl 0 rfl) ?_
      refine g_get cx hw inX12 (ci := 11) rfl 27 (by decide) rfl (v := .int (μ.1 0 27)) shm_0 rfl fl_X12_413 dX12_readVars_28 ?_
      refine lv_iconst (v := 0) hx hb dX12_readVars_31 (by decide) ?_
      refine g_iast cx hw shm_12 h dX12_readVars_32 (fun μ2 H locs h hw => ?_)
      refine lv_aload_n hx hb dX12_readVars_33 rfl (lv_at hl 0 rfl) ?_
      obtain ⟨r4, μ3, gr4, h⟩ := bd_some h
      refine g_callVI (As := []) (rest := []) cx hw hA (t_X12_here l G ad μ2 gr4) shm_0 rfl ml_X12_365 im_X12_here se_X12_here in_X12 co_X12_here rfl hd_X12_here rfl ⟨(Nat.le_of_ble_eq_true rfl), (Nat.le_of_ble_eq_true rfl)⟩ hl.1 rfl (Nat.le_of_ble_eq_true rfl) dX12_readVars_34 ⟨rfl, rfl⟩ (fun H locs hw => ?_)
      refine lv_bipush (v := 41) hx hb dX12_readVars_37 (by decide) ?_
      refine lv_icmp_ne (tgt := 44) hx hb dX12_readVars_39 (by decide) (fun c5 => ?_) (fun c5 => ?_)
      · rw [if_neg c5] at h
        refine lv_iconst (v := 1) hx hb dX12_readVars_44 (by decide) ?_
        refine lv_istore_n (lv' := [(2, .int 1), (0, .ref (ad 0)), (1, .int a1)]) hx hb dX12_readVars_45 rfl hl (by decide) rfl (fun ls hl => ?_)
        exact t_X12_readVars_b46 l G ad av  FUEL a1 (1 : Int32) μ3 h p e s m below meth c A ls H locs cx hr hlk hA (lv_sub hl [1, 2, 0] rfl) hw
      · rw [if_pos c5] at h
        refine lv_iconst (v := 1) hx hb dX12_readVars_42 (by decide) ?_
        exact g_zret cx hr hlk rfl hw h dX12_readVars_43
    · rw [if_neg c1] at h
      refine lv_aload_n hx hb dX12_readVars_10 rfl (lv_at hl 0 rfl) ?_
      refine g_get cx hw inX12 (ci := 11) rfl 31 (by decide) rfl (v := .ref (ad 21)) shm_0 rfl fl_X12_75 dX12_readVars_11 ?_
      refine lv_iload_n hx hb dX12_readVars_14 rfl (lv_at hl 2 rfl) ?_
      refine lv_iconst (v := 0) hx hb dX12_readVars_15 (by decide) ?_
      refine g_iast cx hw shm_21 h dX12_readVars_16 (fun μ29 H locs h hw => ?_)
      obtain ⟨v30, ev30, h⟩ := bv_ex h
      refine lv_iinc (v := v30) (lv' := [(2, .int v30), (0, .ref (ad 0)), (1, .int a1)]) hx hb dX12_readVars_17 hl (k := 2) rfl (by rw [ev30]; rfl) (by decide) rfl (fun ls hl => ?_)
      refine lv_goto (tgt := 4) hx hb dX12_readVars_20 (by decide) ?_
      exact ih a1 v30 μ29 h p e s m below meth c A ls H locs cx hr hlk hA (lv_sub hl [1, 2, 0] rfl) hw
theorem p_X12_readVars_ex : ∃ f : Mem → Option (Int32 × Mem), ∀  (μ : Mem), f  μ = p_X12_readVars_b4  FUEL (0 : Int32) (0 : Int32) μ := ⟨fun  (μ : Mem) => p_X12_readVars_b4  FUEL (0 : Int32) (0 : Int32) μ, fun _ => rfl⟩
noncomputable def p_X12_readVars : Mem → Option (Int32 × Mem) := Classical.choose p_X12_readVars_ex
theorem p_X12_readVars_eq  (μ : Mem) : p_X12_readVars  μ = p_X12_readVars_b4  FUEL (0 : Int32) (0 : Int32) μ := Classical.choose_spec p_X12_readVars_ex  μ
set_option maxHeartbeats 4000000 in
set_option maxRecDepth 100000 in
theorem t_X12_readVars (l : Launch) (G : Gt) (ad : Nat → Nat)  (μ : Mem) {r : Int32} {μz : Mem} (h : p_X12_readVars  μ = some (r, μz)) : Mt l yX12_readVars cX12_readVars 4 (some .boolean) ({ frames := 1, cells := 0, slots := 0, locals := 21 } : Room) G [.ref (ad 0)] (wd 1 G ad μ) (eI 1 G ad r μz) := by
  refine Bk.mt (by decide) rfl (Nat.le_of_ble_eq_true rfl) ?_
  intro p e s m below meth c A ls H locs cx hr hlk hA hl hw
  have hx := cx.1
  have hb := cx.2.1
  have hl : lv_has ls 4 [(0, .ref (ad 0))] := hl
  rw [p_X12_readVars_eq] at h
  refine lv_iconst (v := 0) hx hb dX12_readVars_0 (by decide) ?_
  refine lv_istore_n (lv' := [(1, .int 0), (0, .ref (ad 0))]) hx hb dX12_readVars_1 rfl hl (by decide) rfl (fun ls hl => ?_)
  refine lv_iconst (v := 0) hx hb dX12_readVars_2 (by decide) ?_
  refine lv_istore_n (lv' := [(2, .int 0), (1, .int 0), (0, .ref (ad 0))]) hx hb dX12_readVars_3 rfl hl (by decide) rfl (fun ls hl => ?_)
  exact t_X12_readVars_b4 l G ad _  FUEL (0 : Int32) (0 : Int32) μ h p e s m below meth c A ls H locs cx hr hlk hA (lv_sub hl [2, 1, 0] rfl) hw

theorem p_X12_isNew_b32_ex : ∃ f : (Int32 → Int32 → Int32 → Mem → Option (Int32 × Mem)) → Int32 → Int32 → Int32 → Mem → Option (Int32 × Mem), ∀ (K2 : Int32 → Int32 → Int32 → Mem → Option (Int32 × Mem)) (a1 : Int32) (a2 : Int32) (a3 : Int32) (μ : Mem), f K2 a1 a2 a3 μ = bv (a3 + 1) (fun v3 => K2 a1 a2 v3 μ) := ⟨fun (K2 : Int32 → Int32 → Int32 → Mem → Option (Int32 × Mem)) (a1 : Int32) (a2 : Int32) (a3 : Int32) (μ : Mem) => bv (a3 + 1) (fun v3 => K2 a1 a2 v3 μ), fun _ _ _ _ _ => rfl⟩
noncomputable def p_X12_isNew_b32 : (Int32 → Int32 → Int32 → Mem → Option (Int32 × Mem)) → Int32 → Int32 → Int32 → Mem → Option (Int32 × Mem) := Classical.choose p_X12_isNew_b32_ex
theorem p_X12_isNew_b32_eq (K2 : Int32 → Int32 → Int32 → Mem → Option (Int32 × Mem)) (a1 : Int32) (a2 : Int32) (a3 : Int32) (μ : Mem) : p_X12_isNew_b32 K2 a1 a2 a3 μ = bv (a3 + 1) (fun v3 => K2 a1 a2 v3 μ) := Classical.choose_spec p_X12_isNew_b32_ex K2 a1 a2 a3 μ
set_option maxHeartbeats 4000000 in
set_option maxRecDepth 100000 in
theorem t_X12_isNew_b32 (l : Launch) (G : Gt) (ad : Nat → Nat) (av : List Value) {r : Int32} {μz : Mem} (K2 : Int32 → Int32 → Int32 → Mem → Option (Int32 × Mem)) (hK2 : ∀ (z1 : Int32) (z2 : Int32) (z3 : Int32) (μ1 : Mem), K2 z1 z2 z3 μ1 = some (r, μz) → Bk l cX12_isNew 4 RX12 (some .boolean) ({ frames := 0, cells := 0, slots := 0, locals := 0 } : Room) G av (eI 1 G ad r μz) (wd 1 G ad μ1) 2 [(0, .ref (ad 0)), (1, .int z1), (2, .int z2), (3, .int z3)] []) (a1 : Int32) (a2 : Int32) (a3 : Int32) (μ : Mem) (h : p_X12_isNew_b32 K2 a1 a2 a3 μ = some (r, μz)) : Bk l cX12_isNew 4 RX12 (some .boolean) ({ frames := 0, cells := 0, slots := 0, locals := 0 } : Room) G av (eI 1 G ad r μz) (wd 1 G ad μ) 32 [(0, .ref (ad 0)), (1, .int a1), (2, .int a2), (3, .int a3)] [] := by
  intro p e s m below meth c A ls H locs cx hr hlk hA hl hw
  have hx := cx.1
  have hb := cx.2.1
  rw [p_X12_isNew_b32_eq] at h
  obtain ⟨v3, ev3, h⟩ := bv_ex h
  refine lv_iinc (v := v3) (lv' := [(3, .int v3), (0, .ref (ad 0)), (1, .int a1), (2, .int a2)]) hx hb dX12_isNew_32 hl (k := 3) rfl (by rw [ev3]; rfl) (by decide) rfl (fun ls hl => ?_)
  refine lv_goto (tgt := 2) hx hb dX12_isNew_35 (by decide) ?_
  exact hK2 a1 a2 v3 μ h p e s m below meth c A ls H locs cx hr hlk hA (lv_sub hl [1, 2, 3, 0] rfl) hw
theorem p_X12_isNew_b2_ex : ∃ f : Nat → Int32 → Int32 → Int32 → Mem → Option (Int32 × Mem), (∀ (a1 : Int32) (a2 : Int32) (a3 : Int32) (μ : Mem), f  0 a1 a2 a3 μ = none) ∧ (∀ (n : Nat) (a1 : Int32) (a2 : Int32) (a3 : Int32) (μ : Mem), f  (n + 1) a1 a2 a3 μ = (if (μ.1 0 27) ≤ a3 then some ((1 : Int32), μ) else gd (inb a3 73) ((if (μ.1 11 a3.toNatClampNeg) = a1 then gd (inb a3 73) ((if (μ.1 12 a3.toNatClampNeg) = a2 then some ((0 : Int32), μ) else p_X12_isNew_b32 (f n) a1 a2 a3 μ)) else p_X12_isNew_b32 (f n) a1 a2 a3 μ)))) := ⟨fun n => Nat.rec (fun (a1 : Int32) (a2 : Int32) (a3 : Int32) (μ : Mem) => none) (fun _ ih => fun (a1 : Int32) (a2 : Int32) (a3 : Int32) (μ : Mem) => (if (μ.1 0 27) ≤ a3 then some ((1 : Int32), μ) else gd (inb a3 73) ((if (μ.1 11 a3.toNatClampNeg) = a1 then gd (inb a3 73) ((if (μ.1 12 a3.toNatClampNeg) = a2 then some ((0 : Int32), μ) else p_X12_isNew_b32 (ih) a1 a2 a3 μ)) else p_X12_isNew_b32 (ih) a1 a2 a3 μ)))) n, fun  _ _ _ _ => rfl, fun  _ _ _ _ _ => rfl⟩
noncomputable def p_X12_isNew_b2 : Nat → Int32 → Int32 → Int32 → Mem → Option (Int32 × Mem) := Classical.choose p_X12_isNew_b2_ex
theorem p_X12_isNew_b2_z (a1 : Int32) (a2 : Int32) (a3 : Int32) (μ : Mem) : p_X12_isNew_b2  0 a1 a2 a3 μ = none := (Classical.choose_spec p_X12_isNew_b2_ex).1  a1 a2 a3 μ
theorem p_X12_isNew_b2_s (n : Nat) (a1 : Int32) (a2 : Int32) (a3 : Int32) (μ : Mem) : p_X12_isNew_b2  (n + 1) a1 a2 a3 μ = (if (μ.1 0 27) ≤ a3 then some ((1 : Int32), μ) else gd (inb a3 73) ((if (μ.1 11 a3.toNatClampNeg) = a1 then gd (inb a3 73) ((if (μ.1 12 a3.toNatClampNeg) = a2 then some ((0 : Int32), μ) else p_X12_isNew_b32 (p_X12_isNew_b2  n) a1 a2 a3 μ)) else p_X12_isNew_b32 (p_X12_isNew_b2  n) a1 a2 a3 μ))) := (Classical.choose_spec p_X12_isNew_b2_ex).2  n a1 a2 a3 μ
set_option maxHeartbeats 4000000 in
set_option maxRecDepth 100000 in
theorem t_X12_isNew_b2 (l : Launch) (G : Gt) (ad : Nat → Nat) (av : List Value) {r : Int32} {μz : Mem} : ∀ (n : Nat) (a1 : Int32) (a2 : Int32) (a3 : Int32) (μ : Mem), p_X12_isNew_b2  n a1 a2 a3 μ = some (r, μz) → Bk l cX12_isNew 4 RX12 (some .boolean) ({ frames := 0, cells := 0, slots := 0, locals := 0 } : Room) G av (eI 1 G ad r μz) (wd 1 G ad μ) 2 [(0, .ref (ad 0)), (1, .int a1), (2, .int a2), (3, .int a3)] [] := by
  intro n
  induction n with
  | zero => intro a1 a2 a3 μ h; rw [p_X12_isNew_b2_z] at h; cases h
  | succ n ih =>
    intro a1 a2 a3 μ h p e s m below meth c A ls H locs cx hr hlk hA hl hw
    have hx := cx.1
    have hb := cx.2.1
    rw [p_X12_isNew_b2_s] at h
    refine lv_iload_n hx hb dX12_isNew_2 rfl (lv_at hl 3 rfl) ?_
    refine lv_aload_n hx hb dX12_isNew_3 rfl (lv_at hl 0 rfl) ?_
    refine g_get cx hw inX12 (ci := 11) rfl 27 (by decide) rfl (v := .int (μ.1 0 27)) shm_0 rfl fl_X12_413 dX12_isNew_4 ?_
    refine lv_icmp_ge (tgt := 38) hx hb dX12_isNew_7 (by decide) (fun c1 => ?_) (fun c1 => ?_)
    · rw [if_pos c1] at h
      refine lv_iconst (v := 1) hx hb dX12_isNew_38 (by decide) ?_
      exact g_zret cx hr hlk rfl hw h dX12_isNew_39
    · rw [if_neg c1] at h
      refine lv_aload_n hx hb dX12_isNew_10 rfl (lv_at hl 0 rfl) ?_
      refine g_get cx hw inX12 (ci := 11) rfl 19 (by decide) rfl (v := .ref (ad 11)) shm_0 rfl fl_X12_45 dX12_isNew_11 ?_
      refine lv_iload_n hx hb dX12_isNew_14 rfl (lv_at hl 3 rfl) ?_
      refine g_iald cx hw shm_11 h dX12_isNew_15 (fun h => ?_)
      refine lv_iload_n hx hb dX12_isNew_16 rfl (lv_at hl 1 rfl) ?_
      refine lv_icmp_ne (tgt := 32) hx hb dX12_isNew_17 (by decide) (fun c2 => ?_) (fun c2 => ?_)
      · rw [if_neg c2] at h
        exact t_X12_isNew_b32 l G ad av _ ih a1 a2 a3 μ h p e s m below meth c A ls H locs cx hr hlk hA (lv_sub hl [0, 1, 2, 3] rfl) hw
      · rw [if_pos c2] at h
        refine lv_aload_n hx hb dX12_isNew_20 rfl (lv_at hl 0 rfl) ?_
        refine g_get cx hw inX12 (ci := 11) rfl 20 (by decide) rfl (v := .ref (ad 12)) shm_0 rfl fl_X12_48 dX12_isNew_21 ?_
        refine lv_iload_n hx hb dX12_isNew_24 rfl (lv_at hl 3 rfl) ?_
        refine g_iald cx hw shm_12 h dX12_isNew_25 (fun h => ?_)
        refine lv_iload_n hx hb dX12_isNew_26 rfl (lv_at hl 2 rfl) ?_
        refine lv_icmp_ne (tgt := 32) hx hb dX12_isNew_27 (by decide) (fun c4 => ?_) (fun c4 => ?_)
        · rw [if_neg c4] at h
          exact t_X12_isNew_b32 l G ad av _ ih a1 a2 a3 μ h p e s m below meth c A ls H locs cx hr hlk hA (lv_sub hl [0, 1, 2, 3] rfl) hw
        · rw [if_pos c4] at h
          refine lv_iconst (v := 0) hx hb dX12_isNew_30 (by decide) ?_
          exact g_zret cx hr hlk rfl hw h dX12_isNew_31
theorem p_X12_isNew_ex : ∃ f : Int32 → Int32 → Mem → Option (Int32 × Mem), ∀ (a1 : Int32) (a2 : Int32) (μ : Mem), f a1 a2 μ = p_X12_isNew_b2  FUEL a1 a2 (0 : Int32) μ := ⟨fun (a1 : Int32) (a2 : Int32) (μ : Mem) => p_X12_isNew_b2  FUEL a1 a2 (0 : Int32) μ, fun _ _ _ => rfl⟩
noncomputable def p_X12_isNew : Int32 → Int32 → Mem → Option (Int32 × Mem) := Classical.choose p_X12_isNew_ex
theorem p_X12_isNew_eq (a1 : Int32) (a2 : Int32) (μ : Mem) : p_X12_isNew a1 a2 μ = p_X12_isNew_b2  FUEL a1 a2 (0 : Int32) μ := Classical.choose_spec p_X12_isNew_ex a1 a2 μ
set_option maxHeartbeats 4000000 in
set_option maxRecDepth 100000 in
theorem t_X12_isNew (l : Launch) (G : Gt) (ad : Nat → Nat) (a1 : Int32) (a2 : Int32) (μ : Mem) {r : Int32} {μz : Mem} (h : p_X12_isNew a1 a2 μ = some (r, μz)) : Mt l yX12_isNew cX12_isNew 4 (some .boolean) ({ frames := 0, cells := 0, slots := 0, locals := 0 } : Room) G [.ref (ad 0), .int a1, .int a2] (wd 1 G ad μ) (eI 1 G ad r μz) := by
  refine Bk.mt (by decide) rfl (Nat.le_of_ble_eq_true rfl) ?_
  intro p e s m below meth c A ls H locs cx hr hlk hA hl hw
  have hx := cx.1
  have hb := cx.2.1
  have hl : lv_has ls 4 [(0, .ref (ad 0)), (1, .int a1), (2, .int a2)] := hl
  rw [p_X12_isNew_eq] at h
  refine lv_iconst (v := 0) hx hb dX12_isNew_0 (by decide) ?_
  refine lv_istore_n (lv' := [(3, .int 0), (0, .ref (ad 0)), (1, .int a1), (2, .int a2)]) hx hb dX12_isNew_1 rfl hl (by decide) rfl (fun ls hl => ?_)
  exact t_X12_isNew_b2 l G ad _  FUEL a1 a2 (0 : Int32) μ h p e s m below meth c A ls H locs cx hr hlk hA (lv_sub hl [1, 2, 3, 0] rfl) hw

theorem p_X12_readFunction_ex : ∃ f : Mem → Option (Int32 × Mem), ∀  (μ : Mem), f  μ = bv (μ.1 0 4) (fun v1 => bd (p_X12_here μ) (fun r3 μ2 => (if (s_X12_isFunctionLetter r3) = (0 : Int32) then bd (p_X12_fails (μ2.1 0 4) μ2) (fun r42 μ41 => gd (isB r42) (some (r42, μ41))) else bd (p_X12_here μ2) (fun r6 μ5 => bv ((r6 - (97 : Int32)) + (1 : Int32)) (fun v7 => bv (sF μ5 0 4 ((μ5.1 0 4) + (1 : Int32))) (fun μ8 => gd (inb (μ8.1 0 27) 73) (bv (sF μ8 14 (μ8.1 0 27).toNatClampNeg (μ8.1 0 28)) (fun μ9 => bd (p_X12_takes (40 : Int32) μ9) (fun r11 μ10 => (if r11 = (0 : Int32) then some ((0 : Int32), μ10) else bd (p_X12_readVars μ10) (fun r14 μ13 => (if r14 = (0 : Int32) then some ((0 : Int32), μ13) else bd (p_X12_takes (41 : Int32) μ13) (fun r17 μ16 => (if r17 = (0 : Int32) then some ((0 : Int32), μ16) else bd (p_X12_here μ16) (fun r20 μ19 => (if r20 = (61 : Int32) then gd (inb (μ19.1 0 27) 73) (bd (p_X12_isNew v7 (μ19.1 12 (μ19.1 0 27).toNatClampNeg) μ19) (fun r23 μ22 => (if r23 = (0 : Int32) then bd (p_X12_fails v1 μ22) (fun r36 μ35 => gd (isB r36) (some (r36, μ35))) else bv (sF μ22 0 4 ((μ22.1 0 4) + (1 : Int32))) (fun μ25 => gd (inb (μ25.1 0 27) 73) (bv (sF μ25 11 (μ25.1 0 27).toNatClampNeg v7) (fun μ26 => bd (p_X12_readExpression μ26) (fun r28 μ27 => (if r28 = (0 : Int32) then some ((0 : Int32), μ27) else bd (p_X12_takes (59 : Int32) μ27) (fun r31 μ30 => (if r31 = (0 : Int32) then some ((0 : Int32), μ30) else gd (inb (μ30.1 0 27) 73) (gd (inb (μ30.1 0 27) 73) (bv (sF μ30 15 (μ30.1 0 27).toNatClampNeg ((μ30.1 0 28) - (μ30.1 14 (μ30.1 0 27).toNatClampNeg))) (fun μ33 => bv (sF μ33 0 27 ((μ33.1 0 27) + (1 : Int32))) (fun μ34 => some ((1 : Int32), μ34))))))))))))))) else bd (p_X12_fails (μ19.1 0 4) μ19) (fun r39 μ38 => gd (isB r39) (some (r39, μ38))))))))))))))))))) := ⟨fun  (μ : Mem) => bv (μ.1 0 4) (fun v1 => bd (p_X12_here μ) (fun r3 μ2 => (if (s_X12_isFunctionLetter r3) = (0 : Int32) then bd (p_X12_fails (μ2.1 0 4) μ2) (fun r42 μ41 => gd (isB r42) (some (r42, μ41))) else bd (p_X12_here μ2) (fun r6 μ5 => bv ((r6 - (97 : Int32)) + (1 : Int32)) (fun v7 => bv (sF μ5 0 4 ((μ5.1 0 4) + (1 : Int32))) (fun μ8 => gd (inb (μ8.1 0 27) 73) (bv (sF μ8 14 (μ8.1 0 27).toNatClampNeg (μ8.1 0 28)) (fun μ9 => bd (p_X12_takes (40 : Int32) μ9) (fun r11 μ10 => (if r11 = (0 : Int32) then some ((0 : Int32), μ10) else bd (p_X12_readVars μ10) (fun r14 μ13 => (if r14 = (0 : Int32) then some ((0 : Int32), μ13) else bd (p_X12_takes (41 : Int32) μ13) (fun r17 μ16 => (if r17 = (0 : Int32) then some ((0 : Int32), μ16) else bd (p_X12_here μ16) (fun r20 μ19 => (if r20 = (61 : Int32) then gd (inb (μ19.1 0 27) 73) (bd (p_X12_isNew v7 (μ19.1 12 (μ19.1 0 27).toNatClampNeg) μ19) (fun r23 μ22 => (if r23 = (0 : Int32) then bd (p_X12_fails v1 μ22) (fun r36 μ35 => gd (isB r36) (some (r36, μ35))) else bv (sF μ22 0 4 ((μ22.1 0 4) + (1 : Int32))) (fun μ25 => gd (inb (μ25.1 0 27) 73) (bv (sF μ25 11 (μ25.1 0 27).toNatClampNeg v7) (fun μ26 => bd (p_X12_readExpression μ26) (fun r28 μ27 => (if r28 = (0 : Int32) then some ((0 : Int32), μ27) else bd (p_X12_takes (59 : Int32) μ27) (fun r31 μ30 => (if r31 = (0 : Int32) then some ((0 : Int32), μ30) else gd (inb (μ30.1 0 27) 73) (gd (inb (μ30.1 0 27) 73) (bv (sF μ30 15 (μ30.1 0 27).toNatClampNeg ((μ30.1 0 28) - (μ30.1 14 (μ30.1 0 27).toNatClampNeg))) (fun μ33 => bv (sF μ33 0 27 ((μ33.1 0 27) + (1 : Int32))) (fun μ34 => some ((1 : Int32), μ34))))))))))))))) else bd (p_X12_fails (μ19.1 0 4) μ19) (fun r39 μ38 => gd (isB r39) (some (r39, μ38))))))))))))))))))), fun _ => rfl⟩
noncomputable def p_X12_readFunction : Mem → Option (Int32 × Mem) := Classical.choose p_X12_readFunction_ex
theorem p_X12_readFunction_eq  (μ : Mem) : p_X12_readFunction  μ = bv (μ.1 0 4) (fun v1 => bd (p_X12_here μ) (fun r3 μ2 => (if (s_X12_isFunctionLetter r3) = (0 : Int32) then bd (p_X12_fails (μ2.1 0 4) μ2) (fun r42 μ41 => gd (isB r42) (some (r42, μ41))) else bd (p_X12_here μ2) (fun r6 μ5 => bv ((r6 - (97 : Int32)) + (1 : Int32)) (fun v7 => bv (sF μ5 0 4 ((μ5.1 0 4) + (1 : Int32))) (fun μ8 => gd (inb (μ8.1 0 27) 73) (bv (sF μ8 14 (μ8.1 0 27).toNatClampNeg (μ8.1 0 28)) (fun μ9 => bd (p_X12_takes (40 : Int32) μ9) (fun r11 μ10 => (if r11 = (0 : Int32) then some ((0 : Int32), μ10) else bd (p_X12_readVars μ10) (fun r14 μ13 => (if r14 = (0 : Int32) then some ((0 : Int32), μ13) else bd (p_X12_takes (41 : Int32) μ13) (fun r17 μ16 => (if r17 = (0 : Int32) then some ((0 : Int32), μ16) else bd (p_X12_here μ16) (fun r20 μ19 => (if r20 = (61 : Int32) then gd (inb (μ19.1 0 27) 73) (bd (p_X12_isNew v7 (μ19.1 12 (μ19.1 0 27).toNatClampNeg) μ19) (fun r23 μ22 => (if r23 = (0 : Int32) then bd (p_X12_fails v1 μ22) (fun r36 μ35 => gd (isB r36) (some (r36, μ35))) else bv (sF μ22 0 4 ((μ22.1 0 4) + (1 : Int32))) (fun μ25 => gd (inb (μ25.1 0 27) 73) (bv (sF μ25 11 (μ25.1 0 27).toNatClampNeg v7) (fun μ26 => bd (p_X12_readExpression μ26) (fun r28 μ27 => (if r28 = (0 : Int32) then some ((0 : Int32), μ27) else bd (p_X12_takes (59 : Int32) μ27) (fun r31 μ30 => (if r31 = (0 : Int32) then some ((0 : Int32), μ30) else gd (inb (μ30.1 0 27) 73) (gd (inb (μ30.1 0 27) 73) (bv (sF μ30 15 (μ30.1 0 27).toNatClampNeg ((μ30.1 0 28) - (μ30.1 14 (μ30.1 0 27).toNatClampNeg))) (fun μ33 => bv (sF μ33 0 27 ((μ33.1 0 27) + (1 : Int32))) (fun μ34 => some ((1 : Int32), μ34))))))))))))))) else bd (p_X12_fails (μ19.1 0 4) μ19) (fun r39 μ38 => gd (isB r39) (some (r39, μ38))))))))))))))))))) := Classical.choose_spec p_X12_readFunction_ex  μ
set_option maxHeartbeats 4000000 in
set_option maxRecDepth 100000 in
theorem t_X12_readFunction (l : Launch) (G : Gt) (ad : Nat → Nat)  (μ : Mem) {r : Int32} {μz : Mem} (h : p_X12_readFunction  μ = some (r, μz)) : Mt l yX12_readFunction cX12_readFunction 3 (some .boolean) ({ frames := 6, cells := 0, slots := 0, locals := 135 } : Room) G [.ref (ad 0)] (wd 1 G ad μ) (eI 1 G ad r μz) := by
  refine Bk.mt (by decide) rfl (Nat.le_of_ble_eq_true rfl) ?_
  intro p e s m below meth c A ls H locs cx hr hlk hA hl hw
  have hx := cx.1
  have hb := cx.2.1
  have hl : lv_has ls 3 [(0, .ref (ad 0))] := hl
  rw [p_X12_readFunction_eq] at h
  refine lv_aload_n hx hb dX12_readFunction_0 rfl (lv_at hl 0 rfl) ?_
  refine g_get cx hw inX12 (ci := 11) rfl 4 (by decide) rfl (v := .int (μ.1 0 4)) shm_0 rfl fl_X12_362 dX12_readFunction_1 ?_
  obtain ⟨v1, ev1, h⟩ := bv_ex h
  refine lv_topi (fun y9 z9 => ?_)
  obtain rfl : v1 = y9 := ev1.trans z9.symm
  refine lv_istore_n (lv' := [(1, .int v1), (0, .ref (ad 0))]) hx hb dX12_readFunction_4 rfl hl (by decide) rfl (fun ls hl => ?_)
  refine lv_aload_n hx hb dX12_readFunction_5 rfl (lv_at hl 1 rfl) ?_
  obtain ⟨r3, μ2, gr3, h⟩ := bd_some h
  refine g_callVI (As := []) (rest := []) cx hw hA (t_X12_here l G ad μ gr3) shm_0 rfl ml_X12_365 im_X12_here se_X12_here in_X12 co_X12_here rfl hd_X12_here rfl ⟨(Nat.le_of_ble_eq_true rfl), (Nat.le_of_ble_eq_true rfl)⟩ hl.1 rfl (Nat.le_of_ble_eq_true rfl) dX12_readFunction_6 ⟨rfl, rfl⟩ (fun H locs hw => ?_)
  refine s_callI (As := [.int r3]) (rest := []) cx hw hA (t_X12_isFunctionLetter l G r3) ml_X12_406 st_X12_isFunctionLetter in_X12 co_X12_isFunctionLetter hd_X12_isFunctionLetter rfl ⟨(Nat.le_of_ble_eq_true rfl), (Nat.le_of_ble_eq_true rfl)⟩ hl.1 rfl (Nat.le_of_ble_eq_true rfl) dX12_readFunction_9 rfl (fun H locs hw => ?_)
  refine lv_if_ne (tgt := 24) hx hb dX12_readFunction_12 (by decide) (fun c4 => ?_) (fun c4 => ?_)
  · rw [if_neg c4] at h
    refine lv_aload_n hx hb dX12_readFunction_24 rfl (lv_at hl 1 rfl) ?_
    obtain ⟨r6, μ5, gr6, h⟩ := bd_some h
    refine g_callVI (As := []) (rest := []) cx hw hA (t_X12_here l G ad μ2 gr6) shm_0 rfl ml_X12_365 im_X12_here se_X12_here in_X12 co_X12_here rfl hd_X12_here rfl ⟨(Nat.le_of_ble_eq_true rfl), (Nat.le_of_ble_eq_true rfl)⟩ hl.1 rfl (Nat.le_of_ble_eq_true rfl) dX12_readFunction_25 ⟨rfl, rfl⟩ (fun H locs hw => ?_)
    refine lv_bipush (v := 97) hx hb dX12_readFunction_28 (by decide) ?_
    refine lv_isub hx hb dX12_readFunction_30 ?_
    refine lv_iconst (v := 1) hx hb dX12_readFunction_31 (by decide) ?_
    refine lv_iadd hx hb dX12_readFunction_32 ?_
    obtain ⟨v7, ev7, h⟩ := bv_ex h
    refine lv_topi (fun y9 z9 => ?_)
    obtain rfl : v7 = y9 := ev7.trans z9.symm
    refine lv_istore_n (lv' := [(2, .int v7), (1, .int v1), (0, .ref (ad 0))]) hx hb dX12_readFunction_33 rfl hl (by decide) rfl (fun ls hl => ?_)
    refine lv_aload_n hx hb dX12_readFunction_34 rfl (lv_at hl 2 rfl) ?_
    refine lv_dup hx hb dX12_readFunction_35 rfl ?_
    refine g_get cx hw inX12 (ci := 11) rfl 4 (by decide) rfl (v := .int (μ5.1 0 4)) shm_0 rfl fl_X12_362 dX12_readFunction_36 ?_
    refine lv_iconst (v := 1) hx hb dX12_readFunction_39 (by decide) ?_
    refine lv_iadd hx hb dX12_readFunction_40 ?_
    refine g_put cx hw inX12 (ci := 11) rfl tyX12_ok nmX12 4 (by decide) rfl rfl rfl rfl shm_0 h fl_X12_362 dX12_readFunction_41 (fun μ8 H locs h hw => ?_)
    refine lv_aload_n hx hb dX12_readFunction_44 rfl (lv_at hl 2 rfl) ?_
    refine g_get cx hw inX12 (ci := 11) rfl 22 (by decide) rfl (v := .ref (ad 14)) shm_0 rfl fl_X12_54 dX12_readFunction_45 ?_
    refine lv_aload_n hx hb dX12_readFunction_48 rfl (lv_at hl 2 rfl) ?_
    refine g_get cx hw inX12 (ci := 11) rfl 27 (by decide) rfl (v := .int (μ8.1 0 27)) shm_0 rfl fl_X12_413 dX12_readFunction_49 ?_
    refine lv_aload_n hx hb dX12_readFunction_52 rfl (lv_at hl 2 rfl) ?_
    refine g_get cx hw inX12 (ci := 11) rfl 28 (by decide) rfl (v := .int (μ8.1 0 28)) shm_0 rfl fl_X12_387 dX12_readFunction_53 ?_
    refine g_iast cx hw shm_14 h dX12_readFunction_56 (fun μ9 H locs h hw => ?_)
    refine lv_aload_n hx hb dX12_readFunction_57 rfl (lv_at hl 2 rfl) ?_
    refine lv_bipush (v := 40) hx hb dX12_readFunction_58 (by decide) ?_
    obtain ⟨r11, μ10, gr11, h⟩ := bd_some h
    refine g_callVI (As := [.int 40]) (rest := []) cx hw hA (t_X12_takes l G ad (40 : Int32) μ9 gr11) shm_0 rfl ml_X12_422 im_X12_takes se_X12_takes in_X12 co_X12_takes rfl hd_X12_takes rfl ⟨(Nat.le_of_ble_eq_true rfl), (Nat.le_of_ble_eq_true rfl)⟩ hl.1 rfl (Nat.le_of_ble_eq_true rfl) dX12_readFunction_60 ⟨rfl, rfl⟩ (fun H locs hw => ?_)
    refine lv_if_eq (tgt := 82) hx hb dX12_readFunction_63 (by decide) (fun c12 => ?_) (fun c12 => ?_)
    · rw [if_pos c12] at h
      refine lv_iconst (v := 0) hx hb dX12_readFunction_82 (by decide) ?_
      exact g_zret cx hr hlk rfl hw h dX12_readFunction_83
    · rw [if_neg c12] at h
      refine lv_aload_n hx hb dX12_readFunction_66 rfl (lv_at hl 2 rfl) ?_
      obtain ⟨r14, μ13, gr14, h⟩ := bd_some h
      refine g_callVI (As := []) (rest := []) cx hw hA (t_X12_readVars l G ad μ10 gr14) shm_0 rfl ml_X12_443 im_X12_readVars se_X12_readVars in_X12 co_X12_readVars rfl hd_X12_readVars rfl ⟨(Nat.le_of_ble_eq_true rfl), (Nat.le_of_ble_eq_true rfl)⟩ hl.1 rfl (Nat.le_of_ble_eq_true rfl) dX12_readFunction_67 ⟨rfl, rfl⟩ (fun H locs hw => ?_)
      refine lv_if_eq (tgt := 82) hx hb dX12_readFunction_70 (by decide) (fun c15 => ?_) (fun c15 => ?_)
      · rw [if_pos c15] at h
        refine lv_iconst (v := 0) hx hb dX12_readFunction_82 (by decide) ?_
        exact g_zret cx hr hlk rfl hw h dX12_readFunction_83
      · rw [if_neg c15] at h
        refine lv_aload_n hx hb dX12_readFunction_73 rfl (lv_at hl 2 rfl) ?_
        refine lv_bipush (v := 41) hx hb dX12_readFunction_74 (by decide) ?_
        obtain ⟨r17, μ16, gr17, h⟩ := bd_some h
        refine g_callVI (As := [.int 41]) (rest := []) cx hw hA (t_X12_takes l G ad (41 : Int32) μ13 gr17) shm_0 rfl ml_X12_422 im_X12_takes se_X12_takes in_X12 co_X12_takes rfl hd_X12_takes rfl ⟨(Nat.le_of_ble_eq_true rfl), (Nat.le_of_ble_eq_true rfl)⟩ hl.1 rfl (Nat.le_of_ble_eq_true rfl) dX12_readFunction_76 ⟨rfl, rfl⟩ (fun H locs hw => ?_)
        refine lv_if_ne (tgt := 84) hx hb dX12_readFunction_79 (by decide) (fun c18 => ?_) (fun c18 => ?_)
        · rw [if_neg c18] at h
          refine lv_aload_n hx hb dX12_readFunction_84 rfl (lv_at hl 2 rfl) ?_
          obtain ⟨r20, μ19, gr20, h⟩ := bd_some h
          refine g_callVI (As := []) (rest := []) cx hw hA (t_X12_here l G ad μ16 gr20) shm_0 rfl ml_X12_365 im_X12_here se_X12_here in_X12 co_X12_here rfl hd_X12_here rfl ⟨(Nat.le_of_ble_eq_true rfl), (Nat.le_of_ble_eq_true rfl)⟩ hl.1 rfl (Nat.le_of_ble_eq_true rfl) dX12_readFunction_85 ⟨rfl, rfl⟩ (fun H locs hw => ?_)
          refine lv_bipush (v := 61) hx hb dX12_readFunction_88 (by decide) ?_
          refine lv_icmp_eq (tgt := 102) hx hb dX12_readFunction_90 (by decide) (fun c21 => ?_) (fun c21 => ?_)
          · rw [if_pos c21] at h
            refine lv_aload_n hx hb dX12_readFunction_102 rfl (lv_at hl 2 rfl) ?_
            refine lv_iload_n hx hb dX12_readFunction_103 rfl (lv_at hl 0 rfl) ?_
            refine lv_aload_n hx hb dX12_readFunction_104 rfl (lv_at hl 2 rfl) ?_
            refine g_get cx hw inX12 (ci := 11) rfl 20 (by decide) rfl (v := .ref (ad 12)) shm_0 rfl fl_X12_48 dX12_readFunction_105 ?_
            refine lv_aload_n hx hb dX12_readFunction_108 rfl (lv_at hl 2 rfl) ?_
            refine g_get cx hw inX12 (ci := 11) rfl 27 (by decide) rfl (v := .int (μ19.1 0 27)) shm_0 rfl fl_X12_413 dX12_readFunction_109 ?_
            refine g_iald cx hw shm_12 h dX12_readFunction_112 (fun h => ?_)
            obtain ⟨r23, μ22, gr23, h⟩ := bd_some h
            refine g_callVI (As := [.int v7, .int (μ19.1 12 (μ19.1 0 27).toNatClampNeg)]) (rest := []) cx hw hA (t_X12_isNew l G ad v7 (μ19.1 12 (μ19.1 0 27).toNatClampNeg) μ19 gr23) shm_0 rfl ml_X12_446 im_X12_isNew se_X12_isNew in_X12 co_X12_isNew rfl hd_X12_isNew rfl ⟨(Nat.le_of_ble_eq_true rfl), (Nat.le_of_ble_eq_true rfl)⟩ hl.1 rfl (Nat.le_of_ble_eq_true rfl) dX12_readFunction_113 ⟨rfl, rfl⟩ (fun H locs hw => ?_)
            refine lv_if_ne (tgt := 125) hx hb dX12_readFunction_116 (by decide) (fun c24 => ?_) (fun c24 => ?_)
            · rw [if_neg c24] at h
              refine lv_aload_n hx hb dX12_readFunction_125 rfl (lv_at hl 2 rfl) ?_
              refine lv_dup hx hb dX12_readFunction_126 rfl ?_
              refine g_get cx hw inX12 (ci := 11) rfl 4 (by decide) rfl (v := .int (μ22.1 0 4)) shm_0 rfl fl_X12_362 dX12_readFunction_127 ?_
              refine lv_iconst (v := 1) hx hb dX12_readFunction_130 (by decide) ?_
              refine lv_iadd hx hb dX12_readFunction_131 ?_
              refine g_put cx hw inX12 (ci := 11) rfl tyX12_ok nmX12 4 (by decide) rfl rfl rfl rfl shm_0 h fl_X12_362 dX12_readFunction_132 (fun μ25 H locs h hw => ?_)
              refine lv_aload_n hx hb dX12_readFunction_135 rfl (lv_at hl 2 rfl) ?_
              refine g_get cx hw inX12 (ci := 11) rfl 19 (by decide) rfl (v := .ref (ad 11)) shm_0 rfl fl_X12_45 dX12_readFunction_136 ?_
              refine lv_aload_n hx hb dX12_readFunction_139 rfl (lv_at hl 2 rfl) ?_
              refine g_get cx hw inX12 (ci := 11) rfl 27 (by decide) rfl (v := .int (μ25.1 0 27)) shm_0 rfl fl_X12_413 dX12_readFunction_140 ?_
              refine lv_iload_n hx hb dX12_readFunction_143 rfl (lv_at hl 0 rfl) ?_
              refine g_iast cx hw shm_11 h dX12_readFunction_144 (fun μ26 H locs h hw => ?_)
              refine lv_aload_n hx hb dX12_readFunction_145 rfl (lv_at hl 2 rfl) ?_
              obtain ⟨r28, μ27, gr28, h⟩ := bd_some h
              refine g_callVI (As := []) (rest := []) cx hw hA (t_X12_readExpression l G ad μ26 gr28) shm_0 rfl ml_X12_449 im_X12_readExpression se_X12_readExpression in_X12 co_X12_readExpression rfl hd_X12_readExpression rfl ⟨(Nat.le_of_ble_eq_true rfl), (Nat.le_of_ble_eq_true rfl)⟩ hl.1 rfl (Nat.le_of_ble_eq_true rfl) dX12_readFunction_146 ⟨rfl, rfl⟩ (fun H locs hw => ?_)
              refine lv_if_eq (tgt := 161) hx hb dX12_readFunction_149 (by decide) (fun c29 => ?_) (fun c29 => ?_)
              · rw [if_pos c29] at h
                refine lv_iconst (v := 0) hx hb dX12_readFunction_161 (by decide) ?_
                exact g_zret cx hr hlk rfl hw h dX12_readFunction_162
              · rw [if_neg c29] at h
                refine lv_aload_n hx hb dX12_readFunction_152 rfl (lv_at hl 2 rfl) ?_
                refine lv_bipush (v := 59) hx hb dX12_readFunction_153 (by decide) ?_
                obtain ⟨r31, μ30, gr31, h⟩ := bd_some h
                refine g_callVI (As := [.int 59]) (rest := []) cx hw hA (t_X12_takes l G ad (59 : Int32) μ27 gr31) shm_0 rfl ml_X12_422 im_X12_takes se_X12_takes in_X12 co_X12_takes rfl hd_X12_takes rfl ⟨(Nat.le_of_ble_eq_true rfl), (Nat.le_of_ble_eq_true rfl)⟩ hl.1 rfl (Nat.le_of_ble_eq_true rfl) dX12_readFunction_155 ⟨rfl, rfl⟩ (fun H locs hw => ?_)
                refine lv_if_ne (tgt := 163) hx hb dX12_readFunction_158 (by decide) (fun c32 => ?_) (fun c32 => ?_)
                · rw [if_neg c32] at h
                  refine lv_aload_n hx hb dX12_readFunction_163 rfl (lv_at hl 2 rfl) ?_
                  refine g_get cx hw inX12 (ci := 11) rfl 23 (by decide) rfl (v := .ref (ad 15)) shm_0 rfl fl_X12_57 dX12_readFunction_164 ?_
                  refine lv_aload_n hx hb dX12_readFunction_167 rfl (lv_at hl 2 rfl) ?_
                  refine g_get cx hw inX12 (ci := 11) rfl 27 (by decide) rfl (v := .int (μ30.1 0 27)) shm_0 rfl fl_X12_413 dX12_readFunction_168 ?_
                  refine lv_aload_n hx hb dX12_readFunction_171 rfl (lv_at hl 2 rfl) ?_
                  refine g_get cx hw inX12 (ci := 11) rfl 28 (by decide) rfl (v := .int (μ30.1 0 28)) shm_0 rfl fl_X12_387 dX12_readFunction_172 ?_
                  refine lv_aload_n hx hb dX12_readFunction_175 rfl (lv_at hl 2 rfl) ?_
                  refine g_get cx hw inX12 (ci := 11) rfl 22 (by decide) rfl (v := .ref (ad 14)) shm_0 rfl fl_X12_54 dX12_readFunction_176 ?_
                  refine lv_aload_n hx hb dX12_readFunction_179 rfl (lv_at hl 2 rfl) ?_
                  refine g_get cx hw inX12 (ci := 11) rfl 27 (by decide) rfl (v := .int (μ30.1 0 27)) shm_0 rfl fl_X12_413 dX12_readFunction_180 ?_
                  refine g_iald cx hw shm_14 h dX12_readFunction_183 (fun h => ?_)
                  refine lv_isub hx hb dX12_readFunction_184 ?_
                  refine g_iast cx hw shm_15 h dX12_readFunction_185 (fun μ33 H locs h hw => ?_)
                  refine lv_aload_n hx hb dX12_readFunction_186 rfl (lv_at hl 2 rfl) ?_
                  refine lv_dup hx hb dX12_readFunction_187 rfl ?_
                  refine g_get cx hw inX12 (ci := 11) rfl 27 (by decide) rfl (v := .int (μ33.1 0 27)) shm_0 rfl fl_X12_413 dX12_readFunction_188 ?_
                  refine lv_iconst (v := 1) hx hb dX12_readFunction_191 (by decide) ?_
                  refine lv_iadd hx hb dX12_readFunction_192 ?_
                  refine g_put cx hw inX12 (ci := 11) rfl tyX12_ok nmX12 27 (by decide) rfl rfl rfl rfl shm_0 h fl_X12_413 dX12_readFunction_193 (fun μ34 H locs h hw => ?_)
                  refine lv_iconst (v := 1) hx hb dX12_readFunction_196 (by decide) ?_
                  exact g_zret cx hr hlk rfl hw h dX12_readFunction_197
                · rw [if_pos c32] at h
                  refine lv_iconst (v := 0) hx hb dX12_readFunction_161 (by decide) ?_
                  exact g_zret cx hr hlk rfl hw h dX12_readFunction_162
            · rw [if_pos c24] at h
              refine lv_aload_n hx hb dX12_readFunction_119 rfl (lv_at hl 2 rfl) ?_
              refine lv_iload_n hx hb dX12_readFunction_120 rfl (lv_at hl 1 rfl) ?_
              obtain ⟨r36, μ35, gr36, h⟩ := bd_some h
              refine g_callVI (As := [.int v1]) (rest := []) cx hw hA (t_X12_fails l G ad v1 μ22 gr36) shm_0 rfl ml_X12_369 im_X12_fails se_X12_fails in_X12 co_X12_fails rfl hd_X12_fails rfl ⟨(Nat.le_of_ble_eq_true rfl), (Nat.le_of_ble_eq_true rfl)⟩ hl.1 rfl (Nat.le_of_ble_eq_true rfl) dX12_readFunction_121 ⟨rfl, rfl⟩ (fun H locs hw => ?_)
              obtain ⟨c37, h⟩ := gd_some h
              exact g_zret cx hr hlk (isB_n c37) hw h dX12_readFunction_124
          · rw [if_neg c21] at h
            refine lv_aload_n hx hb dX12_readFunction_93 rfl (lv_at hl 2 rfl) ?_
            refine lv_aload_n hx hb dX12_readFunction_94 rfl (lv_at hl 2 rfl) ?_
            refine g_get cx hw inX12 (ci := 11) rfl 4 (by decide) rfl (v := .int (μ19.1 0 4)) shm_0 rfl fl_X12_362 dX12_readFunction_95 ?_
            obtain ⟨r39, μ38, gr39, h⟩ := bd_some h
            refine g_callVI (As := [.int (μ19.1 0 4)]) (rest := []) cx hw hA (t_X12_fails l G ad (μ19.1 0 4) μ19 gr39) shm_0 rfl ml_X12_369 im_X12_fails se_X12_fails in_X12 co_X12_fails rfl hd_X12_fails rfl ⟨(Nat.le_of_ble_eq_true rfl), (Nat.le_of_ble_eq_true rfl)⟩ hl.1 rfl (Nat.le_of_ble_eq_true rfl) dX12_readFunction_98 ⟨rfl, rfl⟩ (fun H locs hw => ?_)
            obtain ⟨c40, h⟩ := gd_some h
            exact g_zret cx hr hlk (isB_n c40) hw h dX12_readFunction_101
        · rw [if_pos c18] at h
          refine lv_iconst (v := 0) hx hb dX12_readFunction_82 (by decide) ?_
          exact g_zret cx hr hlk rfl hw h dX12_readFunction_83
  · rw [if_pos c4] at h
    refine lv_aload_n hx hb dX12_readFunction_15 rfl (lv_at hl 1 rfl) ?_
    refine lv_aload_n hx hb dX12_readFunction_16 rfl (lv_at hl 1 rfl) ?_
    refine g_get cx hw inX12 (ci := 11) rfl 4 (by decide) rfl (v := .int (μ2.1 0 4)) shm_0 rfl fl_X12_362 dX12_readFunction_17 ?_
    obtain ⟨r42, μ41, gr42, h⟩ := bd_some h
    refine g_callVI (As := [.int (μ2.1 0 4)]) (rest := []) cx hw hA (t_X12_fails l G ad (μ2.1 0 4) μ2 gr42) shm_0 rfl ml_X12_369 im_X12_fails se_X12_fails in_X12 co_X12_fails rfl hd_X12_fails rfl ⟨(Nat.le_of_ble_eq_true rfl), (Nat.le_of_ble_eq_true rfl)⟩ hl.1 rfl (Nat.le_of_ble_eq_true rfl) dX12_readFunction_20 ⟨rfl, rfl⟩ (fun H locs hw => ?_)
    obtain ⟨c43, h⟩ := gd_some h
    exact g_zret cx hr hlk (isB_n c43) hw h dX12_readFunction_23

theorem p_X12_readProgram_b14_ex : ∃ f : Nat → Mem → Option (Int32 × Mem), (∀  (μ : Mem), f  0  μ = none) ∧ (∀ (n : Nat)  (μ : Mem), f  (n + 1)  μ = (if (μ.1 0 3) ≤ (μ.1 0 4) then some ((1 : Int32), μ) else bd (p_X12_readFunction μ) (fun r7 μ6 => (if r7 = (0 : Int32) then some ((0 : Int32), μ6) else f n μ6)))) := ⟨fun n => Nat.rec (fun  (μ : Mem) => none) (fun _ ih => fun  (μ : Mem) => (if (μ.1 0 3) ≤ (μ.1 0 4) then some ((1 : Int32), μ) else bd (p_X12_readFunction μ) (fun r7 μ6 => (if r7 = (0 : Int32) then some ((0 : Int32), μ6) else ih μ6)))) n, fun   _ => rfl, fun  _  _ => rfl⟩
noncomputable def p_X12_readProgram_b14 : Nat → Mem → Option (Int32 × Mem) := Classical.choose p_X12_readProgram_b14_ex
theorem p_X12_readProgram_b14_z  (μ : Mem) : p_X12_readProgram_b14  0  μ = none := (Classical.choose_spec p_X12_readProgram_b14_ex).1   μ
theorem p_X12_readProgram_b14_s (n : Nat)  (μ : Mem) : p_X12_readProgram_b14  (n + 1)  μ = (if (μ.1 0 3) ≤ (μ.1 0 4) then some ((1 : Int32), μ) else bd (p_X12_readFunction μ) (fun r7 μ6 => (if r7 = (0 : Int32) then some ((0 : Int32), μ6) else p_X12_readProgram_b14  n μ6))) := (Classical.choose_spec p_X12_readProgram_b14_ex).2  n  μ
set_option maxHeartbeats 4000000 in
set_option maxRecDepth 100000 in
theorem t_X12_readProgram_b14 (l : Launch) (G : Gt) (ad : Nat → Nat) (av : List Value) {r : Int32} {μz : Mem} : ∀ (n : Nat)  (μ : Mem), p_X12_readProgram_b14  n  μ = some (r, μz) → Bk l cX12_readProgram 1 RX12 (some .boolean) ({ frames := 7, cells := 0, slots := 0, locals := 157 } : Room) G av (eI 1 G ad r μz) (wd 1 G ad μ) 14 [(0, .ref (ad 0))] [] := by
  intro n
  induction n with
  | zero => intro  μ h; rw [p_X12_readProgram_b14_z] at h; cases h
  | succ n ih =>
    intro  μ h p e s m below meth c A ls H locs cx hr hlk hA hl hw
    have hx := cx.1
    have hb := cx.2.1
    rw [p_X12_readProgram_b14_s] at h
    refine lv_aload_n hx hb dX12_readProgram_14 rfl (lv_at hl 0 rfl) ?_
    refine g_get cx hw inX12 (ci := 11) rfl 4 (by decide) rfl (v := .int (μ.1 0 4)) shm_0 rfl fl_X12_362 dX12_readProgram_15 ?_
    refine lv_aload_n hx hb dX12_readProgram_18 rfl (lv_at hl 0 rfl) ?_
    refine g_get cx hw inX12 (ci := 11) rfl 3 (by decide) rfl (v := .int (μ.1 0 3)) shm_0 rfl fl_X12_352 dX12_readProgram_19 ?_
    refine lv_icmp_ge (tgt := 34) hx hb dX12_readProgram_22 (by decide) (fun c5 => ?_) (fun c5 => ?_)
    · rw [if_pos c5] at h
      refine lv_iconst (v := 1) hx hb dX12_readProgram_34 (by decide) ?_
      exact g_zret cx hr hlk rfl hw h dX12_readProgram_35
    · rw [if_neg c5] at h
      refine lv_aload_n hx hb dX12_readProgram_25 rfl (lv_at hl 0 rfl) ?_
      obtain ⟨r7, μ6, gr7, h⟩ := bd_some h
      refine g_callVI (As := []) (rest := []) cx hw hA (t_X12_readFunction l G ad μ gr7) shm_0 rfl ml_X12_455 im_X12_readFunction se_X12_readFunction in_X12 co_X12_readFunction rfl hd_X12_readFunction rfl ⟨(Nat.le_of_ble_eq_true rfl), (Nat.le_of_ble_eq_true rfl)⟩ hl.1 rfl (Nat.le_of_ble_eq_true rfl) dX12_readProgram_26 ⟨rfl, rfl⟩ (fun H locs hw => ?_)
      refine lv_if_ne (tgt := 14) hx hb dX12_readProgram_29 (by decide) (fun c8 => ?_) (fun c8 => ?_)
      · rw [if_neg c8] at h
        exact ih μ6 h p e s m below meth c A ls H locs cx hr hlk hA (lv_sub hl [0] rfl) hw
      · rw [if_pos c8] at h
        refine lv_iconst (v := 0) hx hb dX12_readProgram_32 (by decide) ?_
        exact g_zret cx hr hlk rfl hw h dX12_readProgram_33
theorem p_X12_readProgram_ex : ∃ f : Mem → Option (Int32 × Mem), ∀  (μ : Mem), f  μ = bw (p_X12_beginText μ) (fun μ1 => bv (sF μ1 0 27 (0 : Int32)) (fun μ3 => bv (sF μ3 0 28 (0 : Int32)) (fun μ4 => p_X12_readProgram_b14  FUEL μ4))) := ⟨fun  (μ : Mem) => bw (p_X12_beginText μ) (fun μ1 => bv (sF μ1 0 27 (0 : Int32)) (fun μ3 => bv (sF μ3 0 28 (0 : Int32)) (fun μ4 => p_X12_readProgram_b14  FUEL μ4))), fun _ => rfl⟩
noncomputable def p_X12_readProgram : Mem → Option (Int32 × Mem) := Classical.choose p_X12_readProgram_ex
theorem p_X12_readProgram_eq  (μ : Mem) : p_X12_readProgram  μ = bw (p_X12_beginText μ) (fun μ1 => bv (sF μ1 0 27 (0 : Int32)) (fun μ3 => bv (sF μ3 0 28 (0 : Int32)) (fun μ4 => p_X12_readProgram_b14  FUEL μ4))) := Classical.choose_spec p_X12_readProgram_ex  μ
set_option maxHeartbeats 4000000 in
set_option maxRecDepth 100000 in
theorem t_X12_readProgram (l : Launch) (G : Gt) (ad : Nat → Nat)  (μ : Mem) {r : Int32} {μz : Mem} (h : p_X12_readProgram  μ = some (r, μz)) : Mt l yX12_readProgram cX12_readProgram 1 (some .boolean) ({ frames := 7, cells := 0, slots := 0, locals := 157 } : Room) G [.ref (ad 0)] (wd 1 G ad μ) (eI 1 G ad r μz) := by
  refine Bk.mt (by decide) rfl (Nat.le_of_ble_eq_true rfl) ?_
  intro p e s m below meth c A ls H locs cx hr hlk hA hl hw
  have hx := cx.1
  have hb := cx.2.1
  have hl : lv_has ls 1 [(0, .ref (ad 0))] := hl
  rw [p_X12_readProgram_eq] at h
  refine lv_aload_n hx hb dX12_readProgram_0 rfl (lv_at hl 0 rfl) ?_
  obtain ⟨μ1, gμ1, h⟩ := bw_some h
  refine g_callVV (As := []) (rest := []) cx hw hA (t_X12_beginText l G ad μ gμ1) shm_0 rfl ml_X12_452 im_X12_beginText se_X12_beginText in_X12 co_X12_beginText rfl hd_X12_beginText rfl ⟨(Nat.le_of_ble_eq_true rfl), (Nat.le_of_ble_eq_true rfl)⟩ hl.1 rfl (Nat.le_of_ble_eq_true rfl) dX12_readProgram_1 ⟨rfl, rfl⟩ (fun H locs hw => ?_)
  refine lv_aload_n hx hb dX12_readProgram_4 rfl (lv_at hl 0 rfl) ?_
  refine lv_iconst (v := 0) hx hb dX12_readProgram_5 (by decide) ?_
  refine g_put cx hw inX12 (ci := 11) rfl tyX12_ok nmX12 27 (by decide) rfl rfl rfl rfl shm_0 h fl_X12_413 dX12_readProgram_6 (fun μ3 H locs h hw => ?_)
  refine lv_aload_n hx hb dX12_readProgram_9 rfl (lv_at hl 0 rfl) ?_
  refine lv_iconst (v := 0) hx hb dX12_readProgram_10 (by decide) ?_
  refine g_put cx hw inX12 (ci := 11) rfl tyX12_ok nmX12 28 (by decide) rfl rfl rfl rfl shm_0 h fl_X12_387 dX12_readProgram_11 (fun μ4 H locs h hw => ?_)
  exact t_X12_readProgram_b14 l G ad _  FUEL μ4 h p e s m below meth c A ls H locs cx hr hlk hA (lv_sub hl [0] rfl) hw

theorem p_X12_copy_b3_ex : ∃ f : Nat → Nat → Int32 → Int32 → Nat → Int32 → Int32 → Mem → Option Mem, (∀ (a0 : Nat) (a1 : Int32) (a2 : Int32) (a3 : Nat) (a4 : Int32) (a5 : Int32) (μ : Mem), f  0 a0 a1 a2 a3 a4 a5 μ = none) ∧ (∀ (n : Nat) (a0 : Nat) (a1 : Int32) (a2 : Int32) (a3 : Nat) (a4 : Int32) (a5 : Int32) (μ : Mem), f  (n + 1) a0 a1 a2 a3 a4 a5 μ = (if a2 ≤ a5 then some μ else gd (inb (a1 + a5) ((sh 1 a0).2)) (gd (inb (a4 + a5) ((sh 1 a3).2)) (bv (sF μ a3 (a4 + a5).toNatClampNeg (μ.1 a0 (a1 + a5).toNatClampNeg)) (fun μ2 => bv (a5 + 1) (fun v3 => f n a0 a1 a2 a3 a4 v3 μ2)))))) := ⟨fun n => Nat.rec (fun (a0 : Nat) (a1 : Int32) (a2 : Int32) (a3 : Nat) (a4 : Int32) (a5 : Int32) (μ : Mem) => none) (fun _ ih => fun (a0 : Nat) (a1 : Int32) (a2 : Int32) (a3 : Nat) (a4 : Int32) (a5 : Int32) (μ : Mem) => (if a2 ≤ a5 then some μ else gd (inb (a1 + a5) ((sh 1 a0).2)) (gd (inb (a4 + a5) ((sh 1 a3).2)) (bv (sF μ a3 (a4 + a5).toNatClampNeg (μ.1 a0 (a1 + a5).toNatClampNeg)) (fun μ2 => bv (a5 + 1) (fun v3 => ih a0 a1 a2 a3 a4 v3 μ2)))))) n, fun  _ _ _ _ _ _ _ => rfl, fun  _ _ _ _ _ _ _ _ => rfl⟩
noncomputable def p_X12_copy_b3 : Nat → Nat → Int32 → Int32 → Nat → Int32 → Int32 → Mem → Option Mem := Classical.choose p_X12_copy_b3_ex
theorem p_X12_copy_b3_z (a0 : Nat) (a1 : Int32) (a2 : Int32) (a3 : Nat) (a4 : Int32) (a5 : Int32) (μ : Mem) : p_X12_copy_b3  0 a0 a1 a2 a3 a4 a5 μ = none := (Classical.choose_spec p_X12_copy_b3_ex).1  a0 a1 a2 a3 a4 a5 μ
theorem p_X12_copy_b3_s (n : Nat) (a0 : Nat) (a1 : Int32) (a2 : Int32) (a3 : Nat) (a4 : Int32) (a5 : Int32) (μ : Mem) : p_X12_copy_b3  (n + 1) a0 a1 a2 a3 a4 a5 μ = (if a2 ≤ a5 then some μ else gd (inb (a1 + a5) ((sh 1 a0).2)) (gd (inb (a4 + a5) ((sh 1 a3).2)) (bv (sF μ a3 (a4 + a5).toNatClampNeg (μ.1 a0 (a1 + a5).toNatClampNeg)) (fun μ2 => bv (a5 + 1) (fun v3 => p_X12_copy_b3  n a0 a1 a2 a3 a4 v3 μ2))))) := (Classical.choose_spec p_X12_copy_b3_ex).2  n a0 a1 a2 a3 a4 a5 μ
set_option maxHeartbeats 4000000 in
set_option maxRecDepth 100000 in
theorem t_X12_copy_b3 (l : Launch) (G : Gt) (ad : Nat → Nat) (av : List Value) {μz : Mem} : ∀ (n : Nat) (a0 : Nat) (q0 : (sh 1 a0).1 = 1) (a1 : Int32) (a2 : Int32) (a3 : Nat) (q3 : (sh 1 a3).1 = 1) (a4 : Int32) (a5 : Int32) (μ : Mem), p_X12_copy_b3  n a0 a1 a2 a3 a4 a5 μ = some μz → Bk l cX12_copy 6 RX12 none ({ frames := 0, cells := 0, slots := 0, locals := 0 } : Room) G av (eV 1 G ad μz) (wd 1 G ad μ) 3 [(0, .ref (ad a0)), (1, .int a1), (2, .int a2), (3, .ref (ad a3)), (4, .int a4), (5, .int a5)] [] := by
  intro n
  induction n with
  | zero => intro a0 q0 a1 a2 a3 q3 a4 a5 μ h; rw [p_X12_copy_b3_z] at h; cases h
  | succ n ih =>
    intro a0 q0 a1 a2 a3 q3 a4 a5 μ h p e s m below meth c A ls H locs cx hr hlk hA hl hw
    have hx := cx.1
    have hb := cx.2.1
    rw [p_X12_copy_b3_s] at h
    refine lv_iload hx hb dX12_copy_3 (lv_at hl 5 rfl) ?_
    refine lv_iload_n hx hb dX12_copy_5 rfl (lv_at hl 2 rfl) ?_
    refine lv_icmp_ge (tgt := 28) hx hb dX12_copy_6 (by decide) (fun c1 => ?_) (fun c1 => ?_)
    · rw [if_pos c1] at h
      exact g_vret cx hr hlk hw h dX12_copy_28
    · rw [if_neg c1] at h
      refine lv_aload_n hx hb dX12_copy_9 rfl (lv_at hl 3 rfl) ?_
      refine lv_iload hx hb dX12_copy_10 (lv_at hl 4 rfl) ?_
      refine lv_iload hx hb dX12_copy_12 (lv_at hl 5 rfl) ?_
      refine lv_iadd hx hb dX12_copy_14 ?_
      refine lv_aload_n hx hb dX12_copy_15 rfl (lv_at hl 0 rfl) ?_
      refine lv_iload_n hx hb dX12_copy_16 rfl (lv_at hl 1 rfl) ?_
      refine lv_iload hx hb dX12_copy_17 (lv_at hl 5 rfl) ?_
      refine lv_iadd hx hb dX12_copy_19 ?_
      refine g_iald cx hw (sh_k q0) h dX12_copy_20 (fun h => ?_)
      refine g_iast cx hw (sh_k q3) h dX12_copy_21 (fun μ2 H locs h hw => ?_)
      obtain ⟨v3, ev3, h⟩ := bv_ex h
      refine lv_iinc (v := v3) (lv' := [(5, .int v3), (0, .ref (ad a0)), (1, .int a1), (2, .int a2), (3, .ref (ad a3)), (4, .int a4)]) hx hb dX12_copy_22 hl (k := 5) rfl (by rw [ev3]; rfl) (by decide) rfl (fun ls hl => ?_)
      refine lv_goto (tgt := 3) hx hb dX12_copy_25 (by decide) ?_
      exact ih a0 (sh_f (sh_k q0)) a1 a2 a3 (sh_f (sh_k q3)) a4 v3 μ2 h p e s m below meth c A ls H locs cx hr hlk hA (lv_sub hl [1, 2, 3, 4, 5, 0] rfl) hw
theorem p_X12_copy_ex : ∃ f : Nat → Int32 → Int32 → Nat → Int32 → Mem → Option Mem, ∀ (a0 : Nat) (a1 : Int32) (a2 : Int32) (a3 : Nat) (a4 : Int32) (μ : Mem), f a0 a1 a2 a3 a4 μ = p_X12_copy_b3  FUEL a0 a1 a2 a3 a4 (0 : Int32) μ := ⟨fun (a0 : Nat) (a1 : Int32) (a2 : Int32) (a3 : Nat) (a4 : Int32) (μ : Mem) => p_X12_copy_b3  FUEL a0 a1 a2 a3 a4 (0 : Int32) μ, fun _ _ _ _ _ _ => rfl⟩
noncomputable def p_X12_copy : Nat → Int32 → Int32 → Nat → Int32 → Mem → Option Mem := Classical.choose p_X12_copy_ex
theorem p_X12_copy_eq (a0 : Nat) (a1 : Int32) (a2 : Int32) (a3 : Nat) (a4 : Int32) (μ : Mem) : p_X12_copy a0 a1 a2 a3 a4 μ = p_X12_copy_b3  FUEL a0 a1 a2 a3 a4 (0 : Int32) μ := Classical.choose_spec p_X12_copy_ex a0 a1 a2 a3 a4 μ
set_option maxHeartbeats 4000000 in
set_option maxRecDepth 100000 in
theorem t_X12_copy (l : Launch) (G : Gt) (ad : Nat → Nat) (a0 : Nat) (q0 : (sh 1 a0).1 = 1) (a1 : Int32) (a2 : Int32) (a3 : Nat) (q3 : (sh 1 a3).1 = 1) (a4 : Int32) (μ : Mem) {μz : Mem} (h : p_X12_copy a0 a1 a2 a3 a4 μ = some μz) : Mt l yX12_copy cX12_copy 6 none ({ frames := 0, cells := 0, slots := 0, locals := 0 } : Room) G [.ref (ad a0), .int a1, .int a2, .ref (ad a3), .int a4] (wd 1 G ad μ) (eV 1 G ad μz) := by
  refine Bk.mt (by decide) rfl (Nat.le_of_ble_eq_true rfl) ?_
  intro p e s m below meth c A ls H locs cx hr hlk hA hl hw
  have hx := cx.1
  have hb := cx.2.1
  have hl : lv_has ls 6 [(0, .ref (ad a0)), (1, .int a1), (2, .int a2), (3, .ref (ad a3)), (4, .int a4)] := hl
  rw [p_X12_copy_eq] at h
  refine lv_iconst (v := 0) hx hb dX12_copy_0 (by decide) ?_
  refine lv_istore (lv' := [(5, .int 0), (0, .ref (ad a0)), (1, .int a1), (2, .int a2), (3, .ref (ad a3)), (4, .int a4)]) hx hb dX12_copy_1 hl (by decide) rfl (fun ls hl => ?_)
  exact t_X12_copy_b3 l G ad _  FUEL a0 (sh_f (sh_k q0)) a1 a2 a3 (sh_f (sh_k q3)) a4 (0 : Int32) μ h p e s m below meth c A ls H locs cx hr hlk hA (lv_sub hl [1, 2, 3, 4, 5, 0] rfl) hw

theorem p_X12_layBehind_b17_ex : ∃ f : (Int32 → Mem → Option Mem) → Nat → Int32 → Int32 → Int32 → Mem → Option Mem, (∀ (K7 : Int32 → Mem → Option Mem) (a1 : Int32) (a2 : Int32) (a3 : Int32) (μ : Mem), f K7 0 a1 a2 a3 μ = none) ∧ (∀ (K7 : Int32 → Mem → Option Mem) (n : Nat) (a1 : Int32) (a2 : Int32) (a3 : Int32) (μ : Mem), f K7 (n + 1) a1 a2 a3 μ = gd (inb a1 800) ((if (μ.1 9 a1.toNatClampNeg) ≤ a3 then gd (inb a1 800) (bv (sF μ 10 a1.toNatClampNeg a2) (fun μ5 => bv (a1 + (-1)) (fun v6 => K7 v6 μ5))) else gd (inb a2 800) (bv (μ.1 10 a2.toNatClampNeg) (fun v7 => bv (a3 + 1) (fun v8 => f K7 n a1 v7 v8 μ)))))) := ⟨fun (K7 : Int32 → Mem → Option Mem) n => Nat.rec (fun (a1 : Int32) (a2 : Int32) (a3 : Int32) (μ : Mem) => none) (fun _ ih => fun (a1 : Int32) (a2 : Int32) (a3 : Int32) (μ : Mem) => gd (inb a1 800) ((if (μ.1 9 a1.toNatClampNeg) ≤ a3 then gd (inb a1 800) (bv (sF μ 10 a1.toNatClampNeg a2) (fun μ5 => bv (a1 + (-1)) (fun v6 => K7 v6 μ5))) else gd (inb a2 800) (bv (μ.1 10 a2.toNatClampNeg) (fun v7 => bv (a3 + 1) (fun v8 => ih a1 v7 v8 μ)))))) n, fun _ _ _ _ _ => rfl, fun _ _ _ _ _ _ => rfl⟩
noncomputable def p_X12_layBehind_b17 : (Int32 → Mem → Option Mem) → Nat → Int32 → Int32 → Int32 → Mem → Option Mem := Classical.choose p_X12_layBehind_b17_ex
theorem p_X12_layBehind_b17_z (K7 : Int32 → Mem → Option Mem) (a1 : Int32) (a2 : Int32) (a3 : Int32) (μ : Mem) : p_X12_layBehind_b17 K7 0 a1 a2 a3 μ = none := (Classical.choose_spec p_X12_layBehind_b17_ex).1 K7 a1 a2 a3 μ
theorem p_X12_layBehind_b17_s (K7 : Int32 → Mem → Option Mem) (n : Nat) (a1 : Int32) (a2 : Int32) (a3 : Int32) (μ : Mem) : p_X12_layBehind_b17 K7 (n + 1) a1 a2 a3 μ = gd (inb a1 800) ((if (μ.1 9 a1.toNatClampNeg) ≤ a3 then gd (inb a1 800) (bv (sF μ 10 a1.toNatClampNeg a2) (fun μ5 => bv (a1 + (-1)) (fun v6 => K7 v6 μ5))) else gd (inb a2 800) (bv (μ.1 10 a2.toNatClampNeg) (fun v7 => bv (a3 + 1) (fun v8 => p_X12_layBehind_b17 K7 n a1 v7 v8 μ))))) := (Classical.choose_spec p_X12_layBehind_b17_ex).2 K7 n a1 a2 a3 μ
set_option maxHeartbeats 4000000 in
set_option maxRecDepth 100000 in
theorem t_X12_layBehind_b17 (l : Launch) (G : Gt) (ad : Nat → Nat) (av : List Value) {μz : Mem} (K7 : Int32 → Mem → Option Mem) (hK7 : ∀ (z1 : Int32) (μ1 : Mem), K7 z1 μ1 = some μz → Bk l cX12_layBehind 4 RX12 none ({ frames := 0, cells := 0, slots := 0, locals := 0 } : Room) G av (eV 1 G ad μz) (wd 1 G ad μ1) 7 [(0, .ref (ad 0)), (1, .int z1)] []) : ∀ (n : Nat) (a1 : Int32) (a2 : Int32) (a3 : Int32) (μ : Mem), p_X12_layBehind_b17 K7 n a1 a2 a3 μ = some μz → Bk l cX12_layBehind 4 RX12 none ({ frames := 0, cells := 0, slots := 0, locals := 0 } : Room) G av (eV 1 G ad μz) (wd 1 G ad μ) 17 [(0, .ref (ad 0)), (1, .int a1), (2, .int a2), (3, .int a3)] [] := by
  intro n
  induction n with
  | zero => intro a1 a2 a3 μ h; rw [p_X12_layBehind_b17_z] at h; cases h
  | succ n ih =>
    intro a1 a2 a3 μ h p e s m below meth c A ls H locs cx hr hlk hA hl hw
    have hx := cx.1
    have hb := cx.2.1
    rw [p_X12_layBehind_b17_s] at h
    refine lv_iload_n hx hb dX12_layBehind_17 rfl (lv_at hl 3 rfl) ?_
    refine lv_aload_n hx hb dX12_layBehind_18 rfl (lv_at hl 0 rfl) ?_
    refine g_get cx hw inX12 (ci := 11) rfl 15 (by decide) rfl (v := .ref (ad 9)) shm_0 rfl fl_X12_39 dX12_layBehind_19 ?_
    refine lv_iload_n hx hb dX12_layBehind_22 rfl (lv_at hl 1 rfl) ?_
    refine g_iald cx hw shm_9 h dX12_layBehind_23 (fun h => ?_)
    refine lv_icmp_ge (tgt := 40) hx hb dX12_layBehind_24 (by decide) (fun c4 => ?_) (fun c4 => ?_)
    · rw [if_pos c4] at h
      refine lv_aload_n hx hb dX12_layBehind_40 rfl (lv_at hl 0 rfl) ?_
      refine g_get cx hw inX12 (ci := 11) rfl 16 (by decide) rfl (v := .ref (ad 10)) shm_0 rfl fl_X12_42 dX12_layBehind_41 ?_
      refine lv_iload_n hx hb dX12_layBehind_44 rfl (lv_at hl 1 rfl) ?_
      refine lv_iload_n hx hb dX12_layBehind_45 rfl (lv_at hl 2 rfl) ?_
      refine g_iast cx hw shm_10 h dX12_layBehind_46 (fun μ5 H locs h hw => ?_)
      obtain ⟨v6, ev6, h⟩ := bv_ex h
      refine lv_iinc (v := v6) (lv' := [(1, .int v6), (0, .ref (ad 0)), (2, .int a2), (3, .int a3)]) hx hb dX12_layBehind_47 hl (k := 1) rfl (by rw [ev6]; rfl) (by decide) rfl (fun ls hl => ?_)
      refine lv_goto (tgt := 7) hx hb dX12_layBehind_50 (by decide) ?_
      exact hK7 v6 μ5 h p e s m below meth c A ls H locs cx hr hlk hA (lv_sub hl [1, 0] rfl) hw
    · rw [if_neg c4] at h
      refine lv_aload_n hx hb dX12_layBehind_27 rfl (lv_at hl 0 rfl) ?_
      refine g_get cx hw inX12 (ci := 11) rfl 16 (by decide) rfl (v := .ref (ad 10)) shm_0 rfl fl_X12_42 dX12_layBehind_28 ?_
      refine lv_iload_n hx hb dX12_layBehind_31 rfl (lv_at hl 2 rfl) ?_
      refine g_iald cx hw shm_10 h dX12_layBehind_32 (fun h => ?_)
      obtain ⟨v7, ev7, h⟩ := bv_ex h
      refine lv_topi (fun y9 z9 => ?_)
      obtain rfl : v7 = y9 := ev7.trans z9.symm
      refine lv_istore_n (lv' := [(2, .int v7), (0, .ref (ad 0)), (1, .int a1), (3, .int a3)]) hx hb dX12_layBehind_33 rfl hl (by decide) rfl (fun ls hl => ?_)
      obtain ⟨v8, ev8, h⟩ := bv_ex h
      refine lv_iinc (v := v8) (lv' := [(3, .int v8), (2, .int v7), (0, .ref (ad 0)), (1, .int a1)]) hx hb dX12_layBehind_34 hl (k := 3) rfl (by rw [ev8]; rfl) (by decide) rfl (fun ls hl => ?_)
      refine lv_goto (tgt := 17) hx hb dX12_layBehind_37 (by decide) ?_
      exact ih a1 v7 v8 μ h p e s m below meth c A ls H locs cx hr hlk hA (lv_sub hl [2, 3, 1, 0] rfl) hw
theorem p_X12_layBehind_b7_ex : ∃ f : Nat → Int32 → Mem → Option Mem, (∀ (a1 : Int32) (μ : Mem), f  0 a1 μ = none) ∧ (∀ (n : Nat) (a1 : Int32) (μ : Mem), f  (n + 1) a1 μ = (if a1 < (0 : Int32) then some μ else bv (a1 + (1 : Int32)) (fun v3 => p_X12_layBehind_b17 (f n) FUEL a1 v3 (0 : Int32) μ))) := ⟨fun n => Nat.rec (fun (a1 : Int32) (μ : Mem) => none) (fun _ ih => fun (a1 : Int32) (μ : Mem) => (if a1 < (0 : Int32) then some μ else bv (a1 + (1 : Int32)) (fun v3 => p_X12_layBehind_b17 (ih) FUEL a1 v3 (0 : Int32) μ))) n, fun  _ _ => rfl, fun  _ _ _ => rfl⟩
noncomputable def p_X12_layBehind_b7 : Nat → Int32 → Mem → Option Mem := Classical.choose p_X12_layBehind_b7_ex
theorem p_X12_layBehind_b7_z (a1 : Int32) (μ : Mem) : p_X12_layBehind_b7  0 a1 μ = none := (Classical.choose_spec p_X12_layBehind_b7_ex).1  a1 μ
theorem p_X12_layBehind_b7_s (n : Nat) (a1 : Int32) (μ : Mem) : p_X12_layBehind_b7  (n + 1) a1 μ = (if a1 < (0 : Int32) then some μ else bv (a1 + (1 : Int32)) (fun v3 => p_X12_layBehind_b17 (p_X12_layBehind_b7  n) FUEL a1 v3 (0 : Int32) μ)) := (Classical.choose_spec p_X12_layBehind_b7_ex).2  n a1 μ
set_option maxHeartbeats 4000000 in
set_option maxRecDepth 100000 in
theorem t_X12_layBehind_b7 (l : Launch) (G : Gt) (ad : Nat → Nat) (av : List Value) {μz : Mem} : ∀ (n : Nat) (a1 : Int32) (μ : Mem), p_X12_layBehind_b7  n a1 μ = some μz → Bk l cX12_layBehind 4 RX12 none ({ frames := 0, cells := 0, slots := 0, locals := 0 } : Room) G av (eV 1 G ad μz) (wd 1 G ad μ) 7 [(0, .ref (ad 0)), (1, .int a1)] [] := by
  intro n
  induction n with
  | zero => intro a1 μ h; rw [p_X12_layBehind_b7_z] at h; cases h
  | succ n ih =>
    intro a1 μ h p e s m below meth c A ls H locs cx hr hlk hA hl hw
    have hx := cx.1
    have hb := cx.2.1
    rw [p_X12_layBehind_b7_s] at h
    refine lv_iload_n hx hb dX12_layBehind_7 rfl (lv_at hl 1 rfl) ?_
    refine lv_if_lt (tgt := 53) hx hb dX12_layBehind_8 (by decide) (fun c2 => ?_) (fun c2 => ?_)
    · rw [if_pos c2] at h
      exact g_vret cx hr hlk hw h dX12_layBehind_53
    · rw [if_neg c2] at h
      refine lv_iload_n hx hb dX12_layBehind_11 rfl (lv_at hl 1 rfl) ?_
      refine lv_iconst (v := 1) hx hb dX12_layBehind_12 (by decide) ?_
      refine lv_iadd hx hb dX12_layBehind_13 ?_
      obtain ⟨v3, ev3, h⟩ := bv_ex h
      refine lv_topi (fun y9 z9 => ?_)
      obtain rfl : v3 = y9 := ev3.trans z9.symm
      refine lv_istore_n (lv' := [(2, .int v3), (0, .ref (ad 0)), (1, .int a1)]) hx hb dX12_layBehind_14 rfl hl (by decide) rfl (fun ls hl => ?_)
      refine lv_iconst (v := 0) hx hb dX12_layBehind_15 (by decide) ?_
      refine lv_istore_n (lv' := [(3, .int 0), (2, .int v3), (0, .ref (ad 0)), (1, .int a1)]) hx hb dX12_layBehind_16 rfl hl (by decide) rfl (fun ls hl => ?_)
      exact t_X12_layBehind_b17 l G ad av _ ih FUEL a1 v3 (0 : Int32) μ h p e s m below meth c A ls H locs cx hr hlk hA (lv_sub hl [2, 3, 1, 0] rfl) hw
theorem p_X12_layBehind_ex : ∃ f : Mem → Option Mem, ∀  (μ : Mem), f  μ = bv ((μ.1 0 18) - (1 : Int32)) (fun v1 => p_X12_layBehind_b7  FUEL v1 μ) := ⟨fun  (μ : Mem) => bv ((μ.1 0 18) - (1 : Int32)) (fun v1 => p_X12_layBehind_b7  FUEL v1 μ), fun _ => rfl⟩
noncomputable def p_X12_layBehind : Mem → Option Mem := Classical.choose p_X12_layBehind_ex
theorem p_X12_layBehind_eq  (μ : Mem) : p_X12_layBehind  μ = bv ((μ.1 0 18) - (1 : Int32)) (fun v1 => p_X12_layBehind_b7  FUEL v1 μ) := Classical.choose_spec p_X12_layBehind_ex  μ
set_option maxHeartbeats 4000000 in
set_option maxRecDepth 100000 in
theorem t_X12_layBehind (l : Launch) (G : Gt) (ad : Nat → Nat)  (μ : Mem) {μz : Mem} (h : p_X12_layBehind  μ = some μz) : Mt l yX12_layBehind cX12_layBehind 4 none ({ frames := 0, cells := 0, slots := 0, locals := 0 } : Room) G [.ref (ad 0)] (wd 1 G ad μ) (eV 1 G ad μz) := by
  refine Bk.mt (by decide) rfl (Nat.le_of_ble_eq_true rfl) ?_
  intro p e s m below meth c A ls H locs cx hr hlk hA hl hw
  have hx := cx.1
  have hb := cx.2.1
  have hl : lv_has ls 4 [(0, .ref (ad 0))] := hl
  rw [p_X12_layBehind_eq] at h
  refine lv_aload_n hx hb dX12_layBehind_0 rfl (lv_at hl 0 rfl) ?_
  refine g_get cx hw inX12 (ci := 11) rfl 18 (by decide) rfl (v := .int (μ.1 0 18)) shm_0 rfl fl_X12_458 dX12_layBehind_1 ?_
  refine lv_iconst (v := 1) hx hb dX12_layBehind_4 (by decide) ?_
  refine lv_isub hx hb dX12_layBehind_5 ?_
  obtain ⟨v1, ev1, h⟩ := bv_ex h
  refine lv_topi (fun y9 z9 => ?_)
  obtain rfl : v1 = y9 := ev1.trans z9.symm
  refine lv_istore_n (lv' := [(1, .int v1), (0, .ref (ad 0))]) hx hb dX12_layBehind_6 rfl hl (by decide) rfl (fun ls hl => ?_)
  exact t_X12_layBehind_b7 l G ad _  FUEL v1 μ h p e s m below meth c A ls H locs cx hr hlk hA (lv_sub hl [1, 0] rfl) hw
