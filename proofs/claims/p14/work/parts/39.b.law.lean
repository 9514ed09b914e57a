/-! THE LAW'S WALK -/
set_option maxHeartbeats 40000000 in
set_option maxRecDepth 100000 in
theorem law_loop2 {sq sv : Nat} {p : Program} {e : Env} {s : State} {m : MethodId} {below : List Frame} {meth : Method} {c : Code} (l : Launch) {b L cells slots : Nat} {xs : Nat → Int32} {G : Gt} {A : Nat → Prop} {adx adm : Nat → Nat} (cx : Cx p s m c #[Value.ref b] cL_law 4 RL G) (hr : meth.sig.returnType = ret) (hlocks : meth.locks = false) (hAe : A = fun q : Nat => s.heap.size ≤ q) (hX : va_X b L xs s s.heap) (hbl : b < s.heap.size) (hL : L ≤ 3072) (hc1 : cells ≤ 600000) (hs1 : slots ≤ 7302250) (hst : Str9 sq sv A s s.heap) (Rl : Mem → Mem → Prop) (pw : Int32 → Mem → Option (Int32 × Mem)) (hpw : ∀ (sq sv : Nat) (l : Launch) (G : Gt) (ad : Nat → Nat) (a1 : Int32) (μ : Mem) {r : Int32} {μz : Mem}, pw a1 μ = some (r, μz) → M2 sq sv l yX11_write cX11_write 2 (some .int) ({ frames := 252, cells := 0, slots := 0, locals := 5997 } : Room) G [.ref (ad 0), .int a1] (wd 0 G ad μ) (eI 0 G ad r μz)) (h_feed : ∀ (a1 a2 a3 a4 a5 : Int32) (μx μm : Mem), Rl μx μm → ok (p_X11_feed a1 a2 a3 a4 a5 μx) (fun q => ok (p_X12_feed a1 a2 a3 a4 a5 μm) (fun z => Rl q.2 z.2))) (h_end : ∀ (a1 : Int32) (μx μm : Mem), Rl μx μm → ok (p_X11_end a1 μx) (fun q => ok (p_X12_end a1 μm) (fun z => Rl q.2 z.2))) (h_program : ∀ (μx μm : Mem), Rl μx μm → ok (p_X11_program  μx) (fun q => ok (p_X12_program  μm) (fun z => Rl q.2 z.2))) (h_task : ∀ (μx μm : Mem), Rl μx μm → ok (p_X11_task  μx) (fun q => ok (p_X12_task  μm) (fun z => Rl q.2 z.2))) (h_values : ∀ (μx μm : Mem), Rl μx μm → ok (p_X11_values  μx) (fun q => ok (p_X12_values  μm) (fun z => Rl q.2 z.2))) (h_fault : ∀ (μx μm : Mem), Rl μx μm → ok (p_X11_fault  μx) (fun q => ok (p_X12_fault  μm) (fun z => Rl q.2 z.2))) (h_set : ∀ (a1 a2 : Int32) (μx μm : Mem), Rl μx μm → ok (p_X11_set a1 a2 μx) (fun q => ok (p_X12_set a1 a2 μm) (fun z => Rl q.2 z.2))) (h_is : ∀ (a1 : Int32) (μx μm : Mem), Rl μx μm → ok (p_X11_is a1 μx) (fun q => ok (p_X12_is a1 μm) (fun z => Rl q.2 z.2))) (h_function : ∀ (a1 a2 : Int32) (μx μm : Mem), Rl μx μm → ok (p_X11_function a1 a2 μx) (fun q => ok (p_X12_function a1 a2 μm) (fun z => Rl q.2 z.2))) (h_specialise : ∀ (μx μm : Mem), Rl μx μm → ok (p_X11_specialise  μx) (fun q => ok (p_X12_specialise  μm) (fun z => Rl q.2 z.2))) (h_residue : ∀ (a1 : Int32) (μx μm : Mem), Rl μx μm → ok (p_X11_residue a1 μx) (fun q => ok (p_X12_residue a1 μm) (fun z => Rl q.2 z.2))) (h_variant : ∀ (a1 a2 : Int32) (μx μm : Mem), Rl μx μm → ok (p_X11_variant a1 a2 μx) (fun q => ok (p_X12_variant a1 a2 μm) (fun z => Rl q.2 z.2))) (h_kinds : ∀ (a1 a2 : Int32) (μx μm : Mem), Rl μx μm → ok (p_X11_kinds a1 a2 μx) (fun q => ok (p_X12_kinds a1 a2 μm) (fun z => Rl q.2 z.2 ∧ q.1 = z.1))) (h_run : ∀ (a1 a2 : Int32) (μx μm : Mem), Rl μx μm → ok (p_X11_run a1 a2 μx) (fun q => ok (p_X12_run a1 a2 μm) (fun z => Rl q.2 z.2))) (h_output : ∀ (a1 a2 : Int32) (μx μm : Mem), Rl μx μm → ok (p_X11_output a1 a2 μx) (fun q => ok (p_X12_output a1 a2 μm) (fun z => Rl q.2 z.2))) (h_place : ∀ (a1 : Int32) (μx μm : Mem), Rl μx μm → ok (p_X11_place a1 μx) (fun q => ok (p_X12_place a1 μm) (fun z => Rl q.2 z.2))) (h_value : ∀ (μx μm : Mem), Rl μx μm → ok (p_X11_value  μx) (fun q => ok (p_X12_value  μm) (fun z => Rl q.2 z.2))) (h_write : ∀ (a1 : Int32) (μx μm : Mem), Rl μx μm → ok (pw a1 μx) (fun q => ok (p_X12_write a1 μm) (fun z => Rl q.2 z.2))) (h_octet : ∀ (a1 : Int32) (μx μm : Mem), Rl μx μm → ok (p_X11_octet a1 μx) (fun q => ok (p_X12_octet a1 μm) (fun z => Rl q.2 z.2))) (h_agree : ∀ (μx μm : Mem), Rl μx μm → ok (p_X11_agree  μx) (fun q => ok (p_X12_agree  μm) (fun z => Rl q.2 z.2))) (h_saved : ∀ (μx μm : Mem), Rl μx μm → ok (p_X11_saved  μx) (fun q => ok (p_X12_saved  μm) (fun z => Rl q.2 z.2))) (h_op : ∀ (a1 a2 a3 : Int32) (μx μm : Mem), Rl μx μm → ok (p_X11_op a1 a2 a3 μx) (fun q => ok (p_X12_op a1 a2 a3 μm) (fun z => Rl q.2 z.2))) : ∀ (n : Nat) (i : Int32) (μx μm : Mem) (ls : Array Slot) (H : Heap) (locs : List Loc), 0 ≤ i.toInt → i.toInt ≤ L + 6 → (L : Int) + 7 ≤ i.toInt + n → lv_has ls 4 [(3, .int i), (2, .ref (adm 0)), (1, .ref (adx 0)), (0, .ref b)] → Wd G A (wd 0 G adx μx ++ wd 1 G adm μm) s.heap H locs → Rl μx μm → W p l e room_1 s m #[Value.ref b] below meth c H locs cells slots (lw_Z below #[Value.ref b] s) (F0 m 18 ls []) := by
  have hx := cx.1
  have hb := cx.2.1
  have hA : ∀ q : Nat, s.heap.size ≤ q → A q := fun q h => by rw [hAe]; exact h
  have hbA : ¬ A b := by rw [hAe]; exact Nat.not_le.mpr hbl
  have hd0 := Drawn.sameBut.refl s.drawn lw_cs
  intro n
  induction n with
  | zero => intro i μx μm ls H locs hi0 hi1 hn; omega
  | succ n ih =>
    intro i μx μm ls H locs hi0 hi1 hn hl hw hR
    refine lv_iload_n hx hb dL_law_18 rfl (lv_at hl 0 rfl) ?_
    refine lv_aload_n hx hb dL_law_19 rfl (lv_at hl 3 rfl) ?_
    refine va_slen hx hb hX hbl hbA hw.2.2 dL_law_20 ?_
    refine lv_bipush (v := 6) hx hb dL_law_21 (by decide) ?_
    refine lv_isub hx hb dL_law_23 ?_
    have eL : (Int32.ofNat L - 6).toInt = (L : Int) - 6 := by
      have e6 : (6 : Int32).toInt = 6 := by decide
      have e1 : (Int32.ofNat L).toInt = L := nI_toInt (by omega)
      rw [ti_sub (by omega) (by omega), e1, e6]
    refine lv_icmp_gt (tgt := 688) hx hb dL_law_24 (by decide) (fun c1 => ?_) (fun c1 => ?_)
    · refine lv_iconst (v := 1) hx hb dL_law_688 (by decide) ?_
      refine va_forget (fun q hq => by have h9 := hw.2.2.2.2 q hq; rw [hAe] at h9; exact h9) ?_
      refine W.widen (k := 600000) (n := 7302250) hc1 hs1 ?_
      exact lw_ret hd0 hx hb hr hlocks dL_law_689
    have hi6 : i.toInt + 6 ≤ L := by
      rw [ti_lt, eL] at c1
      omega
    have next : ∀ (μx μm : Mem) (H : Heap) (locs : List Loc), Wd G A (wd 0 G adx μx ++ wd 1 G adm μm) s.heap H locs → Rl μx μm → W p l e room_1 s m #[Value.ref b] below meth c H locs cells slots (lw_Z below #[Value.ref b] s) (F0 m 682 ls []) := by
      intro μx μm H locs hw hR
      refine lv_iinc (v := i + 6) (lv' := [(3, .int (i + 6)), (2, .ref (adm 0)), (1, .ref (adx 0)), (0, .ref b)]) hx hb dL_law_682 hl (k := 0) rfl rfl (by decide) rfl (fun ls hl => ?_)
      refine lv_goto (tgt := 18) hx hb dL_law_685 (by decide) ?_
      have e6 : (i + 6).toInt = i.toInt + 6 := by
        have e6 : (6 : Int32).toInt = 6 := by decide
        rw [ti_add (by omega) (by omega), e6]
      exact ih (i + 6) μx μm ls H locs (by omega) (by omega) (by omega) hl hw hR
    refine lv_aload_n hx hb dL_law_27 rfl (lv_at hl 3 rfl) ?_
    refine lv_iload_n hx hb dL_law_28 rfl (lv_at hl 0 rfl) ?_
    refine va_sld hx hb hX hbl hbA hw.2.2 (law_in0 hi0 hi6) dL_law_29 ?_
    refine lv_bipush (v := 31) hx hb dL_law_30 (by decide) ?_
    refine lv_iand hx hb dL_law_32 ?_
    refine lv_topi (fun v0 e0 => ?_)
    clear e0
    by_cases c2_0 : v0 = 0
    · subst c2_0
      refine lv_tableIn (tgt := 136) hx hb dL_law_33 (by decide +kernel) (by decide +kernel) rfl (by decide) ?_
      obtain ⟨⟨rx, μx1⟩, gx, ⟨rm, μm1⟩, gm, hR1⟩ := h_feed (xs (i + 1).toNatClampNeg) (xs (i + 2).toNatClampNeg) (xs (i + 3).toNatClampNeg) (xs (i + 4).toNatClampNeg) (xs (i + 5).toNatClampNeg) μx μm hR
      refine lv_aload_n hx hb dL_law_136 rfl (lv_at hl 2 rfl) ?_
      refine lv_aload_n hx hb dL_law_137 rfl (lv_at hl 3 rfl) ?_
      refine lv_iload_n hx hb dL_law_138 rfl (lv_at hl 0 rfl) ?_
      refine lv_iconst (v := 1) hx hb dL_law_139 (by decide) ?_
      refine lv_iadd hx hb dL_law_140 ?_
      refine va_sld hx hb hX hbl hbA hw.2.2 (law_in 1 (by decide) hi0 hi6 hL) dL_law_141 ?_
      refine lv_aload_n hx hb dL_law_142 rfl (lv_at hl 3 rfl) ?_
      refine lv_iload_n hx hb dL_law_143 rfl (lv_at hl 0 rfl) ?_
      refine lv_iconst (v := 2) hx hb dL_law_144 (by decide) ?_
      refine lv_iadd hx hb dL_law_145 ?_
      refine va_sld hx hb hX hbl hbA hw.2.2 (law_in 2 (by decide) hi0 hi6 hL) dL_law_146 ?_
      refine lv_aload_n hx hb dL_law_147 rfl (lv_at hl 3 rfl) ?_
      refine lv_iload_n hx hb dL_law_148 rfl (lv_at hl 0 rfl) ?_
      refine lv_iconst (v := 3) hx hb dL_law_149 (by decide) ?_
      refine lv_iadd hx hb dL_law_150 ?_
      refine va_sld hx hb hX hbl hbA hw.2.2 (law_in 3 (by decide) hi0 hi6 hL) dL_law_151 ?_
      refine lv_aload_n hx hb dL_law_152 rfl (lv_at hl 3 rfl) ?_
      refine lv_iload_n hx hb dL_law_153 rfl (lv_at hl 0 rfl) ?_
      refine lv_iconst (v := 4) hx hb dL_law_154 (by decide) ?_
      refine lv_iadd hx hb dL_law_155 ?_
      refine va_sld hx hb hX hbl hbA hw.2.2 (law_in 4 (by decide) hi0 hi6 hL) dL_law_156 ?_
      refine lv_aload_n hx hb dL_law_157 rfl (lv_at hl 3 rfl) ?_
      refine lv_iload_n hx hb dL_law_158 rfl (lv_at hl 0 rfl) ?_
      refine lv_iconst (v := 5) hx hb dL_law_159 (by decide) ?_
      refine lv_iadd hx hb dL_law_160 ?_
      refine va_sld hx hb hX hbl hbA hw.2.2 (law_in 5 (by decide) hi0 hi6 hL) dL_law_161 ?_
      refine law_callX (As := [.int (xs (i + 1).toNatClampNeg), .int (xs (i + 2).toNatClampNeg), .int (xs (i + 3).toNatClampNeg), .int (xs (i + 4).toNatClampNeg), .int (xs (i + 5).toNatClampNeg)]) (rest := []) cx hw hA (t_X11_feed l G adx (xs (i + 1).toNatClampNeg) (xs (i + 2).toNatClampNeg) (xs (i + 3).toNatClampNeg) (xs (i + 4).toNatClampNeg) (xs (i + 5).toNatClampNeg) μx gx) rfl ml_L_13 im_X11_feed se_X11_feed in_X11 co_X11_feed rfl hd_X11_feed rfl ⟨Nat.le_of_ble_eq_true rfl, Nat.le_of_ble_eq_true rfl⟩ hl.1 rfl (Nat.le_of_ble_eq_true rfl) dL_law_162 ⟨hc1, hs1⟩ ⟨rfl, rfl⟩ (fun H locs hw => ?_)
      refine lv_pop hx hb dL_law_165 rfl ?_
      refine lv_aload_n hx hb dL_law_166 rfl (lv_at hl 1 rfl) ?_
      refine lv_aload_n hx hb dL_law_167 rfl (lv_at hl 3 rfl) ?_
      refine lv_iload_n hx hb dL_law_168 rfl (lv_at hl 0 rfl) ?_
      refine lv_iconst (v := 1) hx hb dL_law_169 (by decide) ?_
      refine lv_iadd hx hb dL_law_170 ?_
      refine va_sld hx hb hX hbl hbA hw.2.2 (law_in 1 (by decide) hi0 hi6 hL) dL_law_171 ?_
      refine lv_aload_n hx hb dL_law_172 rfl (lv_at hl 3 rfl) ?_
      refine lv_iload_n hx hb dL_law_173 rfl (lv_at hl 0 rfl) ?_
      refine lv_iconst (v := 2) hx hb dL_law_174 (by decide) ?_
      refine lv_iadd hx hb dL_law_175 ?_
      refine va_sld hx hb hX hbl hbA hw.2.2 (law_in 2 (by decide) hi0 hi6 hL) dL_law_176 ?_
      refine lv_aload_n hx hb dL_law_177 rfl (lv_at hl 3 rfl) ?_
      refine lv_iload_n hx hb dL_law_178 rfl (lv_at hl 0 rfl) ?_
      refine lv_iconst (v := 3) hx hb dL_law_179 (by decide) ?_
      refine lv_iadd hx hb dL_law_180 ?_
      refine va_sld hx hb hX hbl hbA hw.2.2 (law_in 3 (by decide) hi0 hi6 hL) dL_law_181 ?_
      refine lv_aload_n hx hb dL_law_182 rfl (lv_at hl 3 rfl) ?_
      refine lv_iload_n hx hb dL_law_183 rfl (lv_at hl 0 rfl) ?_
      refine lv_iconst (v := 4) hx hb dL_law_184 (by decide) ?_
      refine lv_iadd hx hb dL_law_185 ?_
      refine va_sld hx hb hX hbl hbA hw.2.2 (law_in 4 (by decide) hi0 hi6 hL) dL_law_186 ?_
      refine lv_aload_n hx hb dL_law_187 rfl (lv_at hl 3 rfl) ?_
      refine lv_iload_n hx hb dL_law_188 rfl (lv_at hl 0 rfl) ?_
      refine lv_iconst (v := 5) hx hb dL_law_189 (by decide) ?_
      refine lv_iadd hx hb dL_law_190 ?_
      refine va_sld hx hb hX hbl hbA hw.2.2 (law_in 5 (by decide) hi0 hi6 hL) dL_law_191 ?_
      refine law_callM (As := [.int (xs (i + 1).toNatClampNeg), .int (xs (i + 2).toNatClampNeg), .int (xs (i + 3).toNatClampNeg), .int (xs (i + 4).toNatClampNeg), .int (xs (i + 5).toNatClampNeg)]) (rest := []) cx hw hA (t_X12_feed l G adm (xs (i + 1).toNatClampNeg) (xs (i + 2).toNatClampNeg) (xs (i + 3).toNatClampNeg) (xs (i + 4).toNatClampNeg) (xs (i + 5).toNatClampNeg) μm gm) rfl ml_L_17 im_X12_feed se_X12_feed in_X12 co_X12_feed rfl hd_X12_feed rfl ⟨Nat.le_of_ble_eq_true rfl, Nat.le_of_ble_eq_true rfl⟩ hl.1 rfl (Nat.le_of_ble_eq_true rfl) dL_law_192 ⟨hc1, hs1⟩ ⟨rfl, rfl⟩ (fun H locs hw => ?_)
      refine lv_pop hx hb dL_law_195 rfl ?_
      refine lv_goto (tgt := 682) hx hb dL_law_196 (by decide) ?_
      exact next μx1 μm1 H locs hw hR1
    by_cases c2_1 : v0 = 1
    · subst c2_1
      refine lv_tableIn (tgt := 199) hx hb dL_law_33 (by decide +kernel) (by decide +kernel) rfl (by decide) ?_
      obtain ⟨⟨rx, μx1⟩, gx, ⟨rm, μm1⟩, gm, hR1⟩ := h_end (xs (i + 1).toNatClampNeg) μx μm hR
      refine lv_aload_n hx hb dL_law_199 rfl (lv_at hl 2 rfl) ?_
      refine lv_aload_n hx hb dL_law_200 rfl (lv_at hl 3 rfl) ?_
      refine lv_iload_n hx hb dL_law_201 rfl (lv_at hl 0 rfl) ?_
      refine lv_iconst (v := 1) hx hb dL_law_202 (by decide) ?_
      refine lv_iadd hx hb dL_law_203 ?_
      refine va_sld hx hb hX hbl hbA hw.2.2 (law_in 1 (by decide) hi0 hi6 hL) dL_law_204 ?_
      refine law_callX (As := [.int (xs (i + 1).toNatClampNeg)]) (rest := []) cx hw hA (t_X11_end l G adx (xs (i + 1).toNatClampNeg) μx gx) rfl ml_L_18 im_X11_end se_X11_end in_X11 co_X11_end rfl hd_X11_end rfl ⟨Nat.le_of_ble_eq_true rfl, Nat.le_of_ble_eq_true rfl⟩ hl.1 rfl (Nat.le_of_ble_eq_true rfl) dL_law_205 ⟨hc1, hs1⟩ ⟨rfl, rfl⟩ (fun H locs hw => ?_)
      refine lv_pop hx hb dL_law_208 rfl ?_
      refine lv_aload_n hx hb dL_law_209 rfl (lv_at hl 1 rfl) ?_
      refine lv_aload_n hx hb dL_law_210 rfl (lv_at hl 3 rfl) ?_
      refine lv_iload_n hx hb dL_law_211 rfl (lv_at hl 0 rfl) ?_
      refine lv_iconst (v := 1) hx hb dL_law_212 (by decide) ?_
      refine lv_iadd hx hb dL_law_213 ?_
      refine va_sld hx hb hX hbl hbA hw.2.2 (law_in 1 (by decide) hi0 hi6 hL) dL_law_214 ?_
      refine law_callM (As := [.int (xs (i + 1).toNatClampNeg)]) (rest := []) cx hw hA (t_X12_end l G adm (xs (i + 1).toNatClampNeg) μm gm) rfl ml_L_22 im_X12_end se_X12_end in_X12 co_X12_end rfl hd_X12_end rfl ⟨Nat.le_of_ble_eq_true rfl, Nat.le_of_ble_eq_true rfl⟩ hl.1 rfl (Nat.le_of_ble_eq_true rfl) dL_law_215 ⟨hc1, hs1⟩ ⟨rfl, rfl⟩ (fun H locs hw => ?_)
      refine lv_pop hx hb dL_law_218 rfl ?_
      refine lv_goto (tgt := 682) hx hb dL_law_219 (by decide) ?_
      exact next μx1 μm1 H locs hw hR1
    by_cases c2_2 : v0 = 2
    · subst c2_2
      refine lv_tableIn (tgt := 222) hx hb dL_law_33 (by decide +kernel) (by decide +kernel) rfl (by decide) ?_
      obtain ⟨⟨rx, μx1⟩, gx, ⟨rm, μm1⟩, gm, hR1⟩ := h_program  μx μm hR
      refine lv_aload_n hx hb dL_law_222 rfl (lv_at hl 2 rfl) ?_
      refine law_callX (As := []) (rest := []) cx hw hA (t_X11_program l G adx  μx gx) rfl ml_L_23 im_X11_program se_X11_program in_X11 co_X11_program rfl hd_X11_program rfl ⟨Nat.le_of_ble_eq_true rfl, Nat.le_of_ble_eq_true rfl⟩ hl.1 rfl (Nat.le_of_ble_eq_true rfl) dL_law_223 ⟨hc1, hs1⟩ ⟨rfl, rfl⟩ (fun H locs hw => ?_)
      refine lv_pop hx hb dL_law_226 rfl ?_
      refine lv_aload_n hx hb dL_law_227 rfl (lv_at hl 1 rfl) ?_
      refine law_callM (As := []) (rest := []) cx hw hA (t_X12_program l G adm  μm gm) rfl ml_L_27 im_X12_program se_X12_program in_X12 co_X12_program rfl hd_X12_program rfl ⟨Nat.le_of_ble_eq_true rfl, Nat.le_of_ble_eq_true rfl⟩ hl.1 rfl (Nat.le_of_ble_eq_true rfl) dL_law_228 ⟨hc1, hs1⟩ ⟨rfl, rfl⟩ (fun H locs hw => ?_)
      refine lv_pop hx hb dL_law_231 rfl ?_
      refine lv_goto (tgt := 682) hx hb dL_law_232 (by decide) ?_
      exact next μx1 μm1 H locs hw hR1
    by_cases c2_3 : v0 = 3
    · subst c2_3
      refine lv_tableIn (tgt := 235) hx hb dL_law_33 (by decide +kernel) (by decide +kernel) rfl (by decide) ?_
      obtain ⟨⟨rx, μx1⟩, gx, ⟨rm, μm1⟩, gm, hR1⟩ := h_task  μx μm hR
      refine lv_aload_n hx hb dL_law_235 rfl (lv_at hl 2 rfl) ?_
      refine law_callX (As := []) (rest := []) cx hw hA (t_X11_task l G adx  μx gx) rfl ml_L_28 im_X11_task se_X11_task in_X11 co_X11_task rfl hd_X11_task rfl ⟨Nat.le_of_ble_eq_true rfl, Nat.le_of_ble_eq_true rfl⟩ hl.1 rfl (Nat.le_of_ble_eq_true rfl) dL_law_236 ⟨hc1, hs1⟩ ⟨rfl, rfl⟩ (fun H locs hw => ?_)
      refine lv_pop hx hb dL_law_239 rfl ?_
      refine lv_aload_n hx hb dL_law_240 rfl (lv_at hl 1 rfl) ?_
      refine law_callM (As := []) (rest := []) cx hw hA (t_X12_task l G adm  μm gm) rfl ml_L_31 im_X12_task se_X12_task in_X12 co_X12_task rfl hd_X12_task rfl ⟨Nat.le_of_ble_eq_true rfl, Nat.le_of_ble_eq_true rfl⟩ hl.1 rfl (Nat.le_of_ble_eq_true rfl) dL_law_241 ⟨hc1, hs1⟩ ⟨rfl, rfl⟩ (fun H locs hw => ?_)
      refine lv_pop hx hb dL_law_244 rfl ?_
      refine lv_goto (tgt := 682) hx hb dL_law_245 (by decide) ?_
      exact next μx1 μm1 H locs hw hR1
    by_cases c2_4 : v0 = 4
    · subst c2_4
      refine lv_tableIn (tgt := 248) hx hb dL_law_33 (by decide +kernel) (by decide +kernel) rfl (by decide) ?_
      obtain ⟨⟨rx, μx1⟩, gx, ⟨rm, μm1⟩, gm, hR1⟩ := h_values  μx μm hR
      refine lv_aload_n hx hb dL_law_248 rfl (lv_at hl 2 rfl) ?_
      refine law_callX (As := []) (rest := []) cx hw hA (t_X11_values l G adx  μx gx) rfl ml_L_32 im_X11_values se_X11_values in_X11 co_X11_values rfl hd_X11_values rfl ⟨Nat.le_of_ble_eq_true rfl, Nat.le_of_ble_eq_true rfl⟩ hl.1 rfl (Nat.le_of_ble_eq_true rfl) dL_law_249 ⟨hc1, hs1⟩ ⟨rfl, rfl⟩ (fun H locs hw => ?_)
      refine lv_pop hx hb dL_law_252 rfl ?_
      refine lv_aload_n hx hb dL_law_253 rfl (lv_at hl 1 rfl) ?_
      refine law_callM (As := []) (rest := []) cx hw hA (t_X12_values l G adm  μm gm) rfl ml_L_35 im_X12_values se_X12_values in_X12 co_X12_values rfl hd_X12_values rfl ⟨Nat.le_of_ble_eq_true rfl, Nat.le_of_ble_eq_true rfl⟩ hl.1 rfl (Nat.le_of_ble_eq_true rfl) dL_law_254 ⟨hc1, hs1⟩ ⟨rfl, rfl⟩ (fun H locs hw => ?_)
      refine lv_pop hx hb dL_law_257 rfl ?_
      refine lv_goto (tgt := 682) hx hb dL_law_258 (by decide) ?_
      exact next μx1 μm1 H locs hw hR1
    by_cases c2_5 : v0 = 5
    · subst c2_5
      refine lv_tableIn (tgt := 261) hx hb dL_law_33 (by decide +kernel) (by decide +kernel) rfl (by decide) ?_
      obtain ⟨⟨rx, μx1⟩, gx, ⟨rm, μm1⟩, gm, hR1⟩ := h_fault  μx μm hR
      refine lv_aload_n hx hb dL_law_261 rfl (lv_at hl 2 rfl) ?_
      refine law_callX (As := []) (rest := []) cx hw hA (t_X11_fault l G adx  μx gx) rfl ml_L_36 im_X11_fault se_X11_fault in_X11 co_X11_fault rfl hd_X11_fault rfl ⟨Nat.le_of_ble_eq_true rfl, Nat.le_of_ble_eq_true rfl⟩ hl.1 rfl (Nat.le_of_ble_eq_true rfl) dL_law_262 ⟨hc1, hs1⟩ ⟨rfl, rfl⟩ (fun H locs hw => ?_)
      refine lv_pop hx hb dL_law_265 rfl ?_
      refine lv_aload_n hx hb dL_law_266 rfl (lv_at hl 1 rfl) ?_
      refine law_callM (As := []) (rest := []) cx hw hA (t_X12_fault l G adm  μm gm) rfl ml_L_39 im_X12_fault se_X12_fault in_X12 co_X12_fault rfl hd_X12_fault rfl ⟨Nat.le_of_ble_eq_true rfl, Nat.le_of_ble_eq_true rfl⟩ hl.1 rfl (Nat.le_of_ble_eq_true rfl) dL_law_267 ⟨hc1, hs1⟩ ⟨rfl, rfl⟩ (fun H locs hw => ?_)
      refine lv_pop hx hb dL_law_270 rfl ?_
      refine lv_goto (tgt := 682) hx hb dL_law_271 (by decide) ?_
      exact next μx1 μm1 H locs hw hR1
    by_cases c2_6 : v0 = 6
    · subst c2_6
      refine lv_tableIn (tgt := 274) hx hb dL_law_33 (by decide +kernel) (by decide +kernel) rfl (by decide) ?_
      obtain ⟨⟨rx, μx1⟩, gx, ⟨rm, μm1⟩, gm, hR1⟩ := h_set (xs (i + 1).toNatClampNeg) (xs (i + 2).toNatClampNeg) μx μm hR
      refine lv_aload_n hx hb dL_law_274 rfl (lv_at hl 2 rfl) ?_
      refine lv_aload_n hx hb dL_law_275 rfl (lv_at hl 3 rfl) ?_
      refine lv_iload_n hx hb dL_law_276 rfl (lv_at hl 0 rfl) ?_
      refine lv_iconst (v := 1) hx hb dL_law_277 (by decide) ?_
      refine lv_iadd hx hb dL_law_278 ?_
      refine va_sld hx hb hX hbl hbA hw.2.2 (law_in 1 (by decide) hi0 hi6 hL) dL_law_279 ?_
      refine lv_aload_n hx hb dL_law_280 rfl (lv_at hl 3 rfl) ?_
      refine lv_iload_n hx hb dL_law_281 rfl (lv_at hl 0 rfl) ?_
      refine lv_iconst (v := 2) hx hb dL_law_282 (by decide) ?_
      refine lv_iadd hx hb dL_law_283 ?_
      refine va_sld hx hb hX hbl hbA hw.2.2 (law_in 2 (by decide) hi0 hi6 hL) dL_law_284 ?_
      refine law_callX (As := [.int (xs (i + 1).toNatClampNeg), .int (xs (i + 2).toNatClampNeg)]) (rest := []) cx hw hA (t_X11_set l G adx (xs (i + 1).toNatClampNeg) (xs (i + 2).toNatClampNeg) μx gx) rfl ml_L_40 im_X11_set se_X11_set in_X11 co_X11_set rfl hd_X11_set rfl ⟨Nat.le_of_ble_eq_true rfl, Nat.le_of_ble_eq_true rfl⟩ hl.1 rfl (Nat.le_of_ble_eq_true rfl) dL_law_285 ⟨hc1, hs1⟩ ⟨rfl, rfl⟩ (fun H locs hw => ?_)
      refine lv_pop hx hb dL_law_288 rfl ?_
      refine lv_aload_n hx hb dL_law_289 rfl (lv_at hl 1 rfl) ?_
      refine lv_aload_n hx hb dL_law_290 rfl (lv_at hl 3 rfl) ?_
      refine lv_iload_n hx hb dL_law_291 rfl (lv_at hl 0 rfl) ?_
      refine lv_iconst (v := 1) hx hb dL_law_292 (by decide) ?_
      refine lv_iadd hx hb dL_law_293 ?_
      refine va_sld hx hb hX hbl hbA hw.2.2 (law_in 1 (by decide) hi0 hi6 hL) dL_law_294 ?_
      refine lv_aload_n hx hb dL_law_295 rfl (lv_at hl 3 rfl) ?_
      refine lv_iload_n hx hb dL_law_296 rfl (lv_at hl 0 rfl) ?_
      refine lv_iconst (v := 2) hx hb dL_law_297 (by decide) ?_
      refine lv_iadd hx hb dL_law_298 ?_
      refine va_sld hx hb hX hbl hbA hw.2.2 (law_in 2 (by decide) hi0 hi6 hL) dL_law_299 ?_
      refine law_callM (As := [.int (xs (i + 1).toNatClampNeg), .int (xs (i + 2).toNatClampNeg)]) (rest := []) cx hw hA (t_X12_set l G adm (xs (i + 1).toNatClampNeg) (xs (i + 2).toNatClampNeg) μm gm) rfl ml_L_44 im_X12_set se_X12_set in_X12 co_X12_set rfl hd_X12_set rfl ⟨Nat.le_of_ble_eq_true rfl, Nat.le_of_ble_eq_true rfl⟩ hl.1 rfl (Nat.le_of_ble_eq_true rfl) dL_law_300 ⟨hc1, hs1⟩ ⟨rfl, rfl⟩ (fun H locs hw => ?_)
      refine lv_pop hx hb dL_law_303 rfl ?_
      refine lv_goto (tgt := 682) hx hb dL_law_304 (by decide) ?_
      exact next μx1 μm1 H locs hw hR1
    by_cases c2_7 : v0 = 7
    · subst c2_7
      refine lv_tableIn (tgt := 307) hx hb dL_law_33 (by decide +kernel) (by decide +kernel) rfl (by decide) ?_
      obtain ⟨⟨rx, μx1⟩, gx, ⟨rm, μm1⟩, gm, hR1⟩ := h_is (xs (i + 1).toNatClampNeg) μx μm hR
      refine lv_aload_n hx hb dL_law_307 rfl (lv_at hl 2 rfl) ?_
      refine lv_aload_n hx hb dL_law_308 rfl (lv_at hl 3 rfl) ?_
      refine lv_iload_n hx hb dL_law_309 rfl (lv_at hl 0 rfl) ?_
      refine lv_iconst (v := 1) hx hb dL_law_310 (by decide) ?_
      refine lv_iadd hx hb dL_law_311 ?_
      refine va_sld hx hb hX hbl hbA hw.2.2 (law_in 1 (by decide) hi0 hi6 hL) dL_law_312 ?_
      refine law_callX (As := [.int (xs (i + 1).toNatClampNeg)]) (rest := []) cx hw hA (t_X11_is l G adx (xs (i + 1).toNatClampNeg) μx gx) rfl ml_L_45 im_X11_is se_X11_is in_X11 co_X11_is rfl hd_X11_is rfl ⟨Nat.le_of_ble_eq_true rfl, Nat.le_of_ble_eq_true rfl⟩ hl.1 rfl (Nat.le_of_ble_eq_true rfl) dL_law_313 ⟨hc1, hs1⟩ ⟨rfl, rfl⟩ (fun H locs hw => ?_)
      refine lv_pop hx hb dL_law_316 rfl ?_
      refine lv_aload_n hx hb dL_law_317 rfl (lv_at hl 1 rfl) ?_
      refine lv_aload_n hx hb dL_law_318 rfl (lv_at hl 3 rfl) ?_
      refine lv_iload_n hx hb dL_law_319 rfl (lv_at hl 0 rfl) ?_
      refine lv_iconst (v := 1) hx hb dL_law_320 (by decide) ?_
      refine lv_iadd hx hb dL_law_321 ?_
      refine va_sld hx hb hX hbl hbA hw.2.2 (law_in 1 (by decide) hi0 hi6 hL) dL_law_322 ?_
      refine law_callM (As := [.int (xs (i + 1).toNatClampNeg)]) (rest := []) cx hw hA (t_X12_is l G adm (xs (i + 1).toNatClampNeg) μm gm) rfl ml_L_48 im_X12_is se_X12_is in_X12 co_X12_is rfl hd_X12_is rfl ⟨Nat.le_of_ble_eq_true rfl, Nat.le_of_ble_eq_true rfl⟩ hl.1 rfl (Nat.le_of_ble_eq_true rfl) dL_law_323 ⟨hc1, hs1⟩ ⟨rfl, rfl⟩ (fun H locs hw => ?_)
      refine lv_pop hx hb dL_law_326 rfl ?_
      refine lv_goto (tgt := 682) hx hb dL_law_327 (by decide) ?_
      exact next μx1 μm1 H locs hw hR1
    by_cases c2_8 : v0 = 8
    · subst c2_8
      refine lv_tableIn (tgt := 330) hx hb dL_law_33 (by decide +kernel) (by decide +kernel) rfl (by decide) ?_
      obtain ⟨⟨rx, μx1⟩, gx, ⟨rm, μm1⟩, gm, hR1⟩ := h_function (xs (i + 1).toNatClampNeg) (xs (i + 2).toNatClampNeg) μx μm hR
      refine lv_aload_n hx hb dL_law_330 rfl (lv_at hl 2 rfl) ?_
      refine lv_aload_n hx hb dL_law_331 rfl (lv_at hl 3 rfl) ?_
      refine lv_iload_n hx hb dL_law_332 rfl (lv_at hl 0 rfl) ?_
      refine lv_iconst (v := 1) hx hb dL_law_333 (by decide) ?_
      refine lv_iadd hx hb dL_law_334 ?_
      refine va_sld hx hb hX hbl hbA hw.2.2 (law_in 1 (by decide) hi0 hi6 hL) dL_law_335 ?_
      refine lv_aload_n hx hb dL_law_336 rfl (lv_at hl 3 rfl) ?_
      refine lv_iload_n hx hb dL_law_337 rfl (lv_at hl 0 rfl) ?_
      refine lv_iconst (v := 2) hx hb dL_law_338 (by decide) ?_
      refine lv_iadd hx hb dL_law_339 ?_
      refine va_sld hx hb hX hbl hbA hw.2.2 (law_in 2 (by decide) hi0 hi6 hL) dL_law_340 ?_
      refine law_callX (As := [.int (xs (i + 1).toNatClampNeg), .int (xs (i + 2).toNatClampNeg)]) (rest := []) cx hw hA (t_X11_function l G adx (xs (i + 1).toNatClampNeg) (xs (i + 2).toNatClampNeg) μx gx) rfl ml_L_49 im_X11_function se_X11_function in_X11 co_X11_function rfl hd_X11_function rfl ⟨Nat.le_of_ble_eq_true rfl, Nat.le_of_ble_eq_true rfl⟩ hl.1 rfl (Nat.le_of_ble_eq_true rfl) dL_law_341 ⟨hc1, hs1⟩ ⟨rfl, rfl⟩ (fun H locs hw => ?_)
      refine lv_pop hx hb dL_law_344 rfl ?_
      refine lv_aload_n hx hb dL_law_345 rfl (lv_at hl 1 rfl) ?_
      refine lv_aload_n hx hb dL_law_346 rfl (lv_at hl 3 rfl) ?_
      refine lv_iload_n hx hb dL_law_347 rfl (lv_at hl 0 rfl) ?_
      refine lv_iconst (v := 1) hx hb dL_law_348 (by decide) ?_
      refine lv_iadd hx hb dL_law_349 ?_
      refine va_sld hx hb hX hbl hbA hw.2.2 (law_in 1 (by decide) hi0 hi6 hL) dL_law_350 ?_
      refine lv_aload_n hx hb dL_law_351 rfl (lv_at hl 3 rfl) ?_
      refine lv_iload_n hx hb dL_law_352 rfl (lv_at hl 0 rfl) ?_
      refine lv_iconst (v := 2) hx hb dL_law_353 (by decide) ?_
      refine lv_iadd hx hb dL_law_354 ?_
      refine va_sld hx hb hX hbl hbA hw.2.2 (law_in 2 (by decide) hi0 hi6 hL) dL_law_355 ?_
      refine law_callM (As := [.int (xs (i + 1).toNatClampNeg), .int (xs (i + 2).toNatClampNeg)]) (rest := []) cx hw hA (t_X12_function l G adm (xs (i + 1).toNatClampNeg) (xs (i + 2).toNatClampNeg) μm gm) rfl ml_L_53 im_X12_function se_X12_function in_X12 co_X12_function rfl hd_X12_function rfl ⟨Nat.le_of_ble_eq_true rfl, Nat.le_of_ble_eq_true rfl⟩ hl.1 rfl (Nat.le_of_ble_eq_true rfl) dL_law_356 ⟨hc1, hs1⟩ ⟨rfl, rfl⟩ (fun H locs hw => ?_)
      refine lv_pop hx hb dL_law_359 rfl ?_
      refine lv_goto (tgt := 682) hx hb dL_law_360 (by decide) ?_
      exact next μx1 μm1 H locs hw hR1
    by_cases c2_9 : v0 = 9
    · subst c2_9
      refine lv_tableIn (tgt := 363) hx hb dL_law_33 (by decide +kernel) (by decide +kernel) rfl (by decide) ?_
      obtain ⟨⟨rx, μx1⟩, gx, ⟨rm, μm1⟩, gm, hR1⟩ := h_specialise  μx μm hR
      refine lv_aload_n hx hb dL_law_363 rfl (lv_at hl 2 rfl) ?_
      refine law_callX (As := []) (rest := []) cx hw hA (t_X11_specialise l G adx  μx gx) rfl ml_L_54 im_X11_specialise se_X11_specialise in_X11 co_X11_specialise rfl hd_X11_specialise rfl ⟨Nat.le_of_ble_eq_true rfl, Nat.le_of_ble_eq_true rfl⟩ hl.1 rfl (Nat.le_of_ble_eq_true rfl) dL_law_364 ⟨hc1, hs1⟩ ⟨rfl, rfl⟩ (fun H locs hw => ?_)
      refine lv_pop hx hb dL_law_367 rfl ?_
      refine lv_aload_n hx hb dL_law_368 rfl (lv_at hl 1 rfl) ?_
      refine law_callM (As := []) (rest := []) cx hw hA (t_X12_specialise l G adm  μm gm) rfl ml_L_57 im_X12_specialise se_X12_specialise in_X12 co_X12_specialise rfl hd_X12_specialise rfl ⟨Nat.le_of_ble_eq_true rfl, Nat.le_of_ble_eq_true rfl⟩ hl.1 rfl (Nat.le_of_ble_eq_true rfl) dL_law_369 ⟨hc1, hs1⟩ ⟨rfl, rfl⟩ (fun H locs hw => ?_)
      refine lv_pop hx hb dL_law_372 rfl ?_
      refine lv_goto (tgt := 682) hx hb dL_law_373 (by decide) ?_
      exact next μx1 μm1 H locs hw hR1
    by_cases c2_10 : v0 = 10
    · subst c2_10
      refine lv_tableIn (tgt := 376) hx hb dL_law_33 (by decide +kernel) (by decide +kernel) rfl (by decide) ?_
      obtain ⟨⟨rx, μx1⟩, gx, ⟨rm, μm1⟩, gm, hR1⟩ := h_residue (xs (i + 1).toNatClampNeg) μx μm hR
      refine lv_aload_n hx hb dL_law_376 rfl (lv_at hl 2 rfl) ?_
      refine lv_aload_n hx hb dL_law_377 rfl (lv_at hl 3 rfl) ?_
      refine lv_iload_n hx hb dL_law_378 rfl (lv_at hl 0 rfl) ?_
      refine lv_iconst (v := 1) hx hb dL_law_379 (by decide) ?_
      refine lv_iadd hx hb dL_law_380 ?_
      refine va_sld hx hb hX hbl hbA hw.2.2 (law_in 1 (by decide) hi0 hi6 hL) dL_law_381 ?_
      refine law_callX (As := [.int (xs (i + 1).toNatClampNeg)]) (rest := []) cx hw hA (t_X11_residue l G adx (xs (i + 1).toNatClampNeg) μx gx) rfl ml_L_58 im_X11_residue se_X11_residue in_X11 co_X11_residue rfl hd_X11_residue rfl ⟨Nat.le_of_ble_eq_true rfl, Nat.le_of_ble_eq_true rfl⟩ hl.1 rfl (Nat.le_of_ble_eq_true rfl) dL_law_382 ⟨hc1, hs1⟩ ⟨rfl, rfl⟩ (fun H locs hw => ?_)
      refine lv_pop hx hb dL_law_385 rfl ?_
      refine lv_aload_n hx hb dL_law_386 rfl (lv_at hl 1 rfl) ?_
      refine lv_aload_n hx hb dL_law_387 rfl (lv_at hl 3 rfl) ?_
      refine lv_iload_n hx hb dL_law_388 rfl (lv_at hl 0 rfl) ?_
      refine lv_iconst (v := 1) hx hb dL_law_389 (by decide) ?_
      refine lv_iadd hx hb dL_law_390 ?_
      refine va_sld hx hb hX hbl hbA hw.2.2 (law_in 1 (by decide) hi0 hi6 hL) dL_law_391 ?_
      refine law_callM (As := [.int (xs (i + 1).toNatClampNeg)]) (rest := []) cx hw hA (t_X12_residue l G adm (xs (i + 1).toNatClampNeg) μm gm) rfl ml_L_61 im_X12_residue se_X12_residue in_X12 co_X12_residue rfl hd_X12_residue rfl ⟨Nat.le_of_ble_eq_true rfl, Nat.le_of_ble_eq_true rfl⟩ hl.1 rfl (Nat.le_of_ble_eq_true rfl) dL_law_392 ⟨hc1, hs1⟩ ⟨rfl, rfl⟩ (fun H locs hw => ?_)
      refine lv_pop hx hb dL_law_395 rfl ?_
      refine lv_goto (tgt := 682) hx hb dL_law_396 (by decide) ?_
      exact next μx1 μm1 H locs hw hR1
    by_cases c2_11 : v0 = 11
    · subst c2_11
      refine lv_tableIn (tgt := 399) hx hb dL_law_33 (by decide +kernel) (by decide +kernel) rfl (by decide) ?_
      obtain ⟨⟨rx, μx1⟩, gx, ⟨rm, μm1⟩, gm, hR1⟩ := h_variant (xs (i + 1).toNatClampNeg) (xs (i + 2).toNatClampNeg) μx μm hR
      refine lv_aload_n hx hb dL_law_399 rfl (lv_at hl 2 rfl) ?_
      refine lv_aload_n hx hb dL_law_400 rfl (lv_at hl 3 rfl) ?_
      refine lv_iload_n hx hb dL_law_401 rfl (lv_at hl 0 rfl) ?_
      refine lv_iconst (v := 1) hx hb dL_law_402 (by decide) ?_
      refine lv_iadd hx hb dL_law_403 ?_
      refine va_sld hx hb hX hbl hbA hw.2.2 (law_in 1 (by decide) hi0 hi6 hL) dL_law_404 ?_
      refine lv_aload_n hx hb dL_law_405 rfl (lv_at hl 3 rfl) ?_
      refine lv_iload_n hx hb dL_law_406 rfl (lv_at hl 0 rfl) ?_
      refine lv_iconst (v := 2) hx hb dL_law_407 (by decide) ?_
      refine lv_iadd hx hb dL_law_408 ?_
      refine va_sld hx hb hX hbl hbA hw.2.2 (law_in 2 (by decide) hi0 hi6 hL) dL_law_409 ?_
      refine law_callX (As := [.int (xs (i + 1).toNatClampNeg), .int (xs (i + 2).toNatClampNeg)]) (rest := []) cx hw hA (t_X11_variant l G adx (xs (i + 1).toNatClampNeg) (xs (i + 2).toNatClampNeg) μx gx) rfl ml_L_62 im_X11_variant se_X11_variant in_X11 co_X11_variant rfl hd_X11_variant rfl ⟨Nat.le_of_ble_eq_true rfl, Nat.le_of_ble_eq_true rfl⟩ hl.1 rfl (Nat.le_of_ble_eq_true rfl) dL_law_410 ⟨hc1, hs1⟩ ⟨rfl, rfl⟩ (fun H locs hw => ?_)
      refine lv_pop hx hb dL_law_413 rfl ?_
      refine lv_aload_n hx hb dL_law_414 rfl (lv_at hl 1 rfl) ?_
      refine lv_aload_n hx hb dL_law_415 rfl (lv_at hl 3 rfl) ?_
      refine lv_iload_n hx hb dL_law_416 rfl (lv_at hl 0 rfl) ?_
      refine lv_iconst (v := 1) hx hb dL_law_417 (by decide) ?_
      refine lv_iadd hx hb dL_law_418 ?_
      refine va_sld hx hb hX hbl hbA hw.2.2 (law_in 1 (by decide) hi0 hi6 hL) dL_law_419 ?_
      refine lv_aload_n hx hb dL_law_420 rfl (lv_at hl 3 rfl) ?_
      refine lv_iload_n hx hb dL_law_421 rfl (lv_at hl 0 rfl) ?_
      refine lv_iconst (v := 2) hx hb dL_law_422 (by decide) ?_
      refine lv_iadd hx hb dL_law_423 ?_
      refine va_sld hx hb hX hbl hbA hw.2.2 (law_in 2 (by decide) hi0 hi6 hL) dL_law_424 ?_
      refine law_callM (As := [.int (xs (i + 1).toNatClampNeg), .int (xs (i + 2).toNatClampNeg)]) (rest := []) cx hw hA (t_X12_variant l G adm (xs (i + 1).toNatClampNeg) (xs (i + 2).toNatClampNeg) μm gm) rfl ml_L_65 im_X12_variant se_X12_variant in_X12 co_X12_variant rfl hd_X12_variant rfl ⟨Nat.le_of_ble_eq_true rfl, Nat.le_of_ble_eq_true rfl⟩ hl.1 rfl (Nat.le_of_ble_eq_true rfl) dL_law_425 ⟨hc1, hs1⟩ ⟨rfl, rfl⟩ (fun H locs hw => ?_)
      refine lv_pop hx hb dL_law_428 rfl ?_
      refine lv_goto (tgt := 682) hx hb dL_law_429 (by decide) ?_
      exact next μx1 μm1 H locs hw hR1
    by_cases c2_12 : v0 = 12
    · subst c2_12
      refine lv_tableIn (tgt := 432) hx hb dL_law_33 (by decide +kernel) (by decide +kernel) rfl (by decide) ?_
      obtain ⟨⟨rx, μx1⟩, gx, ⟨rm, μm1⟩, gm, hR1, hq⟩ := h_kinds (xs (i + 1).toNatClampNeg) (xs (i + 2).toNatClampNeg) μx μm hR
      refine lv_aload_n hx hb dL_law_432 rfl (lv_at hl 2 rfl) ?_
      refine lv_aload_n hx hb dL_law_433 rfl (lv_at hl 3 rfl) ?_
      refine lv_iload_n hx hb dL_law_434 rfl (lv_at hl 0 rfl) ?_
      refine lv_iconst (v := 1) hx hb dL_law_435 (by decide) ?_
      refine lv_iadd hx hb dL_law_436 ?_
      refine va_sld hx hb hX hbl hbA hw.2.2 (law_in 1 (by decide) hi0 hi6 hL) dL_law_437 ?_
      refine lv_aload_n hx hb dL_law_438 rfl (lv_at hl 3 rfl) ?_
      refine lv_iload_n hx hb dL_law_439 rfl (lv_at hl 0 rfl) ?_
      refine lv_iconst (v := 2) hx hb dL_law_440 (by decide) ?_
      refine lv_iadd hx hb dL_law_441 ?_
      refine va_sld hx hb hX hbl hbA hw.2.2 (law_in 2 (by decide) hi0 hi6 hL) dL_law_442 ?_
      refine law_callX (As := [.int (xs (i + 1).toNatClampNeg), .int (xs (i + 2).toNatClampNeg)]) (rest := []) cx hw hA (t_X11_kinds l G adx (xs (i + 1).toNatClampNeg) (xs (i + 2).toNatClampNeg) μx gx) rfl ml_L_66 im_X11_kinds se_X11_kinds in_X11 co_X11_kinds rfl hd_X11_kinds rfl ⟨Nat.le_of_ble_eq_true rfl, Nat.le_of_ble_eq_true rfl⟩ hl.1 rfl (Nat.le_of_ble_eq_true rfl) dL_law_443 ⟨hc1, hs1⟩ ⟨rfl, rfl⟩ (fun H locs hw => ?_)
      refine lv_aload_n hx hb dL_law_446 rfl (lv_at hl 1 rfl) ?_
      refine lv_aload_n hx hb dL_law_447 rfl (lv_at hl 3 rfl) ?_
      refine lv_iload_n hx hb dL_law_448 rfl (lv_at hl 0 rfl) ?_
      refine lv_iconst (v := 1) hx hb dL_law_449 (by decide) ?_
      refine lv_iadd hx hb dL_law_450 ?_
      refine va_sld hx hb hX hbl hbA hw.2.2 (law_in 1 (by decide) hi0 hi6 hL) dL_law_451 ?_
      refine lv_aload_n hx hb dL_law_452 rfl (lv_at hl 3 rfl) ?_
      refine lv_iload_n hx hb dL_law_453 rfl (lv_at hl 0 rfl) ?_
      refine lv_iconst (v := 2) hx hb dL_law_454 (by decide) ?_
      refine lv_iadd hx hb dL_law_455 ?_
      refine va_sld hx hb hX hbl hbA hw.2.2 (law_in 2 (by decide) hi0 hi6 hL) dL_law_456 ?_
      refine law_callM (As := [.int (xs (i + 1).toNatClampNeg), .int (xs (i + 2).toNatClampNeg)]) (rest := [.int rx]) cx hw hA (t_X12_kinds l G adm (xs (i + 1).toNatClampNeg) (xs (i + 2).toNatClampNeg) μm gm) rfl ml_L_69 im_X12_kinds se_X12_kinds in_X12 co_X12_kinds rfl hd_X12_kinds rfl ⟨Nat.le_of_ble_eq_true rfl, Nat.le_of_ble_eq_true rfl⟩ hl.1 rfl (Nat.le_of_ble_eq_true rfl) dL_law_457 ⟨hc1, hs1⟩ ⟨rfl, rfl⟩ (fun H locs hw => ?_)
      refine lv_icmp_eq (tgt := 682) hx hb dL_law_460 (by decide) (fun _ => ?_) (fun c9 => absurd hq c9)
      exact next μx1 μm1 H locs hw hR1
    by_cases c2_13 : v0 = 13
    · subst c2_13
      refine lv_tableIn (tgt := 465) hx hb dL_law_33 (by decide +kernel) (by decide +kernel) rfl (by decide) ?_
      obtain ⟨⟨rx, μx1⟩, gx, ⟨rm, μm1⟩, gm, hR1⟩ := h_run (xs (i + 1).toNatClampNeg) (xs (i + 2).toNatClampNeg) μx μm hR
      refine lv_aload_n hx hb dL_law_465 rfl (lv_at hl 2 rfl) ?_
      refine lv_aload_n hx hb dL_law_466 rfl (lv_at hl 3 rfl) ?_
      refine lv_iload_n hx hb dL_law_467 rfl (lv_at hl 0 rfl) ?_
      refine lv_iconst (v := 1) hx hb dL_law_468 (by decide) ?_
      refine lv_iadd hx hb dL_law_469 ?_
      refine va_sld hx hb hX hbl hbA hw.2.2 (law_in 1 (by decide) hi0 hi6 hL) dL_law_470 ?_
      refine lv_aload_n hx hb dL_law_471 rfl (lv_at hl 3 rfl) ?_
      refine lv_iload_n hx hb dL_law_472 rfl (lv_at hl 0 rfl) ?_
      refine lv_iconst (v := 2) hx hb dL_law_473 (by decide) ?_
      refine lv_iadd hx hb dL_law_474 ?_
      refine va_sld hx hb hX hbl hbA hw.2.2 (law_in 2 (by decide) hi0 hi6 hL) dL_law_475 ?_
      refine law_callX (As := [.int (xs (i + 1).toNatClampNeg), .int (xs (i + 2).toNatClampNeg)]) (rest := []) cx hw hA (t_X11_run l G adx (xs (i + 1).toNatClampNeg) (xs (i + 2).toNatClampNeg) μx gx) rfl ml_L_70 im_X11_run se_X11_run in_X11 co_X11_run rfl hd_X11_run rfl ⟨Nat.le_of_ble_eq_true rfl, Nat.le_of_ble_eq_true rfl⟩ hl.1 rfl (Nat.le_of_ble_eq_true rfl) dL_law_476 ⟨hc1, hs1⟩ ⟨rfl, rfl⟩ (fun H locs hw => ?_)
      refine lv_pop hx hb dL_law_479 rfl ?_
      refine lv_aload_n hx hb dL_law_480 rfl (lv_at hl 1 rfl) ?_
      refine lv_aload_n hx hb dL_law_481 rfl (lv_at hl 3 rfl) ?_
      refine lv_iload_n hx hb dL_law_482 rfl (lv_at hl 0 rfl) ?_
      refine lv_iconst (v := 1) hx hb dL_law_483 (by decide) ?_
      refine lv_iadd hx hb dL_law_484 ?_
      refine va_sld hx hb hX hbl hbA hw.2.2 (law_in 1 (by decide) hi0 hi6 hL) dL_law_485 ?_
      refine lv_aload_n hx hb dL_law_486 rfl (lv_at hl 3 rfl) ?_
      refine lv_iload_n hx hb dL_law_487 rfl (lv_at hl 0 rfl) ?_
      refine lv_iconst (v := 2) hx hb dL_law_488 (by decide) ?_
      refine lv_iadd hx hb dL_law_489 ?_
      refine va_sld hx hb hX hbl hbA hw.2.2 (law_in 2 (by decide) hi0 hi6 hL) dL_law_490 ?_
      refine law_callM (As := [.int (xs (i + 1).toNatClampNeg), .int (xs (i + 2).toNatClampNeg)]) (rest := []) cx hw hA (t_X12_run l G adm (xs (i + 1).toNatClampNeg) (xs (i + 2).toNatClampNeg) μm gm) rfl ml_L_73 im_X12_run se_X12_run in_X12 co_X12_run rfl hd_X12_run rfl ⟨Nat.le_of_ble_eq_true rfl, Nat.le_of_ble_eq_true rfl⟩ hl.1 rfl (Nat.le_of_ble_eq_true rfl) dL_law_491 ⟨hc1, hs1⟩ ⟨rfl, rfl⟩ (fun H locs hw => ?_)
      refine lv_pop hx hb dL_law_494 rfl ?_
      refine lv_goto (tgt := 682) hx hb dL_law_495 (by decide) ?_
      exact next μx1 μm1 H locs hw hR1
    by_cases c2_14 : v0 = 14
    · subst c2_14
      refine lv_tableIn (tgt := 498) hx hb dL_law_33 (by decide +kernel) (by decide +kernel) rfl (by decide) ?_
      obtain ⟨⟨rx, μx1⟩, gx, ⟨rm, μm1⟩, gm, hR1⟩ := h_output (xs (i + 1).toNatClampNeg) (xs (i + 2).toNatClampNeg) μx μm hR
      refine lv_aload_n hx hb dL_law_498 rfl (lv_at hl 2 rfl) ?_
      refine lv_aload_n hx hb dL_law_499 rfl (lv_at hl 3 rfl) ?_
      refine lv_iload_n hx hb dL_law_500 rfl (lv_at hl 0 rfl) ?_
      refine lv_iconst (v := 1) hx hb dL_law_501 (by decide) ?_
      refine lv_iadd hx hb dL_law_502 ?_
      refine va_sld hx hb hX hbl hbA hw.2.2 (law_in 1 (by decide) hi0 hi6 hL) dL_law_503 ?_
      refine lv_aload_n hx hb dL_law_504 rfl (lv_at hl 3 rfl) ?_
      refine lv_iload_n hx hb dL_law_505 rfl (lv_at hl 0 rfl) ?_
      refine lv_iconst (v := 2) hx hb dL_law_506 (by decide) ?_
      refine lv_iadd hx hb dL_law_507 ?_
      refine va_sld hx hb hX hbl hbA hw.2.2 (law_in 2 (by decide) hi0 hi6 hL) dL_law_508 ?_
      refine law_callX (As := [.int (xs (i + 1).toNatClampNeg), .int (xs (i + 2).toNatClampNeg)]) (rest := []) cx hw hA (t_X11_output l G adx (xs (i + 1).toNatClampNeg) (xs (i + 2).toNatClampNeg) μx gx) rfl ml_L_74 im_X11_output se_X11_output in_X11 co_X11_output rfl hd_X11_output rfl ⟨Nat.le_of_ble_eq_true rfl, Nat.le_of_ble_eq_true rfl⟩ hl.1 rfl (Nat.le_of_ble_eq_true rfl) dL_law_509 ⟨hc1, hs1⟩ ⟨rfl, rfl⟩ (fun H locs hw => ?_)
      refine lv_pop hx hb dL_law_512 rfl ?_
      refine lv_aload_n hx hb dL_law_513 rfl (lv_at hl 1 rfl) ?_
      refine lv_aload_n hx hb dL_law_514 rfl (lv_at hl 3 rfl) ?_
      refine lv_iload_n hx hb dL_law_515 rfl (lv_at hl 0 rfl) ?_
      refine lv_iconst (v := 1) hx hb dL_law_516 (by decide) ?_
      refine lv_iadd hx hb dL_law_517 ?_
      refine va_sld hx hb hX hbl hbA hw.2.2 (law_in 1 (by decide) hi0 hi6 hL) dL_law_518 ?_
      refine lv_aload_n hx hb dL_law_519 rfl (lv_at hl 3 rfl) ?_
      refine lv_iload_n hx hb dL_law_520 rfl (lv_at hl 0 rfl) ?_
      refine lv_iconst (v := 2) hx hb dL_law_521 (by decide) ?_
      refine lv_iadd hx hb dL_law_522 ?_
      refine va_sld hx hb hX hbl hbA hw.2.2 (law_in 2 (by decide) hi0 hi6 hL) dL_law_523 ?_
      refine law_callM (As := [.int (xs (i + 1).toNatClampNeg), .int (xs (i + 2).toNatClampNeg)]) (rest := []) cx hw hA (t_X12_output l G adm (xs (i + 1).toNatClampNeg) (xs (i + 2).toNatClampNeg) μm gm) rfl ml_L_77 im_X12_output se_X12_output in_X12 co_X12_output rfl hd_X12_output rfl ⟨Nat.le_of_ble_eq_true rfl, Nat.le_of_ble_eq_true rfl⟩ hl.1 rfl (Nat.le_of_ble_eq_true rfl) dL_law_524 ⟨hc1, hs1⟩ ⟨rfl, rfl⟩ (fun H locs hw => ?_)
      refine lv_pop hx hb dL_law_527 rfl ?_
      refine lv_goto (tgt := 682) hx hb dL_law_528 (by decide) ?_
      exact next μx1 μm1 H locs hw hR1
    by_cases c2_15 : v0 = 15
    · subst c2_15
      refine lv_tableIn (tgt := 531) hx hb dL_law_33 (by decide +kernel) (by decide +kernel) rfl (by decide) ?_
      obtain ⟨⟨rx, μx1⟩, gx, ⟨rm, μm1⟩, gm, hR1⟩ := h_place (xs (i + 1).toNatClampNeg) μx μm hR
      refine lv_aload_n hx hb dL_law_531 rfl (lv_at hl 2 rfl) ?_
      refine lv_aload_n hx hb dL_law_532 rfl (lv_at hl 3 rfl) ?_
      refine lv_iload_n hx hb dL_law_533 rfl (lv_at hl 0 rfl) ?_
      refine lv_iconst (v := 1) hx hb dL_law_534 (by decide) ?_
      refine lv_iadd hx hb dL_law_535 ?_
      refine va_sld hx hb hX hbl hbA hw.2.2 (law_in 1 (by decide) hi0 hi6 hL) dL_law_536 ?_
      refine law_callX (As := [.int (xs (i + 1).toNatClampNeg)]) (rest := []) cx hw hA (t_X11_place l G adx (xs (i + 1).toNatClampNeg) μx gx) rfl ml_L_78 im_X11_place se_X11_place in_X11 co_X11_place rfl hd_X11_place rfl ⟨Nat.le_of_ble_eq_true rfl, Nat.le_of_ble_eq_true rfl⟩ hl.1 rfl (Nat.le_of_ble_eq_true rfl) dL_law_537 ⟨hc1, hs1⟩ ⟨rfl, rfl⟩ (fun H locs hw => ?_)
      refine lv_pop hx hb dL_law_540 rfl ?_
      refine lv_aload_n hx hb dL_law_541 rfl (lv_at hl 1 rfl) ?_
      refine lv_aload_n hx hb dL_law_542 rfl (lv_at hl 3 rfl) ?_
      refine lv_iload_n hx hb dL_law_543 rfl (lv_at hl 0 rfl) ?_
      refine lv_iconst (v := 1) hx hb dL_law_544 (by decide) ?_
      refine lv_iadd hx hb dL_law_545 ?_
      refine va_sld hx hb hX hbl hbA hw.2.2 (law_in 1 (by decide) hi0 hi6 hL) dL_law_546 ?_
      refine law_callM (As := [.int (xs (i + 1).toNatClampNeg)]) (rest := []) cx hw hA (t_X12_place l G adm (xs (i + 1).toNatClampNeg) μm gm) rfl ml_L_81 im_X12_place se_X12_place in_X12 co_X12_place rfl hd_X12_place rfl ⟨Nat.le_of_ble_eq_true rfl, Nat.le_of_ble_eq_true rfl⟩ hl.1 rfl (Nat.le_of_ble_eq_true rfl) dL_law_547 ⟨hc1, hs1⟩ ⟨rfl, rfl⟩ (fun H locs hw => ?_)
      refine lv_pop hx hb dL_law_550 rfl ?_
      refine lv_goto (tgt := 682) hx hb dL_law_551 (by decide) ?_
      exact next μx1 μm1 H locs hw hR1
    by_cases c2_16 : v0 = 16
    · subst c2_16
      refine lv_tableIn (tgt := 554) hx hb dL_law_33 (by decide +kernel) (by decide +kernel) rfl (by decide) ?_
      obtain ⟨⟨rx, μx1⟩, gx, ⟨rm, μm1⟩, gm, hR1⟩ := h_value  μx μm hR
      refine lv_aload_n hx hb dL_law_554 rfl (lv_at hl 2 rfl) ?_
      refine law_callX (As := []) (rest := []) cx hw hA (t_X11_value l G adx  μx gx) rfl ml_L_82 im_X11_value se_X11_value in_X11 co_X11_value rfl hd_X11_value rfl ⟨Nat.le_of_ble_eq_true rfl, Nat.le_of_ble_eq_true rfl⟩ hl.1 rfl (Nat.le_of_ble_eq_true rfl) dL_law_555 ⟨hc1, hs1⟩ ⟨rfl, rfl⟩ (fun H locs hw => ?_)
      refine lv_pop hx hb dL_law_558 rfl ?_
      refine lv_aload_n hx hb dL_law_559 rfl (lv_at hl 1 rfl) ?_
      refine law_callM (As := []) (rest := []) cx hw hA (t_X12_value l G adm  μm gm) rfl ml_L_85 im_X12_value se_X12_value in_X12 co_X12_value rfl hd_X12_value rfl ⟨Nat.le_of_ble_eq_true rfl, Nat.le_of_ble_eq_true rfl⟩ hl.1 rfl (Nat.le_of_ble_eq_true rfl) dL_law_560 ⟨hc1, hs1⟩ ⟨rfl, rfl⟩ (fun H locs hw => ?_)
      refine lv_pop hx hb dL_law_563 rfl ?_
      refine lv_goto (tgt := 682) hx hb dL_law_564 (by decide) ?_
      exact next μx1 μm1 H locs hw hR1
    by_cases c2_17 : v0 = 17
    · subst c2_17
      refine lv_tableIn (tgt := 567) hx hb dL_law_33 (by decide +kernel) (by decide +kernel) rfl (by decide) ?_
      obtain ⟨⟨rx, μx1⟩, gx, ⟨rm, μm1⟩, gm, hR1⟩ := h_write (xs (i + 1).toNatClampNeg) μx μm hR
      refine lv_aload_n hx hb dL_law_567 rfl (lv_at hl 2 rfl) ?_
      refine lv_aload_n hx hb dL_law_568 rfl (lv_at hl 3 rfl) ?_
      refine lv_iload_n hx hb dL_law_569 rfl (lv_at hl 0 rfl) ?_
      refine lv_iconst (v := 1) hx hb dL_law_570 (by decide) ?_
      refine lv_iadd hx hb dL_law_571 ?_
      refine va_sld hx hb hX hbl hbA hw.2.2 (law_in 1 (by decide) hi0 hi6 hL) dL_law_572 ?_
      refine law_callX2 (As := [.int (xs (i + 1).toNatClampNeg)]) (rest := []) cx hw hA hst (hpw sq sv l G adx (xs (i + 1).toNatClampNeg) μx gx) rfl ml_L_86 im_X11_write se_X11_write in_X11 co_X11_write rfl hd_X11_write rfl ⟨Nat.le_of_ble_eq_true rfl, Nat.le_of_ble_eq_true rfl⟩ hl.1 rfl (Nat.le_of_ble_eq_true rfl) dL_law_573 ⟨hc1, hs1⟩ ⟨rfl, rfl⟩ (fun H locs hw => ?_)
      refine lv_pop hx hb dL_law_576 rfl ?_
      refine lv_aload_n hx hb dL_law_577 rfl (lv_at hl 1 rfl) ?_
      refine lv_aload_n hx hb dL_law_578 rfl (lv_at hl 3 rfl) ?_
      refine lv_iload_n hx hb dL_law_579 rfl (lv_at hl 0 rfl) ?_
      refine lv_iconst (v := 1) hx hb dL_law_580 (by decide) ?_
      refine lv_iadd hx hb dL_law_581 ?_
      refine va_sld hx hb hX hbl hbA hw.2.2 (law_in 1 (by decide) hi0 hi6 hL) dL_law_582 ?_
      refine law_callM (As := [.int (xs (i + 1).toNatClampNeg)]) (rest := []) cx hw hA (t_X12_write l G adm (xs (i + 1).toNatClampNeg) μm gm) rfl ml_L_89 im_X12_write se_X12_write in_X12 co_X12_write rfl hd_X12_write rfl ⟨Nat.le_of_ble_eq_true rfl, Nat.le_of_ble_eq_true rfl⟩ hl.1 rfl (Nat.le_of_ble_eq_true rfl) dL_law_583 ⟨hc1, hs1⟩ ⟨rfl, rfl⟩ (fun H locs hw => ?_)
      refine lv_pop hx hb dL_law_586 rfl ?_
      refine lv_goto (tgt := 682) hx hb dL_law_587 (by decide) ?_
      exact next μx1 μm1 H locs hw hR1
    by_cases c2_18 : v0 = 18
    · subst c2_18
      refine lv_tableIn (tgt := 590) hx hb dL_law_33 (by decide +kernel) (by decide +kernel) rfl (by decide) ?_
      obtain ⟨⟨rx, μx1⟩, gx, ⟨rm, μm1⟩, gm, hR1⟩ := h_octet (xs (i + 1).toNatClampNeg) μx μm hR
      refine lv_aload_n hx hb dL_law_590 rfl (lv_at hl 2 rfl) ?_
      refine lv_aload_n hx hb dL_law_591 rfl (lv_at hl 3 rfl) ?_
      refine lv_iload_n hx hb dL_law_592 rfl (lv_at hl 0 rfl) ?_
      refine lv_iconst (v := 1) hx hb dL_law_593 (by decide) ?_
      refine lv_iadd hx hb dL_law_594 ?_
      refine va_sld hx hb hX hbl hbA hw.2.2 (law_in 1 (by decide) hi0 hi6 hL) dL_law_595 ?_
      refine law_callX (As := [.int (xs (i + 1).toNatClampNeg)]) (rest := []) cx hw hA (t_X11_octet l G adx (xs (i + 1).toNatClampNeg) μx gx) rfl ml_L_90 im_X11_octet se_X11_octet in_X11 co_X11_octet rfl hd_X11_octet rfl ⟨Nat.le_of_ble_eq_true rfl, Nat.le_of_ble_eq_true rfl⟩ hl.1 rfl (Nat.le_of_ble_eq_true rfl) dL_law_596 ⟨hc1, hs1⟩ ⟨rfl, rfl⟩ (fun H locs hw => ?_)
      refine lv_pop hx hb dL_law_599 rfl ?_
      refine lv_aload_n hx hb dL_law_600 rfl (lv_at hl 1 rfl) ?_
      refine lv_aload_n hx hb dL_law_601 rfl (lv_at hl 3 rfl) ?_
      refine lv_iload_n hx hb dL_law_602 rfl (lv_at hl 0 rfl) ?_
      refine lv_iconst (v := 1) hx hb dL_law_603 (by decide) ?_
      refine lv_iadd hx hb dL_law_604 ?_
      refine va_sld hx hb hX hbl hbA hw.2.2 (law_in 1 (by decide) hi0 hi6 hL) dL_law_605 ?_
      refine law_callM (As := [.int (xs (i + 1).toNatClampNeg)]) (rest := []) cx hw hA (t_X12_octet l G adm (xs (i + 1).toNatClampNeg) μm gm) rfl ml_L_93 im_X12_octet se_X12_octet in_X12 co_X12_octet rfl hd_X12_octet rfl ⟨Nat.le_of_ble_eq_true rfl, Nat.le_of_ble_eq_true rfl⟩ hl.1 rfl (Nat.le_of_ble_eq_true rfl) dL_law_606 ⟨hc1, hs1⟩ ⟨rfl, rfl⟩ (fun H locs hw => ?_)
      refine lv_pop hx hb dL_law_609 rfl ?_
      refine lv_goto (tgt := 682) hx hb dL_law_610 (by decide) ?_
      exact next μx1 μm1 H locs hw hR1
    by_cases c2_19 : v0 = 19
    · subst c2_19
      refine lv_tableIn (tgt := 613) hx hb dL_law_33 (by decide +kernel) (by decide +kernel) rfl (by decide) ?_
      obtain ⟨⟨rx, μx1⟩, gx, ⟨rm, μm1⟩, gm, hR1⟩ := h_agree  μx μm hR
      refine lv_aload_n hx hb dL_law_613 rfl (lv_at hl 2 rfl) ?_
      refine law_callX (As := []) (rest := []) cx hw hA (t_X11_agree l G adx  μx gx) rfl ml_L_94 im_X11_agree se_X11_agree in_X11 co_X11_agree rfl hd_X11_agree rfl ⟨Nat.le_of_ble_eq_true rfl, Nat.le_of_ble_eq_true rfl⟩ hl.1 rfl (Nat.le_of_ble_eq_true rfl) dL_law_614 ⟨hc1, hs1⟩ ⟨rfl, rfl⟩ (fun H locs hw => ?_)
      refine lv_pop hx hb dL_law_617 rfl ?_
      refine lv_aload_n hx hb dL_law_618 rfl (lv_at hl 1 rfl) ?_
      refine law_callM (As := []) (rest := []) cx hw hA (t_X12_agree l G adm  μm gm) rfl ml_L_97 im_X12_agree se_X12_agree in_X12 co_X12_agree rfl hd_X12_agree rfl ⟨Nat.le_of_ble_eq_true rfl, Nat.le_of_ble_eq_true rfl⟩ hl.1 rfl (Nat.le_of_ble_eq_true rfl) dL_law_619 ⟨hc1, hs1⟩ ⟨rfl, rfl⟩ (fun H locs hw => ?_)
      refine lv_pop hx hb dL_law_622 rfl ?_
      refine lv_goto (tgt := 682) hx hb dL_law_623 (by decide) ?_
      exact next μx1 μm1 H locs hw hR1
    by_cases c2_20 : v0 = 20
    · subst c2_20
      refine lv_tableIn (tgt := 626) hx hb dL_law_33 (by decide +kernel) (by decide +kernel) rfl (by decide) ?_
      obtain ⟨⟨rx, μx1⟩, gx, ⟨rm, μm1⟩, gm, hR1⟩ := h_saved  μx μm hR
      refine lv_aload_n hx hb dL_law_626 rfl (lv_at hl 2 rfl) ?_
      refine law_callX (As := []) (rest := []) cx hw hA (t_X11_saved l G adx  μx gx) rfl ml_L_98 im_X11_saved se_X11_saved in_X11 co_X11_saved rfl hd_X11_saved rfl ⟨Nat.le_of_ble_eq_true rfl, Nat.le_of_ble_eq_true rfl⟩ hl.1 rfl (Nat.le_of_ble_eq_true rfl) dL_law_627 ⟨hc1, hs1⟩ ⟨rfl, rfl⟩ (fun H locs hw => ?_)
      refine lv_pop hx hb dL_law_630 rfl ?_
      refine lv_aload_n hx hb dL_law_631 rfl (lv_at hl 1 rfl) ?_
      refine law_callM (As := []) (rest := []) cx hw hA (t_X12_saved l G adm  μm gm) rfl ml_L_101 im_X12_saved se_X12_saved in_X12 co_X12_saved rfl hd_X12_saved rfl ⟨Nat.le_of_ble_eq_true rfl, Nat.le_of_ble_eq_true rfl⟩ hl.1 rfl (Nat.le_of_ble_eq_true rfl) dL_law_632 ⟨hc1, hs1⟩ ⟨rfl, rfl⟩ (fun H locs hw => ?_)
      refine lv_pop hx hb dL_law_635 rfl ?_
      refine lv_goto (tgt := 682) hx hb dL_law_636 (by decide) ?_
      exact next μx1 μm1 H locs hw hR1
    by_cases c2_21 : v0 = 21
    · subst c2_21
      refine lv_tableIn (tgt := 639) hx hb dL_law_33 (by decide +kernel) (by decide +kernel) rfl (by decide) ?_
      obtain ⟨⟨rx, μx1⟩, gx, ⟨rm, μm1⟩, gm, hR1⟩ := h_op (xs (i + 1).toNatClampNeg) (xs (i + 2).toNatClampNeg) (xs (i + 3).toNatClampNeg) μx μm hR
      refine lv_aload_n hx hb dL_law_639 rfl (lv_at hl 2 rfl) ?_
      refine lv_aload_n hx hb dL_law_640 rfl (lv_at hl 3 rfl) ?_
      refine lv_iload_n hx hb dL_law_641 rfl (lv_at hl 0 rfl) ?_
      refine lv_iconst (v := 1) hx hb dL_law_642 (by decide) ?_
      refine lv_iadd hx hb dL_law_643 ?_
      refine va_sld hx hb hX hbl hbA hw.2.2 (law_in 1 (by decide) hi0 hi6 hL) dL_law_644 ?_
      refine lv_aload_n hx hb dL_law_645 rfl (lv_at hl 3 rfl) ?_
      refine lv_iload_n hx hb dL_law_646 rfl (lv_at hl 0 rfl) ?_
      refine lv_iconst (v := 2) hx hb dL_law_647 (by decide) ?_
      refine lv_iadd hx hb dL_law_648 ?_
      refine va_sld hx hb hX hbl hbA hw.2.2 (law_in 2 (by decide) hi0 hi6 hL) dL_law_649 ?_
      refine lv_aload_n hx hb dL_law_650 rfl (lv_at hl 3 rfl) ?_
      refine lv_iload_n hx hb dL_law_651 rfl (lv_at hl 0 rfl) ?_
      refine lv_iconst (v := 3) hx hb dL_law_652 (by decide) ?_
      refine lv_iadd hx hb dL_law_653 ?_
      refine va_sld hx hb hX hbl hbA hw.2.2 (law_in 3 (by decide) hi0 hi6 hL) dL_law_654 ?_
      refine law_callX (As := [.int (xs (i + 1).toNatClampNeg), .int (xs (i + 2).toNatClampNeg), .int (xs (i + 3).toNatClampNeg)]) (rest := []) cx hw hA (t_X11_op l G adx (xs (i + 1).toNatClampNeg) (xs (i + 2).toNatClampNeg) (xs (i + 3).toNatClampNeg) μx gx) rfl ml_L_102 im_X11_op se_X11_op in_X11 co_X11_op rfl hd_X11_op rfl ⟨Nat.le_of_ble_eq_true rfl, Nat.le_of_ble_eq_true rfl⟩ hl.1 rfl (Nat.le_of_ble_eq_true rfl) dL_law_655 ⟨hc1, hs1⟩ ⟨rfl, rfl⟩ (fun H locs hw => ?_)
      refine lv_pop hx hb dL_law_658 rfl ?_
      refine lv_aload_n hx hb dL_law_659 rfl (lv_at hl 1 rfl) ?_
      refine lv_aload_n hx hb dL_law_660 rfl (lv_at hl 3 rfl) ?_
      refine lv_iload_n hx hb dL_law_661 rfl (lv_at hl 0 rfl) ?_
      refine lv_iconst (v := 1) hx hb dL_law_662 (by decide) ?_
      refine lv_iadd hx hb dL_law_663 ?_
      refine va_sld hx hb hX hbl hbA hw.2.2 (law_in 1 (by decide) hi0 hi6 hL) dL_law_664 ?_
      refine lv_aload_n hx hb dL_law_665 rfl (lv_at hl 3 rfl) ?_
      refine lv_iload_n hx hb dL_law_666 rfl (lv_at hl 0 rfl) ?_
      refine lv_iconst (v := 2) hx hb dL_law_667 (by decide) ?_
      refine lv_iadd hx hb dL_law_668 ?_
      refine va_sld hx hb hX hbl hbA hw.2.2 (law_in 2 (by decide) hi0 hi6 hL) dL_law_669 ?_
      refine lv_aload_n hx hb dL_law_670 rfl (lv_at hl 3 rfl) ?_
      refine lv_iload_n hx hb dL_law_671 rfl (lv_at hl 0 rfl) ?_
      refine lv_iconst (v := 3) hx hb dL_law_672 (by decide) ?_
      refine lv_iadd hx hb dL_law_673 ?_
      refine va_sld hx hb hX hbl hbA hw.2.2 (law_in 3 (by decide) hi0 hi6 hL) dL_law_674 ?_
      refine law_callM (As := [.int (xs (i + 1).toNatClampNeg), .int (xs (i + 2).toNatClampNeg), .int (xs (i + 3).toNatClampNeg)]) (rest := []) cx hw hA (t_X12_op l G adm (xs (i + 1).toNatClampNeg) (xs (i + 2).toNatClampNeg) (xs (i + 3).toNatClampNeg) μm gm) rfl ml_L_106 im_X12_op se_X12_op in_X12 co_X12_op rfl hd_X12_op rfl ⟨Nat.le_of_ble_eq_true rfl, Nat.le_of_ble_eq_true rfl⟩ hl.1 rfl (Nat.le_of_ble_eq_true rfl) dL_law_675 ⟨hc1, hs1⟩ ⟨rfl, rfl⟩ (fun H locs hw => ?_)
      refine lv_pop hx hb dL_law_678 rfl ?_
      refine lv_goto (tgt := 682) hx hb dL_law_679 (by decide) ?_
      exact next μx1 μm1 H locs hw hR1
    refine lv_tableOut (tgt := 682) hx hb dL_law_33 (sw_out (L := [(0 : Int32), (1 : Int32), (2 : Int32), (3 : Int32), (4 : Int32), (5 : Int32), (6 : Int32), (7 : Int32), (8 : Int32), (9 : Int32), (10 : Int32), (11 : Int32), (12 : Int32), (13 : Int32), (14 : Int32), (15 : Int32), (16 : Int32), (17 : Int32), (18 : Int32), (19 : Int32), (20 : Int32), (21 : Int32)]) (by decide +kernel) (by simp only [List.forall_mem_cons]; exact ⟨c2_0, c2_1, c2_2, c2_3, c2_4, c2_5, c2_6, c2_7, c2_8, c2_9, c2_10, c2_11, c2_12, c2_13, c2_14, c2_15, c2_16, c2_17, c2_18, c2_19, c2_20, c2_21, fun _ q => absurd q List.not_mem_nil⟩)) (by decide) ?_
    exact next μx μm H locs hw hR
set_option maxHeartbeats 40000000 in
set_option maxRecDepth 100000 in
theorem whole_open2 {p : Program} {e : Env} {s : State} {m : MethodId} {below : List Frame} {meth : Method} {c : Code} (l : Launch) (hflags : l.flags = flags0) {b L : Nat} {xs : Nat → Int32} (hL : L ≤ 3072) (C0 : lw_At p s m meth c b L xs) (Rl : Mem → Mem → Prop) (pw : Int32 → Mem → Option (Int32 × Mem)) (hpw : ∀ (sq sv : Nat) (l : Launch) (G : Gt) (ad : Nat → Nat) (a1 : Int32) (μ : Mem) {r : Int32} {μz : Mem}, pw a1 μ = some (r, μz) → M2 sq sv l yX11_write cX11_write 2 (some .int) ({ frames := 252, cells := 0, slots := 0, locals := 5997 } : Room) G [.ref (ad 0), .int a1] (wd 0 G ad μ) (eI 0 G ad r μz)) (h_feed : ∀ (a1 a2 a3 a4 a5 : Int32) (μx μm : Mem), Rl μx μm → ok (p_X11_feed a1 a2 a3 a4 a5 μx) (fun q => ok (p_X12_feed a1 a2 a3 a4 a5 μm) (fun z => Rl q.2 z.2))) (h_end : ∀ (a1 : Int32) (μx μm : Mem), Rl μx μm → ok (p_X11_end a1 μx) (fun q => ok (p_X12_end a1 μm) (fun z => Rl q.2 z.2))) (h_program : ∀ (μx μm : Mem), Rl μx μm → ok (p_X11_program  μx) (fun q => ok (p_X12_program  μm) (fun z => Rl q.2 z.2))) (h_task : ∀ (μx μm : Mem), Rl μx μm → ok (p_X11_task  μx) (fun q => ok (p_X12_task  μm) (fun z => Rl q.2 z.2))) (h_values : ∀ (μx μm : Mem), Rl μx μm → ok (p_X11_values  μx) (fun q => ok (p_X12_values  μm) (fun z => Rl q.2 z.2))) (h_fault : ∀ (μx μm : Mem), Rl μx μm → ok (p_X11_fault  μx) (fun q => ok (p_X12_fault  μm) (fun z => Rl q.2 z.2))) (h_set : ∀ (a1 a2 : Int32) (μx μm : Mem), Rl μx μm → ok (p_X11_set a1 a2 μx) (fun q => ok (p_X12_set a1 a2 μm) (fun z => Rl q.2 z.2))) (h_is : ∀ (a1 : Int32) (μx μm : Mem), Rl μx μm → ok (p_X11_is a1 μx) (fun q => ok (p_X12_is a1 μm) (fun z => Rl q.2 z.2))) (h_function : ∀ (a1 a2 : Int32) (μx μm : Mem), Rl μx μm → ok (p_X11_function a1 a2 μx) (fun q => ok (p_X12_function a1 a2 μm) (fun z => Rl q.2 z.2))) (h_specialise : ∀ (μx μm : Mem), Rl μx μm → ok (p_X11_specialise  μx) (fun q => ok (p_X12_specialise  μm) (fun z => Rl q.2 z.2))) (h_residue : ∀ (a1 : Int32) (μx μm : Mem), Rl μx μm → ok (p_X11_residue a1 μx) (fun q => ok (p_X12_residue a1 μm) (fun z => Rl q.2 z.2))) (h_variant : ∀ (a1 a2 : Int32) (μx μm : Mem), Rl μx μm → ok (p_X11_variant a1 a2 μx) (fun q => ok (p_X12_variant a1 a2 μm) (fun z => Rl q.2 z.2))) (h_kinds : ∀ (a1 a2 : Int32) (μx μm : Mem), Rl μx μm → ok (p_X11_kinds a1 a2 μx) (fun q => ok (p_X12_kinds a1 a2 μm) (fun z => Rl q.2 z.2 ∧ q.1 = z.1))) (h_run : ∀ (a1 a2 : Int32) (μx μm : Mem), Rl μx μm → ok (p_X11_run a1 a2 μx) (fun q => ok (p_X12_run a1 a2 μm) (fun z => Rl q.2 z.2))) (h_output : ∀ (a1 a2 : Int32) (μx μm : Mem), Rl μx μm → ok (p_X11_output a1 a2 μx) (fun q => ok (p_X12_output a1 a2 μm) (fun z => Rl q.2 z.2))) (h_place : ∀ (a1 : Int32) (μx μm : Mem), Rl μx μm → ok (p_X11_place a1 μx) (fun q => ok (p_X12_place a1 μm) (fun z => Rl q.2 z.2))) (h_value : ∀ (μx μm : Mem), Rl μx μm → ok (p_X11_value  μx) (fun q => ok (p_X12_value  μm) (fun z => Rl q.2 z.2))) (h_write : ∀ (a1 : Int32) (μx μm : Mem), Rl μx μm → ok (pw a1 μx) (fun q => ok (p_X12_write a1 μm) (fun z => Rl q.2 z.2))) (h_octet : ∀ (a1 : Int32) (μx μm : Mem), Rl μx μm → ok (p_X11_octet a1 μx) (fun q => ok (p_X12_octet a1 μm) (fun z => Rl q.2 z.2))) (h_agree : ∀ (μx μm : Mem), Rl μx μm → ok (p_X11_agree  μx) (fun q => ok (p_X12_agree  μm) (fun z => Rl q.2 z.2))) (h_saved : ∀ (μx μm : Mem), Rl μx μm → ok (p_X11_saved  μx) (fun q => ok (p_X12_saved  μm) (fun z => Rl q.2 z.2))) (h_op : ∀ (a1 a2 a3 : Int32) (μx μm : Mem), Rl μx μm → ok (p_X11_op a1 a2 a3 μx) (fun q => ok (p_X12_op a1 a2 a3 μm) (fun z => Rl q.2 z.2))) (hR0 : Rl μX0 μM0) : W p l e room_1 s m #[Value.ref b] below meth c s.heap [] 0 0 (lw_Z below #[Value.ref b] s) (entryFrame m ([Value.ref b] : List Value).toArray 4) := by
  obtain ⟨hx, hb, hr, hml, hown, hts0, hX, hbl, hlocks, hgv⟩ := id C0
  have hts : ∀ w ∈ lw_all, w.before #[Value.ref b] s = true := fun w h => hts0 w (lw_all_tbl h)
  obtain ⟨G, hK⟩ := KK_start hts (hts0 _ ao_in)
  obtain ⟨A, hAe⟩ : ∃ A : Nat → Prop, A = fun q : Nat => s.heap.size ≤ q := ⟨_, rfl⟩
  have hA : ∀ q : Nat, s.heap.size ≤ q → A q := fun q h => by rw [hAe]; exact h
  have cx : Cx p s m c #[Value.ref b] cL_law 4 RL G := ⟨hx, hb, hml, hown, hts, hK⟩
  have hw : Wd G A [] s.heap s.heap [] := ⟨fun k q h => by simp at h, ⟨fun i j p q h => by simp at h, fun k q h => by simp at h⟩, va_S.rf⟩
  have hl := lv_entry ([.ref b]) (n := 4) (Nat.le_of_ble_eq_true rfl)
  rw [lg_entry_eq]
  generalize (lg_sl ([.ref b]) ++ List.replicate (4 - (lg_sl ([.ref b])).length) Slot.unset).toArray = ls at hl ⊢
  have hl : lv_has ls 4 [(0, .ref b)] := hl
  refine r_new cx hw hA inX11 (ci := 10) rfl tyX11_ok cl_L_7 ia_X11 in_X11 nfX11_ok (Nat.le_of_ble_eq_true rfl) (Nat.le_of_ble_eq_true rfl) dL_law_0 (fun q1 H hw => ?_)
  have hw : Wd G A [(q1, ob 10 [.null, .int 0, .int 0, .null, .null, .null, .null, .null, .null, .null, .int 0, .null, .null, .null, .null, .null, .null, .null, .null, .null])] s.heap _ _ := hw
  refine lv_dup hx hb dL_law_3 rfl ?_
  refine r_callIV (As := []) (rest := [.ref q1]) (wr := []) cx hw hA (c_X l G q1) [0] [] rfl rfl rfl rfl rfl ml_L_9 im_X11_init in_X11 co_X11_init rfl hd_X11_init rfl ⟨Nat.le_of_ble_eq_true rfl, Nat.le_of_ble_eq_true rfl⟩ hl.1 rfl (Nat.le_of_ble_eq_true rfl) dL_law_4 ⟨Nat.le_of_ble_eq_true rfl, Nat.le_of_ble_eq_true rfl⟩ (fun u2 H locs _ hw => ?_)
  have hw : Wd G A (wd 0 G (adX q1 u2) μX0) s.heap H locs := by
    rw [← wX_eq]
    exact hw
  refine lv_astore_n (lv' := [(1, .ref q1), (0, .ref b)]) hx hb dL_law_7 rfl hl (by decide) rfl (fun ls hl => ?_)
  refine r_new cx hw hA inX12 (ci := 11) rfl tyX12_ok cl_L_10 ia_X12 in_X12 nfX12_ok (Nat.le_of_ble_eq_true rfl) (Nat.le_of_ble_eq_true rfl) dL_law_8 (fun q4 H hw => ?_)
  have hw : Wd G A (wd 0 G (adX q1 u2) μX0 ++ [(q4, ob 11 [.int 0, .int 0, .null, .int 0, .int 0, .int 0, .int 0, .int 0, .null, .null, .null, .null, .null, .null, .null, .null, .null, .int 0, .int 0, .null, .null, .null, .null, .null, .null, .null, .null, .int 0, .int 0, .null, .null, .null, .int 0, .null, .null, .null, .int 0, .int 0, .null, .null, .null, .null, .int 0, .int 0, .int 0, .int 0, .int 0, .int 0, .int 0, .int 0, .null, .null, .null, .null, .null, .null, .int 0, .null, .int 0, .null, .null, .null, .null, .null, .null, .int 0, .int 0, .int 0, .int 0, .int 0, .null, .null, .null, .int 0, .null, .int 0, .int 0, .int 0, .null, .null, .null, .null, .null, .null, .null, .null, .null, .int 0, .int 0, .int 0, .int 0, .int 0, .int 0, .int 0, .int 0, .int 0, .int 0, .int 0, .null, .null, .null, .null, .null, .null, .null, .null, .null, .null, .null, .null, .int 0, .int 0, .null, .null, .null, .null, .null, .null, .int 0, .null, .null, .null, .int 0, .null, .null, .null, .int 0, .null, .null, .null, .null, .null, .int 0, .int 0, .null, .null, .null, .null, .null, .int 0, .null])]) s.heap H locs := hw
  refine lv_dup hx hb dL_law_11 rfl ?_
  refine r_callIV (As := []) (rest := [.ref q4]) (wr := wd 0 G (adX q1 u2) μX0) cx hw hA (c_M l G q4) [161] (List.range 161) (ap_one (wd_len (w := 0))) rfl (ap_l (wd_len (w := 0))) nd_x (by decide +kernel) ml_L_12 im_X12_init in_X12 co_X12_init rfl hd_X12_init rfl ⟨Nat.le_of_ble_eq_true rfl, Nat.le_of_ble_eq_true rfl⟩ hl.1 rfl (Nat.le_of_ble_eq_true rfl) dL_law_12 ⟨Nat.le_of_ble_eq_true rfl, Nat.le_of_ble_eq_true rfl⟩ (fun u5 H locs _ hw => ?_)
  have hw : Wd G A (wd 0 G (adX q1 u2) μX0 ++ wd 1 G (adM q4 u5) μM0) s.heap H locs := by
    rw [← wM_eq]
    exact hw
  refine lv_astore_n (lv' := [(2, .ref q4), (1, .ref q1), (0, .ref b)]) hx hb dL_law_15 rfl hl (by decide) rfl (fun ls hl => ?_)
  refine lv_iconst (v := 0) hx hb dL_law_16 (by decide) ?_
  refine lv_istore_n (lv' := [(3, .int 0), (2, .ref q4), (1, .ref q1), (0, .ref b)]) hx hb dL_law_17 rfl hl (by decide) rfl (fun ls hl => ?_)
  have z0 : (0 : Int32).toInt = 0 := by decide
  obtain ⟨sq, sv, hst⟩ := st_start hgv hts0 (A := A) (fun a h h2 => by rw [hAe] at h2; exact absurd h (Nat.not_lt.mpr h2))
  exact law_loop2 l (adx := adX q1 u2) (adm := adM q4 u5) cx hr hlocks hAe hX hbl hL (Nat.le_of_ble_eq_true rfl) (Nat.le_of_ble_eq_true rfl) hst Rl pw hpw h_feed h_end h_program h_task h_values h_fault h_set h_is h_function h_specialise h_residue h_variant h_kinds h_run h_output h_place h_value h_write h_octet h_agree h_saved h_op (L + 7) 0 μX0 μM0 ls H locs (by omega) (by omega) (by omega) hl hw hR0
