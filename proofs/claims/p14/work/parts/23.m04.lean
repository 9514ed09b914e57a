theorem p_X4_readPart_ex : ∃ f : (Nat → Int32 → Int32 → Mem → Option Mem) → Nat → Int32 → Int32 → Mem → Option Mem, ∀ (RE : Nat → Int32 → Int32 → Mem → Option Mem) (a1 : Nat) (a2 : Int32) (a3 : Int32) (μ : Mem), f  RE a1 a2 a3 μ = bd (p_X4_isWell μ) (fun r2 μ1 => (if r2 = (0 : Int32) then some μ1 else bd (p_X4_here μ1) (fun r5 μ4 => (if (30 : Int32) ≤ (μ4.1 a1 2) then bw (p_X4_fail (μ4.1 16 2) μ4) (fun μ7 => some μ7) else (if a3 ≤ (30 : Int32) then (if r5 = (91 : Int32) then bv (sF μ4 16 2 ((μ4.1 16 2) + (1 : Int32))) (fun μ27 => bw (p_X2_add a1 (8589934592 : Int64) (0 : Int64) μ27) (fun μ28 => bw (RE a1 a2 (a3 + (1 : Int32)) μ28) (fun μ30 => bd (p_X4_take (44 : Int32) μ30) (fun r33 μ32 => bw (RE a1 a2 (a3 + (1 : Int32)) μ32) (fun μ34 => bd (p_X4_take (93 : Int32) μ34) (fun r37 μ36 => some μ36)))))) else (if (s_X4_isNumber r5) = (0 : Int32) then (if r5 = (42 : Int32) then bd (p_X2_stars a1 μ4) (fun r16 μ15 => (if a2 ≤ r16 then bw (p_X4_fail (μ15.1 16 2) μ15) (fun μ18 => some μ18) else bv (sF μ15 16 2 ((μ15.1 16 2) + (1 : Int32))) (fun μ20 => bw (p_X2_add a1 (17179869184 : Int64) (0 : Int64) μ20) (fun μ21 => some μ21)))) else bw (p_X4_fail (μ4.1 16 2) μ4) (fun μ13 => some μ13)) else bd (p_X4_readNumber μ4) (fun r24 μ23 => bw (p_X2_add a1 r24 (0 : Int64) μ23) (fun μ25 => some μ25)))) else bw (p_X4_fail (μ4.1 16 2) μ4) (fun μ38 => some μ38)))))) := ⟨fun (RE : Nat → Int32 → Int32 → Mem → Option Mem) (a1 : Nat) (a2 : Int32) (a3 : Int32) (μ : Mem) => bd (p_X4_isWell μ) (fun r2 μ1 => (if r2 = (0 : Int32) then some μ1 else bd (p_X4_here μ1) (fun r5 μ4 => (if (30 : Int32) ≤ (μ4.1 a1 2) then bw (p_X4_fail (μ4.1 16 2) μ4) (fun μ7 => some μ7) else (if a3 ≤ (30 : Int32) then (if r5 = (91 : Int32) then bv (sF μ4 16 2 ((μ4.1 16 2) + (1 : Int32))) (fun μ27 => bw (p_X2_add a1 (8589934592 : Int64) (0 : Int64) μ27) (fun μ28 => bw (RE a1 a2 (a3 + (1 : Int32)) μ28) (fun μ30 => bd (p_X4_take (44 : Int32) μ30) (fun r33 μ32 => bw (RE a1 a2 (a3 + (1 : Int32)) μ32) (fun μ34 => bd (p_X4_take (93 : Int32) μ34) (fun r37 μ36 => some μ36)))))) else (if (s_X4_isNumber r5) = (0 : Int32) then (if r5 = (42 : Int32) then bd (p_X2_stars a1 μ4) (fun r16 μ15 => (if a2 ≤ r16 then bw (p_X4_fail (μ15.1 16 2) μ15) (fun μ18 => some μ18) else bv (sF μ15 16 2 ((μ15.1 16 2) + (1 : Int32))) (fun μ20 => bw (p_X2_add a1 (17179869184 : Int64) (0 : Int64) μ20) (fun μ21 => some μ21)))) else bw (p_X4_fail (μ4.1 16 2) μ4) (fun μ13 => some μ13)) else bd (p_X4_readNumber μ4) (fun r24 μ23 => bw (p_X2_add a1 r24 (0 : Int64) μ23) (fun μ25 => some μ25)))) else bw (p_X4_fail (μ4.1 16 2) μ4) (fun μ38 => some μ38)))))), fun _ _ _ _ _ => rfl⟩
noncomputable def p_X4_readPart : (Nat → Int32 → Int32 → Mem → Option Mem) → Nat → Int32 → Int32 → Mem → Option Mem := Classical.choose p_X4_readPart_ex
theorem p_X4_readPart_eq (RE : Nat → Int32 → Int32 → Mem → Option Mem) (a1 : Nat) (a2 : Int32) (a3 : Int32) (μ : Mem) : p_X4_readPart  RE a1 a2 a3 μ = bd (p_X4_isWell μ) (fun r2 μ1 => (if r2 = (0 : Int32) then some μ1 else bd (p_X4_here μ1) (fun r5 μ4 => (if (30 : Int32) ≤ (μ4.1 a1 2) then bw (p_X4_fail (μ4.1 16 2) μ4) (fun μ7 => some μ7) else (if a3 ≤ (30 : Int32) then (if r5 = (91 : Int32) then bv (sF μ4 16 2 ((μ4.1 16 2) + (1 : Int32))) (fun μ27 => bw (p_X2_add a1 (8589934592 : Int64) (0 : Int64) μ27) (fun μ28 => bw (RE a1 a2 (a3 + (1 : Int32)) μ28) (fun μ30 => bd (p_X4_take (44 : Int32) μ30) (fun r33 μ32 => bw (RE a1 a2 (a3 + (1 : Int32)) μ32) (fun μ34 => bd (p_X4_take (93 : Int32) μ34) (fun r37 μ36 => some μ36)))))) else (if (s_X4_isNumber r5) = (0 : Int32) then (if r5 = (42 : Int32) then bd (p_X2_stars a1 μ4) (fun r16 μ15 => (if a2 ≤ r16 then bw (p_X4_fail (μ15.1 16 2) μ15) (fun μ18 => some μ18) else bv (sF μ15 16 2 ((μ15.1 16 2) + (1 : Int32))) (fun μ20 => bw (p_X2_add a1 (17179869184 : Int64) (0 : Int64) μ20) (fun μ21 => some μ21)))) else bw (p_X4_fail (μ4.1 16 2) μ4) (fun μ13 => some μ13)) else bd (p_X4_readNumber μ4) (fun r24 μ23 => bw (p_X2_add a1 r24 (0 : Int64) μ23) (fun μ25 => some μ25)))) else bw (p_X4_fail (μ4.1 16 2) μ4) (fun μ38 => some μ38)))))) := Classical.choose_spec p_X4_readPart_ex  RE a1 a2 a3 μ
set_option maxHeartbeats 4000000 in
set_option maxRecDepth 100000 in
theorem t_X4_readPart (l : Launch) (G : Gt) (ad : Nat → Nat) {fE lE : Nat} (RE : Nat → Int32 → Int32 → Mem → Option Mem) (hRE : ∀ (z1 : Nat) (w1 : sh 0 z1 = (0, 1)) (z2 : Int32) (z3 : Int32) (μ1 : Mem) (μ2 : Mem), RE z1 z2 z3 μ1 = some μ2 → Mt l yX4_readPart cX4_readPart 5 none ({ frames := fE, cells := 0, slots := 0, locals := lE } : Room) G [.ref (ad 16), .ref (ad z1), .int z2, .int z3] (wd 0 G ad μ1) (eV 0 G ad μ2)) (a1 : Nat) (q1 : sh 0 a1 = (0, 1)) (a2 : Int32) (a3 : Int32) (μ : Mem) {μz : Mem} (h : p_X4_readPart RE a1 a2 a3 μ = some μz) : Mt l yX4_readPart cX4_readPart 5 none ({ frames := fE + 5, cells := 0, slots := 0, locals := lE + 134 } : Room) G [.ref (ad 16), .ref (ad a1), .int a2, .int a3] (wd 0 G ad μ) (eV 0 G ad μz) := by
  refine Bk.mt (by decide) rfl (Nat.le_of_ble_eq_true rfl) ?_
  intro p e s m below meth c A ls H locs cx hr hlk hA hl hw
  have hx := cx.1
  have hb := cx.2.1
  have hl : lv_has ls 5 [(0, .ref (ad 16)), (1, .ref (ad a1)), (2, .int a2), (3, .int a3)] := hl
  rw [p_X4_readPart_eq] at h
  refine lv_aload_n hx hb dX4_readPart_0 rfl (lv_at hl 0 rfl) ?_
  obtain ⟨r2, μ1, gr2, h⟩ := bd_some h
  refine g_callVI (As := []) (rest := []) cx hw hA (t_X4_isWell l G ad μ gr2) shx_16 rfl ml_X4_43 im_X4_isWell se_X4_isWell in_X4 co_X4_isWell rfl hd_X4_isWell rfl ⟨(by dsimp only; omega), (by dsimp only; omega)⟩ hl.1 rfl (Nat.le_of_ble_eq_true rfl) dX4_readPart_1 ⟨rfl, rfl⟩ (fun H locs hw => ?_)
  refine lv_if_ne (tgt := 8) hx hb dX4_readPart_4 (by decide) (fun c3 => ?_) (fun c3 => ?_)
  · rw [if_neg c3] at h
    refine lv_aload_n hx hb dX4_readPart_8 rfl (lv_at hl 0 rfl) ?_
    obtain ⟨r5, μ4, gr5, h⟩ := bd_some h
    refine g_callVI (As := []) (rest := []) cx hw hA (t_X4_here l G ad μ1 gr5) shx_16 rfl ml_X4_47 im_X4_here se_X4_here in_X4 co_X4_here rfl hd_X4_here rfl ⟨(by dsimp only; omega), (by dsimp only; omega)⟩ hl.1 rfl (Nat.le_of_ble_eq_true rfl) dX4_readPart_9 ⟨rfl, rfl⟩ (fun H locs hw => ?_)
    refine lv_istore (lv' := [(4, .int r5), (0, .ref (ad 16)), (1, .ref (ad a1)), (2, .int a2), (3, .int a3)]) hx hb dX4_readPart_12 hl (by decide) rfl (fun ls hl => ?_)
    refine lv_aload_n hx hb dX4_readPart_14 rfl (lv_at hl 2 rfl) ?_
    refine g_get cx hw inX2 (ci := 1) rfl 2 (by decide) rfl (v := .int (μ4.1 a1 2)) q1 rfl fl_X4_180 dX4_readPart_15 ?_
    refine lv_bipush (v := 30) hx hb dX4_readPart_18 (by decide) ?_
    refine lv_icmp_ge (tgt := 29) hx hb dX4_readPart_20 (by decide) (fun c6 => ?_) (fun c6 => ?_)
    · rw [if_pos c6] at h
      refine lv_aload_n hx hb dX4_readPart_29 rfl (lv_at hl 1 rfl) ?_
      refine lv_aload_n hx hb dX4_readPart_30 rfl (lv_at hl 1 rfl) ?_
      refine g_get cx hw inX4 (ci := 3) rfl 2 (by decide) rfl (v := .int (μ4.1 16 2)) shx_16 rfl fl_X4_19 dX4_readPart_31 ?_
      obtain ⟨μ7, gμ7, h⟩ := bw_some h
      refine g_callVV (As := [.int (μ4.1 16 2)]) (rest := []) cx hw hA (t_X4_fail l G ad (μ4.1 16 2) μ4 gμ7) shx_16 rfl ml_X4_51 im_X4_fail se_X4_fail in_X4 co_X4_fail rfl hd_X4_fail rfl ⟨(by dsimp only; omega), (by dsimp only; omega)⟩ hl.1 rfl (Nat.le_of_ble_eq_true rfl) dX4_readPart_34 ⟨rfl, rfl⟩ (fun H locs hw => ?_)
      refine lv_goto (tgt := 164) hx hb dX4_readPart_37 (by decide) ?_
      exact g_vret cx hr hlk hw h dX4_readPart_164
    · rw [if_neg c6] at h
      refine lv_iload_n hx hb dX4_readPart_23 rfl (lv_at hl 4 rfl) ?_
      refine lv_bipush (v := 30) hx hb dX4_readPart_24 (by decide) ?_
      refine lv_icmp_le (tgt := 40) hx hb dX4_readPart_26 (by decide) (fun c9 => ?_) (fun c9 => ?_)
      · rw [if_pos c9] at h
        refine lv_iload hx hb dX4_readPart_40 (lv_at hl 0 rfl) ?_
        refine lv_bipush (v := 91) hx hb dX4_readPart_42 (by decide) ?_
        refine lv_icmp_ne (tgt := 100) hx hb dX4_readPart_44 (by decide) (fun c10 => ?_) (fun c10 => ?_)
        · rw [if_neg c10] at h
          refine lv_iload hx hb dX4_readPart_100 (lv_at hl 0 rfl) ?_
          refine s_callI (As := [.int r5]) (rest := []) cx hw hA (t_X4_isNumber l G r5) ml_X4_107 st_X4_isNumber in_X4 co_X4_isNumber hd_X4_isNumber rfl ⟨(by dsimp only; omega), (by dsimp only; omega)⟩ hl.1 rfl (Nat.le_of_ble_eq_true rfl) dX4_readPart_102 rfl (fun H locs hw => ?_)
          refine lv_if_eq (tgt := 120) hx hb dX4_readPart_105 (by decide) (fun c11 => ?_) (fun c11 => ?_)
          · rw [if_pos c11] at h
            refine lv_iload hx hb dX4_readPart_120 (lv_at hl 0 rfl) ?_
            refine lv_bipush (v := 42) hx hb dX4_readPart_122 (by decide) ?_
            refine lv_icmp_ne (tgt := 156) hx hb dX4_readPart_124 (by decide) (fun c12 => ?_) (fun c12 => ?_)
            · rw [if_neg c12] at h
              refine lv_aload_n hx hb dX4_readPart_156 rfl (lv_at hl 1 rfl) ?_
              refine lv_aload_n hx hb dX4_readPart_157 rfl (lv_at hl 1 rfl) ?_
              refine g_get cx hw inX4 (ci := 3) rfl 2 (by decide) rfl (v := .int (μ4.1 16 2)) shx_16 rfl fl_X4_19 dX4_readPart_158 ?_
              obtain ⟨μ13, gμ13, h⟩ := bw_some h
              refine g_callVV (As := [.int (μ4.1 16 2)]) (rest := []) cx hw hA (t_X4_fail l G ad (μ4.1 16 2) μ4 gμ13) shx_16 rfl ml_X4_51 im_X4_fail se_X4_fail in_X4 co_X4_fail rfl hd_X4_fail rfl ⟨(by dsimp only; omega), (by dsimp only; omega)⟩ hl.1 rfl (Nat.le_of_ble_eq_true rfl) dX4_readPart_161 ⟨rfl, rfl⟩ (fun H locs hw => ?_)
              exact g_vret cx hr hlk hw h dX4_readPart_164
            · rw [if_pos c12] at h
              refine lv_aload_n hx hb dX4_readPart_127 rfl (lv_at hl 2 rfl) ?_
              obtain ⟨r16, μ15, gr16, h⟩ := bd_some h
              refine g_callVI (As := []) (rest := []) cx hw hA (t_X2_stars l G ad a1 q1 μ4 gr16) q1 rfl ml_X4_186 im_X2_stars se_X2_stars in_X2 co_X2_stars rfl hd_X2_stars rfl ⟨(by dsimp only; omega), (by dsimp only; omega)⟩ hl.1 rfl (Nat.le_of_ble_eq_true rfl) dX4_readPart_128 ⟨rfl, rfl⟩ (fun H locs hw => ?_)
              refine lv_iload_n hx hb dX4_readPart_131 rfl (lv_at hl 3 rfl) ?_
              refine lv_icmp_ge (tgt := 156) hx hb dX4_readPart_132 (by decide) (fun c17 => ?_) (fun c17 => ?_)
              · rw [if_pos c17] at h
                refine lv_aload_n hx hb dX4_readPart_156 rfl (lv_at hl 1 rfl) ?_
                refine lv_aload_n hx hb dX4_readPart_157 rfl (lv_at hl 1 rfl) ?_
                refine g_get cx hw inX4 (ci := 3) rfl 2 (by decide) rfl (v := .int (μ15.1 16 2)) shx_16 rfl fl_X4_19 dX4_readPart_158 ?_
                obtain ⟨μ18, gμ18, h⟩ := bw_some h
                refine g_callVV (As := [.int (μ15.1 16 2)]) (rest := []) cx hw hA (t_X4_fail l G ad (μ15.1 16 2) μ15 gμ18) shx_16 rfl ml_X4_51 im_X4_fail se_X4_fail in_X4 co_X4_fail rfl hd_X4_fail rfl ⟨(by dsimp only; omega), (by dsimp only; omega)⟩ hl.1 rfl (Nat.le_of_ble_eq_true rfl) dX4_readPart_161 ⟨rfl, rfl⟩ (fun H locs hw => ?_)
                exact g_vret cx hr hlk hw h dX4_readPart_164
              · rw [if_neg c17] at h
                refine lv_aload_n hx hb dX4_readPart_135 rfl (lv_at hl 1 rfl) ?_
                refine lv_dup hx hb dX4_readPart_136 rfl ?_
                refine g_get cx hw inX4 (ci := 3) rfl 2 (by decide) rfl (v := .int (μ15.1 16 2)) shx_16 rfl fl_X4_19 dX4_readPart_137 ?_
                refine lv_iconst (v := 1) hx hb dX4_readPart_140 (by decide) ?_
                refine lv_iadd hx hb dX4_readPart_141 ?_
                refine g_put cx hw inX4 (ci := 3) rfl tyX4_ok nmX4 2 (by decide) rfl rfl rfl rfl shx_16 h fl_X4_19 dX4_readPart_142 (fun μ20 H locs h hw => ?_)
                refine lv_aload_n hx hb dX4_readPart_145 rfl (lv_at hl 2 rfl) ?_
                refine lv_ldc2 hx hb cx.2.2.2.1 (cx.2.2.2.2.1 _ cs_X4_189) dX4_readPart_146 ?_
                refine lv_lconst (v := 0) hx hb dX4_readPart_149 (by decide) ?_
                obtain ⟨μ21, gμ21, h⟩ := bw_some h
                refine g_callVV (As := [.long 17179869184, .long 0]) (rest := []) cx hw hA (t_X2_add l G ad a1 q1 (17179869184 : Int64) (0 : Int64) μ20 gμ21) q1 rfl ml_X4_183 im_X2_add se_X2_add in_X2 co_X2_add rfl hd_X2_add rfl ⟨(by dsimp only; omega), (by dsimp only; omega)⟩ hl.1 rfl (Nat.le_of_ble_eq_true rfl) dX4_readPart_150 ⟨rfl, rfl⟩ (fun H locs hw => ?_)
                refine lv_goto (tgt := 164) hx hb dX4_readPart_153 (by decide) ?_
                exact g_vret cx hr hlk hw h dX4_readPart_164
          · rw [if_neg c11] at h
            refine lv_aload_n hx hb dX4_readPart_108 rfl (lv_at hl 2 rfl) ?_
            refine lv_aload_n hx hb dX4_readPart_109 rfl (lv_at hl 1 rfl) ?_
            obtain ⟨r24, μ23, gr24, h⟩ := bd_some h
            refine g_callVL (As := []) (rest := [.ref (ad a1)]) cx hw hA (t_X4_readNumber l G ad μ4 gr24) shx_16 rfl ml_X4_110 im_X4_readNumber se_X4_readNumber in_X4 co_X4_readNumber rfl hd_X4_readNumber rfl ⟨(by dsimp only; omega), (by dsimp only; omega)⟩ hl.1 rfl (Nat.le_of_ble_eq_true rfl) dX4_readPart_110 ⟨rfl, rfl⟩ (fun H locs hw => ?_)
            refine lv_lconst (v := 0) hx hb dX4_readPart_113 (by decide) ?_
            obtain ⟨μ25, gμ25, h⟩ := bw_some h
            refine g_callVV (As := [.long r24, .long 0]) (rest := []) cx hw hA (t_X2_add l G ad a1 q1 r24 (0 : Int64) μ23 gμ25) q1 rfl ml_X4_183 im_X2_add se_X2_add in_X2 co_X2_add rfl hd_X2_add rfl ⟨(by dsimp only; omega), (by dsimp only; omega)⟩ hl.1 rfl (Nat.le_of_ble_eq_true rfl) dX4_readPart_114 ⟨rfl, rfl⟩ (fun H locs hw => ?_)
            refine lv_goto (tgt := 164) hx hb dX4_readPart_117 (by decide) ?_
            exact g_vret cx hr hlk hw h dX4_readPart_164
        · rw [if_pos c10] at h
          refine lv_aload_n hx hb dX4_readPart_47 rfl (lv_at hl 1 rfl) ?_
          refine lv_dup hx hb dX4_readPart_48 rfl ?_
          refine g_get cx hw inX4 (ci := 3) rfl 2 (by decide) rfl (v := .int (μ4.1 16 2)) shx_16 rfl fl_X4_19 dX4_readPart_49 ?_
          refine lv_iconst (v := 1) hx hb dX4_readPart_52 (by decide) ?_
          refine lv_iadd hx hb dX4_readPart_53 ?_
          refine g_put cx hw inX4 (ci := 3) rfl tyX4_ok nmX4 2 (by decide) rfl rfl rfl rfl shx_16 h fl_X4_19 dX4_readPart_54 (fun μ27 H locs h hw => ?_)
          refine lv_aload_n hx hb dX4_readPart_57 rfl (lv_at hl 2 rfl) ?_
          refine lv_ldc2 hx hb cx.2.2.2.1 (cx.2.2.2.2.1 _ cs_X4_181) dX4_readPart_58 ?_
          refine lv_lconst (v := 0) hx hb dX4_readPart_61 (by decide) ?_
          obtain ⟨μ28, gμ28, h⟩ := bw_some h
          refine g_callVV (As := [.long 8589934592, .long 0]) (rest := []) cx hw hA (t_X2_add l G ad a1 q1 (8589934592 : Int64) (0 : Int64) μ27 gμ28) q1 rfl ml_X4_183 im_X2_add se_X2_add in_X2 co_X2_add rfl hd_X2_add rfl ⟨(by dsimp only; omega), (by dsimp only; omega)⟩ hl.1 rfl (Nat.le_of_ble_eq_true rfl) dX4_readPart_62 ⟨rfl, rfl⟩ (fun H locs hw => ?_)
          refine lv_aload_n hx hb dX4_readPart_65 rfl (lv_at hl 1 rfl) ?_
          refine lv_aload_n hx hb dX4_readPart_66 rfl (lv_at hl 2 rfl) ?_
          refine lv_iload_n hx hb dX4_readPart_67 rfl (lv_at hl 3 rfl) ?_
          refine lv_iload_n hx hb dX4_readPart_68 rfl (lv_at hl 4 rfl) ?_
          refine lv_iconst (v := 1) hx hb dX4_readPart_69 (by decide) ?_
          refine lv_iadd hx hb dX4_readPart_70 ?_
          obtain ⟨μ30, gμ30, h⟩ := bw_some h
          refine g_callVV (As := [.ref (ad a1), .int a2, .int (a3 + (1 : Int32))]) (rest := []) cx hw hA (hRE a1 q1 a2 (a3 + (1 : Int32)) μ28 _ gμ30) shx_16 rfl ml_X4_170 im_X4_readPart se_X4_readPart in_X4 co_X4_readPart rfl hd_X4_readPart rfl ⟨(by dsimp only; omega), (by dsimp only; omega)⟩ hl.1 rfl (Nat.le_of_ble_eq_true rfl) dX4_readPart_71 ⟨rfl, rfl⟩ (fun H locs hw => ?_)
          refine lv_aload_n hx hb dX4_readPart_74 rfl (lv_at hl 1 rfl) ?_
          refine lv_bipush (v := 44) hx hb dX4_readPart_75 (by decide) ?_
          obtain ⟨r33, μ32, gr33, h⟩ := bd_some h
          refine g_callVI (As := [.int 44]) (rest := []) cx hw hA (t_X4_take l G ad (44 : Int32) μ30 gr33) shx_16 rfl ml_X4_70 im_X4_take se_X4_take in_X4 co_X4_take rfl hd_X4_take rfl ⟨(by dsimp only; omega), (by dsimp only; omega)⟩ hl.1 rfl (Nat.le_of_ble_eq_true rfl) dX4_readPart_77 ⟨rfl, rfl⟩ (fun H locs hw => ?_)
          refine lv_pop hx hb dX4_readPart_80 rfl ?_
          refine lv_aload_n hx hb dX4_readPart_81 rfl (lv_at hl 1 rfl) ?_
          refine lv_aload_n hx hb dX4_readPart_82 rfl (lv_at hl 2 rfl) ?_
          refine lv_iload_n hx hb dX4_readPart_83 rfl (lv_at hl 3 rfl) ?_
          refine lv_iload_n hx hb dX4_readPart_84 rfl (lv_at hl 4 rfl) ?_
          refine lv_iconst (v := 1) hx hb dX4_readPart_85 (by decide) ?_
          refine lv_iadd hx hb dX4_readPart_86 ?_
          obtain ⟨μ34, gμ34, h⟩ := bw_some h
          refine g_callVV (As := [.ref (ad a1), .int a2, .int (a3 + (1 : Int32))]) (rest := []) cx hw hA (hRE a1 q1 a2 (a3 + (1 : Int32)) μ32 _ gμ34) shx_16 rfl ml_X4_170 im_X4_readPart se_X4_readPart in_X4 co_X4_readPart rfl hd_X4_readPart rfl ⟨(by dsimp only; omega), (by dsimp only; omega)⟩ hl.1 rfl (Nat.le_of_ble_eq_true rfl) dX4_readPart_87 ⟨rfl, rfl⟩ (fun H locs hw => ?_)
          refine lv_aload_n hx hb dX4_readPart_90 rfl (lv_at hl 1 rfl) ?_
          refine lv_bipush (v := 93) hx hb dX4_readPart_91 (by decide) ?_
          obtain ⟨r37, μ36, gr37, h⟩ := bd_some h
          refine g_callVI (As := [.int 93]) (rest := []) cx hw hA (t_X4_take l G ad (93 : Int32) μ34 gr37) shx_16 rfl ml_X4_70 im_X4_take se_X4_take in_X4 co_X4_take rfl hd_X4_take rfl ⟨(by dsimp only; omega), (by dsimp only; omega)⟩ hl.1 rfl (Nat.le_of_ble_eq_true rfl) dX4_readPart_93 ⟨rfl, rfl⟩ (fun H locs hw => ?_)
          refine lv_pop hx hb dX4_readPart_96 rfl ?_
          refine lv_goto (tgt := 164) hx hb dX4_readPart_97 (by decide) ?_
          exact g_vret cx hr hlk hw h dX4_readPart_164
      · rw [if_neg c9] at h
        refine lv_aload_n hx hb dX4_readPart_29 rfl (lv_at hl 1 rfl) ?_
        refine lv_aload_n hx hb dX4_readPart_30 rfl (lv_at hl 1 rfl) ?_
        refine g_get cx hw inX4 (ci := 3) rfl 2 (by decide) rfl (v := .int (μ4.1 16 2)) shx_16 rfl fl_X4_19 dX4_readPart_31 ?_
        obtain ⟨μ38, gμ38, h⟩ := bw_some h
        refine g_callVV (As := [.int (μ4.1 16 2)]) (rest := []) cx hw hA (t_X4_fail l G ad (μ4.1 16 2) μ4 gμ38) shx_16 rfl ml_X4_51 im_X4_fail se_X4_fail in_X4 co_X4_fail rfl hd_X4_fail rfl ⟨(by dsimp only; omega), (by dsimp only; omega)⟩ hl.1 rfl (Nat.le_of_ble_eq_true rfl) dX4_readPart_34 ⟨rfl, rfl⟩ (fun H locs hw => ?_)
        refine lv_goto (tgt := 164) hx hb dX4_readPart_37 (by decide) ?_
        exact g_vret cx hr hlk hw h dX4_readPart_164
  · rw [if_pos c3] at h
    exact g_vret cx hr hlk hw h dX4_readPart_7
theorem pr_X4_readPart_ex : ∃ f : Nat → Nat → Int32 → Int32 → Mem → Option Mem, (∀ (a1 : Nat) (a2 : Int32) (a3 : Int32) μ, f 0 a1 a2 a3 μ = none) ∧ (∀ n (a1 : Nat) (a2 : Int32) (a3 : Int32) μ, f (n + 1) a1 a2 a3 μ = p_X4_readPart (f n) a1 a2 a3 μ) := ⟨fun n => Nat.rec (fun (a1 : Nat) (a2 : Int32) (a3 : Int32) _ => none) (fun _ ih => fun (a1 : Nat) (a2 : Int32) (a3 : Int32) μ => p_X4_readPart ih a1 a2 a3 μ) n, fun _ _ _ _ => rfl, fun _ _ _ _ _ => rfl⟩
noncomputable def pr_X4_readPart : Nat → Nat → Int32 → Int32 → Mem → Option Mem := Classical.choose pr_X4_readPart_ex
theorem pr_X4_readPart_z (a1 : Nat) (a2 : Int32) (a3 : Int32) (μ : Mem) : pr_X4_readPart 0 a1 a2 a3 μ = none := (Classical.choose_spec pr_X4_readPart_ex).1 a1 a2 a3 μ
theorem pr_X4_readPart_s (n : Nat) (a1 : Nat) (a2 : Int32) (a3 : Int32) (μ : Mem) : pr_X4_readPart (n + 1) a1 a2 a3 μ = p_X4_readPart (pr_X4_readPart n) a1 a2 a3 μ := (Classical.choose_spec pr_X4_readPart_ex).2 n a1 a2 a3 μ
theorem tpr_X4_readPart (l : Launch) (G : Gt) (ad : Nat → Nat) : ∀ (n : Nat) (a1 : Nat) (q1 : sh 0 a1 = (0, 1)) (a2 : Int32) (a3 : Int32) (μ : Mem) {μz : Mem}, pr_X4_readPart n a1 a2 a3 μ = some μz → Mt l yX4_readPart cX4_readPart 5 none ({ frames := n * 5, cells := 0, slots := 0, locals := n * 134 } : Room) G [.ref (ad 16), .ref (ad a1), .int a2, .int a3] (wd 0 G ad μ) (eV 0 G ad μz) := by
  intro n
  induction n with
  | zero => intro a1 q1 a2 a3 μ μz h; rw [pr_X4_readPart_z] at h; cases h
  | succ n ih =>
    intro a1 q1 a2 a3 μ μz h
    rw [pr_X4_readPart_s] at h
    have e1 : (n + 1) * 5 = n * 5 + 5 := Nat.succ_mul n 5
    have e2 : (n + 1) * 134 = n * 134 + 134 := Nat.succ_mul n 134
    rw [e1, e2]
    exact t_X4_readPart l G ad (pr_X4_readPart n) (fun a1 q1 a2 a3 μ1 μ2 hh => ih a1 q1 a2 a3 μ1 hh) a1 q1 a2 a3 μ h

theorem p_X4_takeEnd_ex : ∃ f : Mem → Option Mem, ∀  (μ : Mem), f  μ = bd (p_X4_isWell μ) (fun r2 μ1 => (if r2 = (0 : Int32) then some μ1 else (if (μ1.1 16 1) ≤ (μ1.1 16 2) then some μ1 else bw (p_X4_fail (μ1.1 16 2) μ1) (fun μ5 => some μ5)))) := ⟨fun  (μ : Mem) => bd (p_X4_isWell μ) (fun r2 μ1 => (if r2 = (0 : Int32) then some μ1 else (if (μ1.1 16 1) ≤ (μ1.1 16 2) then some μ1 else bw (p_X4_fail (μ1.1 16 2) μ1) (fun μ5 => some μ5)))), fun _ => rfl⟩
noncomputable def p_X4_takeEnd : Mem → Option Mem := Classical.choose p_X4_takeEnd_ex
theorem p_X4_takeEnd_eq  (μ : Mem) : p_X4_takeEnd  μ = bd (p_X4_isWell μ) (fun r2 μ1 => (if r2 = (0 : Int32) then some μ1 else (if (μ1.1 16 1) ≤ (μ1.1 16 2) then some μ1 else bw (p_X4_fail (μ1.1 16 2) μ1) (fun μ5 => some μ5)))) := Classical.choose_spec p_X4_takeEnd_ex  μ
set_option maxHeartbeats 4000000 in
set_option maxRecDepth 100000 in
theorem t_X4_takeEnd (l : Launch) (G : Gt) (ad : Nat → Nat)  (μ : Mem) {μz : Mem} (h : p_X4_takeEnd  μ = some μz) : Mt l yX4_takeEnd cX4_takeEnd 1 none ({ frames := 1, cells := 0, slots := 0, locals := 21 } : Room) G [.ref (ad 16)] (wd 0 G ad μ) (eV 0 G ad μz) := by
  refine Bk.mt (by decide) rfl (Nat.le_of_ble_eq_true rfl) ?_
  intro p e s m below meth c A ls H locs cx hr hlk hA hl hw
  have hx := cx.1
  have hb := cx.2.1
  have hl : lv_has ls 1 [(0, .ref (ad 16))] := hl
  rw [p_X4_takeEnd_eq] at h
  refine lv_aload_n hx hb dX4_takeEnd_0 rfl (lv_at hl 0 rfl) ?_
  obtain ⟨r2, μ1, gr2, h⟩ := bd_some h
  refine g_callVI (As := []) (rest := []) cx hw hA (t_X4_isWell l G ad μ gr2) shx_16 rfl ml_X4_43 im_X4_isWell se_X4_isWell in_X4 co_X4_isWell rfl hd_X4_isWell rfl ⟨(Nat.le_of_ble_eq_true rfl), (Nat.le_of_ble_eq_true rfl)⟩ hl.1 rfl (Nat.le_of_ble_eq_true rfl) dX4_takeEnd_1 ⟨rfl, rfl⟩ (fun H locs hw => ?_)
  refine lv_if_eq (tgt := 26) hx hb dX4_takeEnd_4 (by decide) (fun c3 => ?_) (fun c3 => ?_)
  · rw [if_pos c3] at h
    exact g_vret cx hr hlk hw h dX4_takeEnd_26
  · rw [if_neg c3] at h
    refine lv_aload_n hx hb dX4_takeEnd_7 rfl (lv_at hl 0 rfl) ?_
    refine g_get cx hw inX4 (ci := 3) rfl 2 (by decide) rfl (v := .int (μ1.1 16 2)) shx_16 rfl fl_X4_19 dX4_takeEnd_8 ?_
    refine lv_aload_n hx hb dX4_takeEnd_11 rfl (lv_at hl 0 rfl) ?_
    refine g_get cx hw inX4 (ci := 3) rfl 1 (by decide) rfl (v := .int (μ1.1 16 1)) shx_16 rfl fl_X4_15 dX4_takeEnd_12 ?_
    refine lv_icmp_ge (tgt := 26) hx hb dX4_takeEnd_15 (by decide) (fun c4 => ?_) (fun c4 => ?_)
    · rw [if_pos c4] at h
      exact g_vret cx hr hlk hw h dX4_takeEnd_26
    · rw [if_neg c4] at h
      refine lv_aload_n hx hb dX4_takeEnd_18 rfl (lv_at hl 0 rfl) ?_
      refine lv_aload_n hx hb dX4_takeEnd_19 rfl (lv_at hl 0 rfl) ?_
      refine g_get cx hw inX4 (ci := 3) rfl 2 (by decide) rfl (v := .int (μ1.1 16 2)) shx_16 rfl fl_X4_19 dX4_takeEnd_20 ?_
      obtain ⟨μ5, gμ5, h⟩ := bw_some h
      refine g_callVV (As := [.int (μ1.1 16 2)]) (rest := []) cx hw hA (t_X4_fail l G ad (μ1.1 16 2) μ1 gμ5) shx_16 rfl ml_X4_51 im_X4_fail se_X4_fail in_X4 co_X4_fail rfl hd_X4_fail rfl ⟨(Nat.le_of_ble_eq_true rfl), (Nat.le_of_ble_eq_true rfl)⟩ hl.1 rfl (Nat.le_of_ble_eq_true rfl) dX4_takeEnd_23 ⟨rfl, rfl⟩ (fun H locs hw => ?_)
      exact g_vret cx hr hlk hw h dX4_takeEnd_26

theorem p_X4_readTask_b116_ex : ∃ f : Nat → Int32 → Int32 → Mem → Option Mem, ∀ (a1 : Nat) (a2 : Int32) (a3 : Int32) (μ : Mem), f a1 a2 a3 μ = bd (p_X4_take (41 : Int32) μ) (fun r13 μ12 => bv (sF μ12 a1 3 (((a2 - (97 : Int32)) * (6 : Int32)) + a3)) (fun μ14 => bw (p_X4_takeEnd μ14) (fun μ15 => some μ15))) := ⟨fun (a1 : Nat) (a2 : Int32) (a3 : Int32) (μ : Mem) => bd (p_X4_take (41 : Int32) μ) (fun r13 μ12 => bv (sF μ12 a1 3 (((a2 - (97 : Int32)) * (6 : Int32)) + a3)) (fun μ14 => bw (p_X4_takeEnd μ14) (fun μ15 => some μ15))), fun _ _ _ _ => rfl⟩
noncomputable def p_X4_readTask_b116 : Nat → Int32 → Int32 → Mem → Option Mem := Classical.choose p_X4_readTask_b116_ex
theorem p_X4_readTask_b116_eq (a1 : Nat) (a2 : Int32) (a3 : Int32) (μ : Mem) : p_X4_readTask_b116 a1 a2 a3 μ = bd (p_X4_take (41 : Int32) μ) (fun r13 μ12 => bv (sF μ12 a1 3 (((a2 - (97 : Int32)) * (6 : Int32)) + a3)) (fun μ14 => bw (p_X4_takeEnd μ14) (fun μ15 => some μ15))) := Classical.choose_spec p_X4_readTask_b116_ex a1 a2 a3 μ
set_option maxHeartbeats 4000000 in
set_option maxRecDepth 100000 in
theorem t_X4_readTask_b116 (l : Launch) (G : Gt) (ad : Nat → Nat) (av : List Value) {μz : Mem} (a1 : Nat) (q1 : sh 0 a1 = (0, 1)) (a2 : Int32) (a3 : Int32) (μ : Mem) (h : p_X4_readTask_b116  a1 a2 a3 μ = some μz) : Bk l cX4_readTask 4 RX4 none ({ frames := 251, cells := 0, slots := 0, locals := 6724 } : Room) G av (eV 0 G ad μz) (wd 0 G ad μ) 116 [(0, .ref (ad 16)), (1, .ref (ad a1)), (2, .int a2), (3, .int a3)] [] := by
  intro p e s m below meth c A ls H locs cx hr hlk hA hl hw
  have hx := cx.1
  have hb := cx.2.1
  rw [p_X4_readTask_b116_eq] at h
  refine lv_aload_n hx hb dX4_readTask_116 rfl (lv_at hl 0 rfl) ?_
  refine lv_bipush (v := 41) hx hb dX4_readTask_117 (by decide) ?_
  obtain ⟨r13, μ12, gr13, h⟩ := bd_some h
  refine g_callVI (As := [.int 41]) (rest := []) cx hw hA (t_X4_take l G ad (41 : Int32) μ gr13) shx_16 rfl ml_X4_70 im_X4_take se_X4_take in_X4 co_X4_take rfl hd_X4_take rfl ⟨(Nat.le_of_ble_eq_true rfl), (Nat.le_of_ble_eq_true rfl)⟩ hl.1 rfl (Nat.le_of_ble_eq_true rfl) dX4_readTask_119 ⟨rfl, rfl⟩ (fun H locs hw => ?_)
  refine lv_pop hx hb dX4_readTask_122 rfl ?_
  refine lv_aload_n hx hb dX4_readTask_123 rfl (lv_at hl 1 rfl) ?_
  refine lv_iload_n hx hb dX4_readTask_124 rfl (lv_at hl 2 rfl) ?_
  refine lv_bipush (v := 97) hx hb dX4_readTask_125 (by decide) ?_
  refine lv_isub hx hb dX4_readTask_127 ?_
  refine lv_bipush (v := 6) hx hb dX4_readTask_128 (by decide) ?_
  refine lv_imul hx hb dX4_readTask_130 ?_
  refine lv_iload_n hx hb dX4_readTask_131 rfl (lv_at hl 3 rfl) ?_
  refine lv_iadd hx hb dX4_readTask_132 ?_
  refine g_put cx hw inX2 (ci := 1) rfl tyX2_ok nmX2 3 (by decide) rfl rfl rfl rfl q1 h fl_X4_174 dX4_readTask_133 (fun μ14 H locs h hw => ?_)
  refine lv_aload_n hx hb dX4_readTask_136 rfl (lv_at hl 0 rfl) ?_
  obtain ⟨μ15, gμ15, h⟩ := bw_some h
  refine g_callVV (As := []) (rest := []) cx hw hA (t_X4_takeEnd l G ad μ14 gμ15) shx_16 rfl ml_X4_177 im_X4_takeEnd se_X4_takeEnd in_X4 co_X4_takeEnd rfl hd_X4_takeEnd rfl ⟨(Nat.le_of_ble_eq_true rfl), (Nat.le_of_ble_eq_true rfl)⟩ hl.1 rfl (Nat.le_of_ble_eq_true rfl) dX4_readTask_137 ⟨rfl, rfl⟩ (fun H locs hw => ?_)
  exact g_vret cx hr hlk hw h dX4_readTask_140
theorem p_X4_readTask_b71_ex : ∃ f : Nat → Nat → Int32 → Int32 → Mem → Option Mem, (∀ (a1 : Nat) (a2 : Int32) (a3 : Int32) (μ : Mem), f  0 a1 a2 a3 μ = none) ∧ (∀ (n : Nat) (a1 : Nat) (a2 : Int32) (a3 : Int32) (μ : Mem), f  (n + 1) a1 a2 a3 μ = bd (p_X4_isWell μ) (fun r23 μ22 => (if r23 = (0 : Int32) then p_X4_readTask_b116  a1 a2 a3 μ22 else bd (p_X4_here μ22) (fun r26 μ25 => (if r26 = (44 : Int32) then (if (5 : Int32) ≤ a3 then p_X4_readTask_b116  a1 a2 a3 μ25 else bv (sF μ25 16 2 ((μ25.1 16 2) + (1 : Int32))) (fun μ29 => bw (pr_X4_readPart 50 a1 (8 : Int32) (0 : Int32) μ29) (fun μ30 => bv (a3 + 1) (fun v32 => f n a1 a2 v32 μ30)))) else p_X4_readTask_b116  a1 a2 a3 μ25))))) := ⟨fun n => Nat.rec (fun (a1 : Nat) (a2 : Int32) (a3 : Int32) (μ : Mem) => none) (fun _ ih => fun (a1 : Nat) (a2 : Int32) (a3 : Int32) (μ : Mem) => bd (p_X4_isWell μ) (fun r23 μ22 => (if r23 = (0 : Int32) then p_X4_readTask_b116  a1 a2 a3 μ22 else bd (p_X4_here μ22) (fun r26 μ25 => (if r26 = (44 : Int32) then (if (5 : Int32) ≤ a3 then p_X4_readTask_b116  a1 a2 a3 μ25 else bv (sF μ25 16 2 ((μ25.1 16 2) + (1 : Int32))) (fun μ29 => bw (pr_X4_readPart 50 a1 (8 : Int32) (0 : Int32) μ29) (fun μ30 => bv (a3 + 1) (fun v32 => ih a1 a2 v32 μ30)))) else p_X4_readTask_b116  a1 a2 a3 μ25))))) n, fun  _ _ _ _ => rfl, fun  _ _ _ _ _ => rfl⟩
noncomputable def p_X4_readTask_b71 : Nat → Nat → Int32 → Int32 → Mem → Option Mem := Classical.choose p_X4_readTask_b71_ex
theorem p_X4_readTask_b71_z (a1 : Nat) (a2 : Int32) (a3 : Int32) (μ : Mem) : p_X4_readTask_b71  0 a1 a2 a3 μ = none := (Classical.choose_spec p_X4_readTask_b71_ex).1  a1 a2 a3 μ
theorem p_X4_readTask_b71_s (n : Nat) (a1 : Nat) (a2 : Int32) (a3 : Int32) (μ : Mem) : p_X4_readTask_b71  (n + 1) a1 a2 a3 μ = bd (p_X4_isWell μ) (fun r23 μ22 => (if r23 = (0 : Int32) then p_X4_readTask_b116  a1 a2 a3 μ22 else bd (p_X4_here μ22) (fun r26 μ25 => (if r26 = (44 : Int32) then (if (5 : Int32) ≤ a3 then p_X4_readTask_b116  a1 a2 a3 μ25 else bv (sF μ25 16 2 ((μ25.1 16 2) + (1 : Int32))) (fun μ29 => bw (pr_X4_readPart 50 a1 (8 : Int32) (0 : Int32) μ29) (fun μ30 => bv (a3 + 1) (fun v32 => p_X4_readTask_b71  n a1 a2 v32 μ30)))) else p_X4_readTask_b116  a1 a2 a3 μ25)))) := (Classical.choose_spec p_X4_readTask_b71_ex).2  n a1 a2 a3 μ
set_option maxHeartbeats 4000000 in
set_option maxRecDepth 100000 in
theorem t_X4_readTask_b71 (l : Launch) (G : Gt) (ad : Nat → Nat) (av : List Value) {μz : Mem} : ∀ (n : Nat) (a1 : Nat) (q1 : sh 0 a1 = (0, 1)) (a2 : Int32) (a3 : Int32) (μ : Mem), p_X4_readTask_b71  n a1 a2 a3 μ = some μz → Bk l cX4_readTask 4 RX4 none ({ frames := 251, cells := 0, slots := 0, locals := 6724 } : Room) G av (eV 0 G ad μz) (wd 0 G ad μ) 71 [(0, .ref (ad 16)), (1, .ref (ad a1)), (2, .int a2), (3, .int a3)] [] := by
  intro n
  induction n with
  | zero => intro a1 q1 a2 a3 μ h; rw [p_X4_readTask_b71_z] at h; cases h
  | succ n ih =>
    intro a1 q1 a2 a3 μ h p e s m below meth c A ls H locs cx hr hlk hA hl hw
    have hx := cx.1
    have hb := cx.2.1
    rw [p_X4_readTask_b71_s] at h
    refine lv_aload_n hx hb dX4_readTask_71 rfl (lv_at hl 0 rfl) ?_
    obtain ⟨r23, μ22, gr23, h⟩ := bd_some h
    refine g_callVI (As := []) (rest := []) cx hw hA (t_X4_isWell l G ad μ gr23) shx_16 rfl ml_X4_43 im_X4_isWell se_X4_isWell in_X4 co_X4_isWell rfl hd_X4_isWell rfl ⟨(Nat.le_of_ble_eq_true rfl), (Nat.le_of_ble_eq_true rfl)⟩ hl.1 rfl (Nat.le_of_ble_eq_true rfl) dX4_readTask_72 ⟨rfl, rfl⟩ (fun H locs hw => ?_)
    refine lv_if_eq (tgt := 116) hx hb dX4_readTask_75 (by decide) (fun c24 => ?_) (fun c24 => ?_)
    · rw [if_pos c24] at h
      exact t_X4_readTask_b116 l G ad av  a1 q1 a2 a3 μ22 h p e s m below meth c A ls H locs cx hr hlk hA (lv_sub hl [0, 1, 2, 3] rfl) hw
    · rw [if_neg c24] at h
      refine lv_aload_n hx hb dX4_readTask_78 rfl (lv_at hl 0 rfl) ?_
      obtain ⟨r26, μ25, gr26, h⟩ := bd_some h
      refine g_callVI (As := []) (rest := []) cx hw hA (t_X4_here l G ad μ22 gr26) shx_16 rfl ml_X4_47 im_X4_here se_X4_here in_X4 co_X4_here rfl hd_X4_here rfl ⟨(Nat.le_of_ble_eq_true rfl), (Nat.le_of_ble_eq_true rfl)⟩ hl.1 rfl (Nat.le_of_ble_eq_true rfl) dX4_readTask_79 ⟨rfl, rfl⟩ (fun H locs hw => ?_)
      refine lv_bipush (v := 44) hx hb dX4_readTask_82 (by decide) ?_
      refine lv_icmp_ne (tgt := 116) hx hb dX4_readTask_84 (by decide) (fun c27 => ?_) (fun c27 => ?_)
      · rw [if_neg c27] at h
        exact t_X4_readTask_b116 l G ad av  a1 q1 a2 a3 μ25 h p e s m below meth c A ls H locs cx hr hlk hA (lv_sub hl [0, 1, 2, 3] rfl) hw
      · rw [if_pos c27] at h
        refine lv_iload_n hx hb dX4_readTask_87 rfl (lv_at hl 3 rfl) ?_
        refine lv_iconst (v := 5) hx hb dX4_readTask_88 (by decide) ?_
        refine lv_icmp_ge (tgt := 116) hx hb dX4_readTask_89 (by decide) (fun c28 => ?_) (fun c28 => ?_)
        · rw [if_pos c28] at h
          exact t_X4_readTask_b116 l G ad av  a1 q1 a2 a3 μ25 h p e s m below meth c A ls H locs cx hr hlk hA (lv_sub hl [0, 1, 2, 3] rfl) hw
        · rw [if_neg c28] at h
          refine lv_aload_n hx hb dX4_readTask_92 rfl (lv_at hl 0 rfl) ?_
          refine lv_dup hx hb dX4_readTask_93 rfl ?_
          refine g_get cx hw inX4 (ci := 3) rfl 2 (by decide) rfl (v := .int (μ25.1 16 2)) shx_16 rfl fl_X4_19 dX4_readTask_94 ?_
          refine lv_iconst (v := 1) hx hb dX4_readTask_97 (by decide) ?_
          refine lv_iadd hx hb dX4_readTask_98 ?_
          refine g_put cx hw inX4 (ci := 3) rfl tyX4_ok nmX4 2 (by decide) rfl rfl rfl rfl shx_16 h fl_X4_19 dX4_readTask_99 (fun μ29 H locs h hw => ?_)
          refine lv_aload_n hx hb dX4_readTask_102 rfl (lv_at hl 0 rfl) ?_
          refine lv_aload_n hx hb dX4_readTask_103 rfl (lv_at hl 1 rfl) ?_
          refine lv_bipush (v := 8) hx hb dX4_readTask_104 (by decide) ?_
          refine lv_iconst (v := 0) hx hb dX4_readTask_106 (by decide) ?_
          obtain ⟨μ30, gμ30, h⟩ := bw_some h
          refine g_callVV (As := [.ref (ad a1), .int 8, .int 0]) (rest := []) cx hw hA (tpr_X4_readPart l G ad 50 a1 q1 (8 : Int32) (0 : Int32) μ29 gμ30) shx_16 rfl ml_X4_170 im_X4_readPart se_X4_readPart in_X4 co_X4_readPart rfl hd_X4_readPart rfl ⟨(Nat.le_of_ble_eq_true rfl), (Nat.le_of_ble_eq_true rfl)⟩ hl.1 rfl (Nat.le_of_ble_eq_true rfl) dX4_readTask_107 ⟨rfl, rfl⟩ (fun H locs hw => ?_)
          obtain ⟨v32, ev32, h⟩ := bv_ex h
          refine lv_iinc (v := v32) (lv' := [(3, .int v32), (0, .ref (ad 16)), (1, .ref (ad a1)), (2, .int a2)]) hx hb dX4_readTask_110 hl (k := 3) rfl (by rw [ev32]; rfl) (by decide) rfl (fun ls hl => ?_)
          refine lv_goto (tgt := 71) hx hb dX4_readTask_113 (by decide) ?_
          exact ih a1 q1 a2 v32 μ30 h p e s m below meth c A ls H locs cx hr hlk hA (lv_sub hl [1, 2, 3, 0] rfl) hw
theorem p_X4_readTask_ex : ∃ f : Nat → Mem → Option Mem, ∀ (a1 : Nat) (μ : Mem), f a1 μ = bw (p_X2_begin a1 (0 : Int32) μ) (fun μ1 => bd (p_X4_here μ1) (fun r4 μ3 => (if (s_X4_isLetter r4) = (0 : Int32) then bw (p_X4_fail (μ3.1 16 2) μ3) (fun μ33 => some μ33) else bv (sF μ3 16 2 ((μ3.1 16 2) + (1 : Int32))) (fun μ6 => bd (p_X4_take (40 : Int32) μ6) (fun r8 μ7 => bd (p_X4_isWell μ7) (fun r10 μ9 => (if r10 = (0 : Int32) then p_X4_readTask_b116  a1 r4 (0 : Int32) μ9 else bd (p_X4_here μ9) (fun r18 μ17 => (if r18 = (41 : Int32) then p_X4_readTask_b116  a1 r4 (0 : Int32) μ17 else bw (pr_X4_readPart 50 a1 (8 : Int32) (0 : Int32) μ17) (fun μ20 => p_X4_readTask_b71  FUEL a1 r4 (1 : Int32) μ20)))))))))) := ⟨fun (a1 : Nat) (μ : Mem) => bw (p_X2_begin a1 (0 : Int32) μ) (fun μ1 => bd (p_X4_here μ1) (fun r4 μ3 => (if (s_X4_isLetter r4) = (0 : Int32) then bw (p_X4_fail (μ3.1 16 2) μ3) (fun μ33 => some μ33) else bv (sF μ3 16 2 ((μ3.1 16 2) + (1 : Int32))) (fun μ6 => bd (p_X4_take (40 : Int32) μ6) (fun r8 μ7 => bd (p_X4_isWell μ7) (fun r10 μ9 => (if r10 = (0 : Int32) then p_X4_readTask_b116  a1 r4 (0 : Int32) μ9 else bd (p_X4_here μ9) (fun r18 μ17 => (if r18 = (41 : Int32) then p_X4_readTask_b116  a1 r4 (0 : Int32) μ17 else bw (pr_X4_readPart 50 a1 (8 : Int32) (0 : Int32) μ17) (fun μ20 => p_X4_readTask_b71  FUEL a1 r4 (1 : Int32) μ20)))))))))), fun _ _ => rfl⟩
noncomputable def p_X4_readTask : Nat → Mem → Option Mem := Classical.choose p_X4_readTask_ex
theorem p_X4_readTask_eq (a1 : Nat) (μ : Mem) : p_X4_readTask a1 μ = bw (p_X2_begin a1 (0 : Int32) μ) (fun μ1 => bd (p_X4_here μ1) (fun r4 μ3 => (if (s_X4_isLetter r4) = (0 : Int32) then bw (p_X4_fail (μ3.1 16 2) μ3) (fun μ33 => some μ33) else bv (sF μ3 16 2 ((μ3.1 16 2) + (1 : Int32))) (fun μ6 => bd (p_X4_take (40 : Int32) μ6) (fun r8 μ7 => bd (p_X4_isWell μ7) (fun r10 μ9 => (if r10 = (0 : Int32) then p_X4_readTask_b116  a1 r4 (0 : Int32) μ9 else bd (p_X4_here μ9) (fun r18 μ17 => (if r18 = (41 : Int32) then p_X4_readTask_b116  a1 r4 (0 : Int32) μ17 else bw (pr_X4_readPart 50 a1 (8 : Int32) (0 : Int32) μ17) (fun μ20 => p_X4_readTask_b71  FUEL a1 r4 (1 : Int32) μ20)))))))))) := Classical.choose_spec p_X4_readTask_ex a1 μ
set_option maxHeartbeats 4000000 in
set_option maxRecDepth 100000 in
theorem t_X4_readTask (l : Launch) (G : Gt) (ad : Nat → Nat) (a1 : Nat) (q1 : sh 0 a1 = (0, 1)) (μ : Mem) {μz : Mem} (h : p_X4_readTask a1 μ = some μz) : Mt l yX4_readTask cX4_readTask 4 none ({ frames := 251, cells := 0, slots := 0, locals := 6724 } : Room) G [.ref (ad 16), .ref (ad a1)] (wd 0 G ad μ) (eV 0 G ad μz) := by
  refine Bk.mt (by decide) rfl (Nat.le_of_ble_eq_true rfl) ?_
  intro p e s m below meth c A ls H locs cx hr hlk hA hl hw
  have hx := cx.1
  have hb := cx.2.1
  have hl : lv_has ls 4 [(0, .ref (ad 16)), (1, .ref (ad a1))] := hl
  rw [p_X4_readTask_eq] at h
  refine lv_aload_n hx hb dX4_readTask_0 rfl (lv_at hl 1 rfl) ?_
  refine lv_iconst (v := 0) hx hb dX4_readTask_1 (by decide) ?_
  obtain ⟨μ1, gμ1, h⟩ := bw_some h
  refine g_callVV (As := [.int 0]) (rest := []) cx hw hA (t_X2_begin l G ad a1 q1 (0 : Int32) μ gμ1) q1 rfl ml_X4_169 im_X2_begin se_X2_begin in_X2 co_X2_begin rfl hd_X2_begin rfl ⟨(Nat.le_of_ble_eq_true rfl), (Nat.le_of_ble_eq_true rfl)⟩ hl.1 rfl (Nat.le_of_ble_eq_true rfl) dX4_readTask_2 ⟨rfl, rfl⟩ (fun H locs hw => ?_)
  refine lv_aload_n hx hb dX4_readTask_5 rfl (lv_at hl 0 rfl) ?_
  obtain ⟨r4, μ3, gr4, h⟩ := bd_some h
  refine g_callVI (As := []) (rest := []) cx hw hA (t_X4_here l G ad μ1 gr4) shx_16 rfl ml_X4_47 im_X4_here se_X4_here in_X4 co_X4_here rfl hd_X4_here rfl ⟨(Nat.le_of_ble_eq_true rfl), (Nat.le_of_ble_eq_true rfl)⟩ hl.1 rfl (Nat.le_of_ble_eq_true rfl) dX4_readTask_6 ⟨rfl, rfl⟩ (fun H locs hw => ?_)
  refine lv_istore_n (lv' := [(2, .int r4), (0, .ref (ad 16)), (1, .ref (ad a1))]) hx hb dX4_readTask_9 rfl hl (by decide) rfl (fun ls hl => ?_)
  refine lv_iload_n hx hb dX4_readTask_10 rfl (lv_at hl 0 rfl) ?_
  refine s_callI (As := [.int r4]) (rest := []) cx hw hA (t_X4_isLetter l G r4) ml_X4_67 st_X4_isLetter in_X4 co_X4_isLetter hd_X4_isLetter rfl ⟨(Nat.le_of_ble_eq_true rfl), (Nat.le_of_ble_eq_true rfl)⟩ hl.1 rfl (Nat.le_of_ble_eq_true rfl) dX4_readTask_11 rfl (fun H locs hw => ?_)
  refine lv_if_ne (tgt := 26) hx hb dX4_readTask_14 (by decide) (fun c5 => ?_) (fun c5 => ?_)
  · rw [if_neg c5] at h
    refine lv_aload_n hx hb dX4_readTask_26 rfl (lv_at hl 1 rfl) ?_
    refine lv_dup hx hb dX4_readTask_27 rfl ?_
    refine g_get cx hw inX4 (ci := 3) rfl 2 (by decide) rfl (v := .int (μ3.1 16 2)) shx_16 rfl fl_X4_19 dX4_readTask_28 ?_
    refine lv_iconst (v := 1) hx hb dX4_readTask_31 (by decide) ?_
    refine lv_iadd hx hb dX4_readTask_32 ?_
    refine g_put cx hw inX4 (ci := 3) rfl tyX4_ok nmX4 2 (by decide) rfl rfl rfl rfl shx_16 h fl_X4_19 dX4_readTask_33 (fun μ6 H locs h hw => ?_)
    refine lv_aload_n hx hb dX4_readTask_36 rfl (lv_at hl 1 rfl) ?_
    refine lv_bipush (v := 40) hx hb dX4_readTask_37 (by decide) ?_
    obtain ⟨r8, μ7, gr8, h⟩ := bd_some h
    refine g_callVI (As := [.int 40]) (rest := []) cx hw hA (t_X4_take l G ad (40 : Int32) μ6 gr8) shx_16 rfl ml_X4_70 im_X4_take se_X4_take in_X4 co_X4_take rfl hd_X4_take rfl ⟨(Nat.le_of_ble_eq_true rfl), (Nat.le_of_ble_eq_true rfl)⟩ hl.1 rfl (Nat.le_of_ble_eq_true rfl) dX4_readTask_39 ⟨rfl, rfl⟩ (fun H locs hw => ?_)
    refine lv_pop hx hb dX4_readTask_42 rfl ?_
    refine lv_iconst (v := 0) hx hb dX4_readTask_43 (by decide) ?_
    refine lv_istore_n (lv' := [(3, .int 0), (2, .int r4), (0, .ref (ad 16)), (1, .ref (ad a1))]) hx hb dX4_readTask_44 rfl hl (by decide) rfl (fun ls hl => ?_)
    refine lv_aload_n hx hb dX4_readTask_45 rfl (lv_at hl 2 rfl) ?_
    obtain ⟨r10, μ9, gr10, h⟩ := bd_some h
    refine g_callVI (As := []) (rest := []) cx hw hA (t_X4_isWell l G ad μ7 gr10) shx_16 rfl ml_X4_43 im_X4_isWell se_X4_isWell in_X4 co_X4_isWell rfl hd_X4_isWell rfl ⟨(Nat.le_of_ble_eq_true rfl), (Nat.le_of_ble_eq_true rfl)⟩ hl.1 rfl (Nat.le_of_ble_eq_true rfl) dX4_readTask_46 ⟨rfl, rfl⟩ (fun H locs hw => ?_)
    refine lv_if_eq (tgt := 116) hx hb dX4_readTask_49 (by decide) (fun c11 => ?_) (fun c11 => ?_)
    · rw [if_pos c11] at h
      exact t_X4_readTask_b116 l G ad _  a1 q1 r4 (0 : Int32) μ9 h p e s m below meth c A ls H locs cx hr hlk hA (lv_sub hl [2, 3, 1, 0] rfl) hw
    · rw [if_neg c11] at h
      refine lv_aload_n hx hb dX4_readTask_52 rfl (lv_at hl 2 rfl) ?_
      obtain ⟨r18, μ17, gr18, h⟩ := bd_some h
      refine g_callVI (As := []) (rest := []) cx hw hA (t_X4_here l G ad μ9 gr18) shx_16 rfl ml_X4_47 im_X4_here se_X4_here in_X4 co_X4_here rfl hd_X4_here rfl ⟨(Nat.le_of_ble_eq_true rfl), (Nat.le_of_ble_eq_true rfl)⟩ hl.1 rfl (Nat.le_of_ble_eq_true rfl) dX4_readTask_53 ⟨rfl, rfl⟩ (fun H locs hw => ?_)
      refine lv_bipush (v := 41) hx hb dX4_readTask_56 (by decide) ?_
      refine lv_icmp_eq (tgt := 116) hx hb dX4_readTask_58 (by decide) (fun c19 => ?_) (fun c19 => ?_)
      · rw [if_pos c19] at h
        exact t_X4_readTask_b116 l G ad _  a1 q1 r4 (0 : Int32) μ17 h p e s m below meth c A ls H locs cx hr hlk hA (lv_sub hl [2, 3, 1, 0] rfl) hw
      · rw [if_neg c19] at h
        refine lv_aload_n hx hb dX4_readTask_61 rfl (lv_at hl 2 rfl) ?_
        refine lv_aload_n hx hb dX4_readTask_62 rfl (lv_at hl 3 rfl) ?_
        refine lv_bipush (v := 8) hx hb dX4_readTask_63 (by decide) ?_
        refine lv_iconst (v := 0) hx hb dX4_readTask_65 (by decide) ?_
        obtain ⟨μ20, gμ20, h⟩ := bw_some h
        refine g_callVV (As := [.ref (ad a1), .int 8, .int 0]) (rest := []) cx hw hA (tpr_X4_readPart l G ad 50 a1 q1 (8 : Int32) (0 : Int32) μ17 gμ20) shx_16 rfl ml_X4_170 im_X4_readPart se_X4_readPart in_X4 co_X4_readPart rfl hd_X4_readPart rfl ⟨(Nat.le_of_ble_eq_true rfl), (Nat.le_of_ble_eq_true rfl)⟩ hl.1 rfl (Nat.le_of_ble_eq_true rfl) dX4_readTask_66 ⟨rfl, rfl⟩ (fun H locs hw => ?_)
        refine lv_iconst (v := 1) hx hb dX4_readTask_69 (by decide) ?_
        refine lv_istore_n (lv' := [(3, .int 1), (2, .int r4), (0, .ref (ad 16)), (1, .ref (ad a1))]) hx hb dX4_readTask_70 rfl hl (by decide) rfl (fun ls hl => ?_)
        exact t_X4_readTask_b71 l G ad _  FUEL a1 q1 r4 (1 : Int32) μ20 h p e s m below meth c A ls H locs cx hr hlk hA (lv_sub hl [2, 3, 1, 0] rfl) hw
  · rw [if_pos c5] at h
    refine lv_aload_n hx hb dX4_readTask_17 rfl (lv_at hl 1 rfl) ?_
    refine lv_aload_n hx hb dX4_readTask_18 rfl (lv_at hl 1 rfl) ?_
    refine g_get cx hw inX4 (ci := 3) rfl 2 (by decide) rfl (v := .int (μ3.1 16 2)) shx_16 rfl fl_X4_19 dX4_readTask_19 ?_
    obtain ⟨μ33, gμ33, h⟩ := bw_some h
    refine g_callVV (As := [.int (μ3.1 16 2)]) (rest := []) cx hw hA (t_X4_fail l G ad (μ3.1 16 2) μ3 gμ33) shx_16 rfl ml_X4_51 im_X4_fail se_X4_fail in_X4 co_X4_fail rfl hd_X4_fail rfl ⟨(Nat.le_of_ble_eq_true rfl), (Nat.le_of_ble_eq_true rfl)⟩ hl.1 rfl (Nat.le_of_ble_eq_true rfl) dX4_readTask_22 ⟨rfl, rfl⟩ (fun H locs hw => ?_)
    exact g_vret cx hr hlk hw h dX4_readTask_25

theorem p_X11_task_ex : ∃ f : Mem → Option (Int32 × Mem), ∀  (μ : Mem), f  μ = bw (p_X11_takeTape μ) (fun μ1 => bw (p_X4_readTask (sel 1 (μ1.2.2 0 7)) μ1) (fun μ3 => bd (p_X4_badPlace μ3) (fun r6 μ5 => bv (sF μ5 0 2 r6) (fun μ7 => (if (μ7.1 0 2) = (-1 : Int32) then bv (sR μ7 0 6 (sel 1 (μ7.2.2 0 7))) (fun μ9 => bv (sR μ9 0 7 (sel 1 (μ7.2.2 0 6))) (fun μ10 => bv (sF μ10 0 10 (0 : Int32)) (fun μ11 => bw (p_X2_begin (sel 1 (μ11.2.2 0 8)) (0 : Int32) μ11) (fun μ12 => bw (p_X5_clear μ12) (fun μ14 => bd (p_X2_stars (sel 1 (μ14.2.2 0 6)) μ14) (fun r17 μ16 => some (r17, μ16))))))) else some ((-1 : Int32), μ7)))))) := ⟨fun  (μ : Mem) => bw (p_X11_takeTape μ) (fun μ1 => bw (p_X4_readTask (sel 1 (μ1.2.2 0 7)) μ1) (fun μ3 => bd (p_X4_badPlace μ3) (fun r6 μ5 => bv (sF μ5 0 2 r6) (fun μ7 => (if (μ7.1 0 2) = (-1 : Int32) then bv (sR μ7 0 6 (sel 1 (μ7.2.2 0 7))) (fun μ9 => bv (sR μ9 0 7 (sel 1 (μ7.2.2 0 6))) (fun μ10 => bv (sF μ10 0 10 (0 : Int32)) (fun μ11 => bw (p_X2_begin (sel 1 (μ11.2.2 0 8)) (0 : Int32) μ11) (fun μ12 => bw (p_X5_clear μ12) (fun μ14 => bd (p_X2_stars (sel 1 (μ14.2.2 0 6)) μ14) (fun r17 μ16 => some (r17, μ16))))))) else some ((-1 : Int32), μ7)))))), fun _ => rfl⟩
noncomputable def p_X11_task : Mem → Option (Int32 × Mem) := Classical.choose p_X11_task_ex
theorem p_X11_task_eq  (μ : Mem) : p_X11_task  μ = bw (p_X11_takeTape μ) (fun μ1 => bw (p_X4_readTask (sel 1 (μ1.2.2 0 7)) μ1) (fun μ3 => bd (p_X4_badPlace μ3) (fun r6 μ5 => bv (sF μ5 0 2 r6) (fun μ7 => (if (μ7.1 0 2) = (-1 : Int32) then bv (sR μ7 0 6 (sel 1 (μ7.2.2 0 7))) (fun μ9 => bv (sR μ9 0 7 (sel 1 (μ7.2.2 0 6))) (fun μ10 => bv (sF μ10 0 10 (0 : Int32)) (fun μ11 => bw (p_X2_begin (sel 1 (μ11.2.2 0 8)) (0 : Int32) μ11) (fun μ12 => bw (p_X5_clear μ12) (fun μ14 => bd (p_X2_stars (sel 1 (μ14.2.2 0 6)) μ14) (fun r17 μ16 => some (r17, μ16))))))) else some ((-1 : Int32), μ7)))))) := Classical.choose_spec p_X11_task_ex  μ
set_option maxHeartbeats 4000000 in
set_option maxRecDepth 100000 in
theorem t_X11_task (l : Launch) (G : Gt) (ad : Nat → Nat)  (μ : Mem) {r : Int32} {μz : Mem} (h : p_X11_task  μ = some (r, μz)) : Mt l yX11_task cX11_task 2 (some .int) ({ frames := 252, cells := 0, slots := 0, locals := 6747 } : Room) G [.ref (ad 0)] (wd 0 G ad μ) (eI 0 G ad r μz) := by
  refine Bk.mt (by decide) rfl (Nat.le_of_ble_eq_true rfl) ?_
  intro p e s m below meth c A ls H locs cx hr hlk hA hl hw
  have hx := cx.1
  have hb := cx.2.1
  have hl : lv_has ls 2 [(0, .ref (ad 0))] := hl
  rw [p_X11_task_eq] at h
  refine lv_aload_n hx hb dX11_task_0 rfl (lv_at hl 0 rfl) ?_
  obtain ⟨μ1, gμ1, h⟩ := bw_some h
  refine g_callVV (As := []) (rest := []) cx hw hA (t_X11_takeTape l G ad μ gμ1) shx_0 rfl ml_X11_124 im_X11_takeTape se_X11_takeTape in_X11 co_X11_takeTape rfl hd_X11_takeTape rfl ⟨(Nat.le_of_ble_eq_true rfl), (Nat.le_of_ble_eq_true rfl)⟩ hl.1 rfl (Nat.le_of_ble_eq_true rfl) dX11_task_1 ⟨rfl, rfl⟩ (fun H locs hw => ?_)
  refine lv_aload_n hx hb dX11_task_4 rfl (lv_at hl 0 rfl) ?_
  refine g_get cx hw inX11 (ci := 10) rfl 3 (by decide) rfl (v := .ref (ad 16)) shx_0 rfl fl_X11_35 dX11_task_5 ?_
  refine lv_aload_n hx hb dX11_task_8 rfl (lv_at hl 0 rfl) ?_
  refine g_get cx hw inX11 (ci := 10) rfl 7 (by decide) rfl (v := .ref (ad (sel 1 (μ1.2.2 0 7)))) shx_0 rfl fl_X11_48 dX11_task_9 ?_
  obtain ⟨μ3, gμ3, h⟩ := bw_some h
  refine g_callVV (As := [.ref (ad (sel 1 (μ1.2.2 0 7)))]) (rest := []) cx hw hA (t_X4_readTask l G ad (sel 1 (μ1.2.2 0 7)) (sel_1 _) μ1 gμ3) shx_16 rfl ml_X11_141 im_X4_readTask se_X4_readTask in_X4 co_X4_readTask rfl hd_X4_readTask rfl ⟨(Nat.le_of_ble_eq_true rfl), (Nat.le_of_ble_eq_true rfl)⟩ hl.1 rfl (Nat.le_of_ble_eq_true rfl) dX11_task_12 ⟨rfl, rfl⟩ (fun H locs hw => ?_)
  refine lv_aload_n hx hb dX11_task_15 rfl (lv_at hl 0 rfl) ?_
  refine lv_aload_n hx hb dX11_task_16 rfl (lv_at hl 0 rfl) ?_
  refine g_get cx hw inX11 (ci := 10) rfl 3 (by decide) rfl (v := .ref (ad 16)) shx_0 rfl fl_X11_35 dX11_task_17 ?_
  obtain ⟨r6, μ5, gr6, h⟩ := bd_some h
  refine g_callVI (As := []) (rest := [.ref (ad 0)]) cx hw hA (t_X4_badPlace l G ad μ3 gr6) shx_16 rfl ml_X11_131 im_X4_badPlace se_X4_badPlace in_X4 co_X4_badPlace rfl hd_X4_badPlace rfl ⟨(Nat.le_of_ble_eq_true rfl), (Nat.le_of_ble_eq_true rfl)⟩ hl.1 rfl (Nat.le_of_ble_eq_true rfl) dX11_task_20 ⟨rfl, rfl⟩ (fun H locs hw => ?_)
  refine g_put cx hw inX11 (ci := 10) rfl tyX11_ok nmX11 2 (by decide) rfl rfl rfl rfl shx_0 h fl_X11_17 dX11_task_23 (fun μ7 H locs h hw => ?_)
  refine lv_aload_n hx hb dX11_task_26 rfl (lv_at hl 0 rfl) ?_
  refine g_get cx hw inX11 (ci := 10) rfl 2 (by decide) rfl (v := .int (μ7.1 0 2)) shx_0 rfl fl_X11_17 dX11_task_27 ?_
  refine lv_iconst (v := (-1)) hx hb dX11_task_30 (by decide) ?_
  refine lv_icmp_eq (tgt := 36) hx hb dX11_task_31 (by decide) (fun c8 => ?_) (fun c8 => ?_)
  · rw [if_pos c8] at h
    refine lv_aload_n hx hb dX11_task_36 rfl (lv_at hl 0 rfl) ?_
    refine g_get cx hw inX11 (ci := 10) rfl 6 (by decide) rfl (v := .ref (ad (sel 1 (μ7.2.2 0 6)))) shx_0 rfl fl_X11_44 dX11_task_37 ?_
    refine lv_astore_n (lv' := [(1, .ref (ad (sel 1 (μ7.2.2 0 6)))), (0, .ref (ad 0))]) hx hb dX11_task_40 rfl hl (by decide) rfl (fun ls hl => ?_)
    refine lv_aload_n hx hb dX11_task_41 rfl (lv_at hl 1 rfl) ?_
    refine lv_aload_n hx hb dX11_task_42 rfl (lv_at hl 1 rfl) ?_
    refine g_get cx hw inX11 (ci := 10) rfl 7 (by decide) rfl (v := .ref (ad (sel 1 (μ7.2.2 0 7)))) shx_0 rfl fl_X11_48 dX11_task_43 ?_
    refine g_putR cx hw inX11 (ci := 10) rfl tyX11_ok nmX11 6 (by decide) rfl rfl rfl rfl shx_0 (sel_1 _) h fl_X11_44 dX11_task_46 (fun μ9 H locs h hw => ?_)
    refine lv_aload_n hx hb dX11_task_49 rfl (lv_at hl 1 rfl) ?_
    refine lv_aload_n hx hb dX11_task_50 rfl (lv_at hl 0 rfl) ?_
    refine g_putR cx hw inX11 (ci := 10) rfl tyX11_ok nmX11 7 (by decide) rfl rfl rfl rfl shx_0 (sel_1 _) h fl_X11_48 dX11_task_51 (fun μ10 H locs h hw => ?_)
    refine lv_aload_n hx hb dX11_task_54 rfl (lv_at hl 1 rfl) ?_
    refine lv_iconst (v := 0) hx hb dX11_task_55 (by decide) ?_
    refine g_put cx hw inX11 (ci := 10) rfl tyX11_ok nmX11 10 (by decide) rfl rfl rfl rfl shx_0 h fl_X11_57 dX11_task_56 (fun μ11 H locs h hw => ?_)
    refine lv_aload_n hx hb dX11_task_59 rfl (lv_at hl 1 rfl) ?_
    refine g_get cx hw inX11 (ci := 10) rfl 8 (by decide) rfl (v := .ref (ad (sel 1 (μ11.2.2 0 8)))) shx_0 rfl fl_X11_51 dX11_task_60 ?_
    refine lv_iconst (v := 0) hx hb dX11_task_63 (by decide) ?_
    obtain ⟨μ12, gμ12, h⟩ := bw_some h
    refine g_callVV (As := [.int 0]) (rest := []) cx hw hA (t_X2_begin l G ad (sel 1 (μ11.2.2 0 8)) (sel_1 _) (0 : Int32) μ11 gμ12) (sel_1 _) rfl ml_X11_145 im_X2_begin se_X2_begin in_X2 co_X2_begin rfl hd_X2_begin rfl ⟨(Nat.le_of_ble_eq_true rfl), (Nat.le_of_ble_eq_true rfl)⟩ hl.1 rfl (Nat.le_of_ble_eq_true rfl) dX11_task_64 ⟨rfl, rfl⟩ (fun H locs hw => ?_)
    refine lv_aload_n hx hb dX11_task_67 rfl (lv_at hl 1 rfl) ?_
    refine g_get cx hw inX11 (ci := 10) rfl 12 (by decide) rfl (v := .ref (ad 39)) shx_0 rfl fl_X11_67 dX11_task_68 ?_
    obtain ⟨μ14, gμ14, h⟩ := bw_some h
    refine g_callVV (As := []) (rest := []) cx hw hA (t_X5_clear l G ad μ12 gμ14) shx_39 rfl ml_X11_135 im_X5_clear se_X5_clear in_X5 co_X5_clear rfl hd_X5_clear rfl ⟨(Nat.le_of_ble_eq_true rfl), (Nat.le_of_ble_eq_true rfl)⟩ hl.1 rfl (Nat.le_of_ble_eq_true rfl) dX11_task_71 ⟨rfl, rfl⟩ (fun H locs hw => ?_)
    refine lv_aload_n hx hb dX11_task_74 rfl (lv_at hl 1 rfl) ?_
    refine g_get cx hw inX11 (ci := 10) rfl 6 (by decide) rfl (v := .ref (ad (sel 1 (μ14.2.2 0 6)))) shx_0 rfl fl_X11_44 dX11_task_75 ?_
    obtain ⟨r17, μ16, gr17, h⟩ := bd_some h
    refine g_callVI (As := []) (rest := []) cx hw hA (t_X2_stars l G ad (sel 1 (μ14.2.2 0 6)) (sel_1 _) μ14 gr17) (sel_1 _) rfl ml_X11_148 im_X2_stars se_X2_stars in_X2 co_X2_stars rfl hd_X2_stars rfl ⟨(Nat.le_of_ble_eq_true rfl), (Nat.le_of_ble_eq_true rfl)⟩ hl.1 rfl (Nat.le_of_ble_eq_true rfl) dX11_task_78 ⟨rfl, rfl⟩ (fun H locs hw => ?_)
    exact g_iret cx hr hlk hw h dX11_task_81
  · rw [if_neg c8] at h
    refine lv_iconst (v := (-1)) hx hb dX11_task_34 (by decide) ?_
    exact g_iret cx hr hlk hw h dX11_task_35

theorem p_X4_readValues_b30_ex : ∃ f : (Nat → Int32 → Int32 → Mem → Option Mem) → Nat → Int32 → Int32 → Mem → Option Mem, ∀ (K7 : Nat → Int32 → Int32 → Mem → Option Mem) (a1 : Nat) (a2 : Int32) (a3 : Int32) (μ : Mem), f K7 a1 a2 a3 μ = bw (pr_X4_readPart 50 a1 (0 : Int32) (0 : Int32) μ) (fun μ12 => bv (a3 + 1) (fun v14 => K7 a1 a2 v14 μ12)) := ⟨fun (K7 : Nat → Int32 → Int32 → Mem → Option Mem) (a1 : Nat) (a2 : Int32) (a3 : Int32) (μ : Mem) => bw (pr_X4_readPart 50 a1 (0 : Int32) (0 : Int32) μ) (fun μ12 => bv (a3 + 1) (fun v14 => K7 a1 a2 v14 μ12)), fun _ _ _ _ _ => rfl⟩
noncomputable def p_X4_readValues_b30 : (Nat → Int32 → Int32 → Mem → Option Mem) → Nat → Int32 → Int32 → Mem → Option Mem := Classical.choose p_X4_readValues_b30_ex
theorem p_X4_readValues_b30_eq (K7 : Nat → Int32 → Int32 → Mem → Option Mem) (a1 : Nat) (a2 : Int32) (a3 : Int32) (μ : Mem) : p_X4_readValues_b30 K7 a1 a2 a3 μ = bw (pr_X4_readPart 50 a1 (0 : Int32) (0 : Int32) μ) (fun μ12 => bv (a3 + 1) (fun v14 => K7 a1 a2 v14 μ12)) := Classical.choose_spec p_X4_readValues_b30_ex K7 a1 a2 a3 μ
set_option maxHeartbeats 4000000 in
set_option maxRecDepth 100000 in
theorem t_X4_readValues_b30 (l : Launch) (G : Gt) (ad : Nat → Nat) (av : List Value) {μz : Mem} (K7 : Nat → Int32 → Int32 → Mem → Option Mem) (hK7 : ∀ (z1 : Nat) (w1 : sh 0 z1 = (0, 1)) (z2 : Int32) (z3 : Int32) (μ1 : Mem), K7 z1 z2 z3 μ1 = some μz → Bk l cX4_readValues 4 RX4 none ({ frames := 251, cells := 0, slots := 0, locals := 6724 } : Room) G av (eV 0 G ad μz) (wd 0 G ad μ1) 7 [(0, .ref (ad 16)), (1, .ref (ad z1)), (2, .int z2), (3, .int z3)] []) (a1 : Nat) (q1 : sh 0 a1 = (0, 1)) (a2 : Int32) (a3 : Int32) (μ : Mem) (h : p_X4_readValues_b30 K7 a1 a2 a3 μ = some μz) : Bk l cX4_readValues 4 RX4 none ({ frames := 251, cells := 0, slots := 0, locals := 6724 } : Room) G av (eV 0 G ad μz) (wd 0 G ad μ) 30 [(0, .ref (ad 16)), (1, .ref (ad a1)), (2, .int a2), (3, .int a3)] [] := by
  intro p e s m below meth c A ls H locs cx hr hlk hA hl hw
  have hx := cx.1
  have hb := cx.2.1
  rw [p_X4_readValues_b30_eq] at h
  refine lv_aload_n hx hb dX4_readValues_30 rfl (lv_at hl 0 rfl) ?_
  refine lv_aload_n hx hb dX4_readValues_31 rfl (lv_at hl 1 rfl) ?_
  refine lv_iconst (v := 0) hx hb dX4_readValues_32 (by decide) ?_
  refine lv_iconst (v := 0) hx hb dX4_readValues_33 (by decide) ?_
  obtain ⟨μ12, gμ12, h⟩ := bw_some h
  refine g_callVV (As := [.ref (ad a1), .int 0, .int 0]) (rest := []) cx hw hA (tpr_X4_readPart l G ad 50 a1 q1 (0 : Int32) (0 : Int32) μ gμ12) shx_16 rfl ml_X4_170 im_X4_readPart se_X4_readPart in_X4 co_X4_readPart rfl hd_X4_readPart rfl ⟨(Nat.le_of_ble_eq_true rfl), (Nat.le_of_ble_eq_true rfl)⟩ hl.1 rfl (Nat.le_of_ble_eq_true rfl) dX4_readValues_34 ⟨rfl, rfl⟩ (fun H locs hw => ?_)
  obtain ⟨v14, ev14, h⟩ := bv_ex h
  refine lv_iinc (v := v14) (lv' := [(3, .int v14), (0, .ref (ad 16)), (1, .ref (ad a1)), (2, .int a2)]) hx hb dX4_readValues_37 hl (k := 3) rfl (by rw [ev14]; rfl) (by decide) rfl (fun ls hl => ?_)
  refine lv_goto (tgt := 7) hx hb dX4_readValues_40 (by decide) ?_
  exact hK7 a1 q1 a2 v14 μ12 h p e s m below meth c A ls H locs cx hr hlk hA (lv_sub hl [1, 2, 3, 0] rfl) hw
theorem p_X4_readValues_b7_ex : ∃ f : Nat → Nat → Int32 → Int32 → Mem → Option Mem, (∀ (a1 : Nat) (a2 : Int32) (a3 : Int32) (μ : Mem), f  0 a1 a2 a3 μ = none) ∧ (∀ (n : Nat) (a1 : Nat) (a2 : Int32) (a3 : Int32) (μ : Mem), f  (n + 1) a1 a2 a3 μ = (if a2 ≤ a3 then bw (p_X4_takeEnd μ) (fun μ4 => some μ4) else bd (p_X4_isWell μ) (fun r7 μ6 => (if r7 = (0 : Int32) then bw (p_X4_takeEnd μ6) (fun μ9 => some μ9) else (if a3 ≤ (0 : Int32) then p_X4_readValues_b30 (f n) a1 a2 a3 μ6 else bd (p_X4_take (44 : Int32) μ6) (fun r16 μ15 => p_X4_readValues_b30 (f n) a1 a2 a3 μ15)))))) := ⟨fun n => Nat.rec (fun (a1 : Nat) (a2 : Int32) (a3 : Int32) (μ : Mem) => none) (fun _ ih => fun (a1 : Nat) (a2 : Int32) (a3 : Int32) (μ : Mem) => (if a2 ≤ a3 then bw (p_X4_takeEnd μ) (fun μ4 => some μ4) else bd (p_X4_isWell μ) (fun r7 μ6 => (if r7 = (0 : Int32) then bw (p_X4_takeEnd μ6) (fun μ9 => some μ9) else (if a3 ≤ (0 : Int32) then p_X4_readValues_b30 (ih) a1 a2 a3 μ6 else bd (p_X4_take (44 : Int32) μ6) (fun r16 μ15 => p_X4_readValues_b30 (ih) a1 a2 a3 μ15)))))) n, fun  _ _ _ _ => rfl, fun  _ _ _ _ _ => rfl⟩
noncomputable def p_X4_readValues_b7 : Nat → Nat → Int32 → Int32 → Mem → Option Mem := Classical.choose p_X4_readValues_b7_ex
theorem p_X4_readValues_b7_z (a1 : Nat) (a2 : Int32) (a3 : Int32) (μ : Mem) : p_X4_readValues_b7  0 a1 a2 a3 μ = none := (Classical.choose_spec p_X4_readValues_b7_ex).1  a1 a2 a3 μ
theorem p_X4_readValues_b7_s (n : Nat) (a1 : Nat) (a2 : Int32) (a3 : Int32) (μ : Mem) : p_X4_readValues_b7  (n + 1) a1 a2 a3 μ = (if a2 ≤ a3 then bw (p_X4_takeEnd μ) (fun μ4 => some μ4) else bd (p_X4_isWell μ) (fun r7 μ6 => (if r7 = (0 : Int32) then bw (p_X4_takeEnd μ6) (fun μ9 => some μ9) else (if a3 ≤ (0 : Int32) then p_X4_readValues_b30 (p_X4_readValues_b7  n) a1 a2 a3 μ6 else bd (p_X4_take (44 : Int32) μ6) (fun r16 μ15 => p_X4_readValues_b30 (p_X4_readValues_b7  n) a1 a2 a3 μ15))))) := (Classical.choose_spec p_X4_readValues_b7_ex).2  n a1 a2 a3 μ
set_option maxHeartbeats 4000000 in
set_option maxRecDepth 100000 in
theorem t_X4_readValues_b7 (l : Launch) (G : Gt) (ad : Nat → Nat) (av : List Value) {μz : Mem} : ∀ (n : Nat) (a1 : Nat) (q1 : sh 0 a1 = (0, 1)) (a2 : Int32) (a3 : Int32) (μ : Mem), p_X4_readValues_b7  n a1 a2 a3 μ = some μz → Bk l cX4_readValues 4 RX4 none ({ frames := 251, cells := 0, slots := 0, locals := 6724 } : Room) G av (eV 0 G ad μz) (wd 0 G ad μ) 7 [(0, .ref (ad 16)), (1, .ref (ad a1)), (2, .int a2), (3, .int a3)] [] := by
  intro n
  induction n with
  | zero => intro a1 q1 a2 a3 μ h; rw [p_X4_readValues_b7_z] at h; cases h
  | succ n ih =>
    intro a1 q1 a2 a3 μ h p e s m below meth c A ls H locs cx hr hlk hA hl hw
    have hx := cx.1
    have hb := cx.2.1
    rw [p_X4_readValues_b7_s] at h
    refine lv_iload_n hx hb dX4_readValues_7 rfl (lv_at hl 3 rfl) ?_
    refine lv_iload_n hx hb dX4_readValues_8 rfl (lv_at hl 2 rfl) ?_
    refine lv_icmp_ge (tgt := 43) hx hb dX4_readValues_9 (by decide) (fun c3 => ?_) (fun c3 => ?_)
    · rw [if_pos c3] at h
      refine lv_aload_n hx hb dX4_readValues_43 rfl (lv_at hl 0 rfl) ?_
      obtain ⟨μ4, gμ4, h⟩ := bw_some h
      refine g_callVV (As := []) (rest := []) cx hw hA (t_X4_takeEnd l G ad μ gμ4) shx_16 rfl ml_X4_177 im_X4_takeEnd se_X4_takeEnd in_X4 co_X4_takeEnd rfl hd_X4_takeEnd rfl ⟨(Nat.le_of_ble_eq_true rfl), (Nat.le_of_ble_eq_true rfl)⟩ hl.1 rfl (Nat.le_of_ble_eq_true rfl) dX4_readValues_44 ⟨rfl, rfl⟩ (fun H locs hw => ?_)
      exact g_vret cx hr hlk hw h dX4_readValues_47
    · rw [if_neg c3] at h
      refine lv_aload_n hx hb dX4_readValues_12 rfl (lv_at hl 0 rfl) ?_
      obtain ⟨r7, μ6, gr7, h⟩ := bd_some h
      refine g_callVI (As := []) (rest := []) cx hw hA (t_X4_isWell l G ad μ gr7) shx_16 rfl ml_X4_43 im_X4_isWell se_X4_isWell in_X4 co_X4_isWell rfl hd_X4_isWell rfl ⟨(Nat.le_of_ble_eq_true rfl), (Nat.le_of_ble_eq_true rfl)⟩ hl.1 rfl (Nat.le_of_ble_eq_true rfl) dX4_readValues_13 ⟨rfl, rfl⟩ (fun H locs hw => ?_)
      refine lv_if_eq (tgt := 43) hx hb dX4_readValues_16 (by decide) (fun c8 => ?_) (fun c8 => ?_)
      · rw [if_pos c8] at h
        refine lv_aload_n hx hb dX4_readValues_43 rfl (lv_at hl 0 rfl) ?_
        obtain ⟨μ9, gμ9, h⟩ := bw_some h
        refine g_callVV (As := []) (rest := []) cx hw hA (t_X4_takeEnd l G ad μ6 gμ9) shx_16 rfl ml_X4_177 im_X4_takeEnd se_X4_takeEnd in_X4 co_X4_takeEnd rfl hd_X4_takeEnd rfl ⟨(Nat.le_of_ble_eq_true rfl), (Nat.le_of_ble_eq_true rfl)⟩ hl.1 rfl (Nat.le_of_ble_eq_true rfl) dX4_readValues_44 ⟨rfl, rfl⟩ (fun H locs hw => ?_)
        exact g_vret cx hr hlk hw h dX4_readValues_47
      · rw [if_neg c8] at h
        refine lv_iload_n hx hb dX4_readValues_19 rfl (lv_at hl 3 rfl) ?_
        refine lv_if_le (tgt := 30) hx hb dX4_readValues_20 (by decide) (fun c11 => ?_) (fun c11 => ?_)
        · rw [if_pos c11] at h
          exact t_X4_readValues_b30 l G ad av _ ih a1 q1 a2 a3 μ6 h p e s m below meth c A ls H locs cx hr hlk hA (lv_sub hl [0, 1, 2, 3] rfl) hw
        · rw [if_neg c11] at h
          refine lv_aload_n hx hb dX4_readValues_23 rfl (lv_at hl 0 rfl) ?_
          refine lv_bipush (v := 44) hx hb dX4_readValues_24 (by decide) ?_
          obtain ⟨r16, μ15, gr16, h⟩ := bd_some h
          refine g_callVI (As := [.int 44]) (rest := []) cx hw hA (t_X4_take l G ad (44 : Int32) μ6 gr16) shx_16 rfl ml_X4_70 im_X4_take se_X4_take in_X4 co_X4_take rfl hd_X4_take rfl ⟨(Nat.le_of_ble_eq_true rfl), (Nat.le_of_ble_eq_true rfl)⟩ hl.1 rfl (Nat.le_of_ble_eq_true rfl) dX4_readValues_26 ⟨rfl, rfl⟩ (fun H locs hw => ?_)
          refine lv_pop hx hb dX4_readValues_29 rfl ?_
          exact t_X4_readValues_b30 l G ad av _ ih a1 q1 a2 a3 μ15 h p e s m below meth c A ls H locs cx hr hlk hA (lv_sub hl [0, 1, 2, 3] rfl) hw
theorem p_X4_readValues_ex : ∃ f : Nat → Int32 → Mem → Option Mem, ∀ (a1 : Nat) (a2 : Int32) (μ : Mem), f a1 a2 μ = bw (p_X2_begin a1 (0 : Int32) μ) (fun μ1 => p_X4_readValues_b7  FUEL a1 a2 (0 : Int32) μ1) := ⟨fun (a1 : Nat) (a2 : Int32) (μ : Mem) => bw (p_X2_begin a1 (0 : Int32) μ) (fun μ1 => p_X4_readValues_b7  FUEL a1 a2 (0 : Int32) μ1), fun _ _ _ => rfl⟩
noncomputable def p_X4_readValues : Nat → Int32 → Mem → Option Mem := Classical.choose p_X4_readValues_ex
theorem p_X4_readValues_eq (a1 : Nat) (a2 : Int32) (μ : Mem) : p_X4_readValues a1 a2 μ = bw (p_X2_begin a1 (0 : Int32) μ) (fun μ1 => p_X4_readValues_b7  FUEL a1 a2 (0 : Int32) μ1) := Classical.choose_spec p_X4_readValues_ex a1 a2 μ
set_option maxHeartbeats 4000000 in
set_option maxRecDepth 100000 in
theorem t_X4_readValues (l : Launch) (G : Gt) (ad : Nat → Nat) (a1 : Nat) (q1 : sh 0 a1 = (0, 1)) (a2 : Int32) (μ : Mem) {μz : Mem} (h : p_X4_readValues a1 a2 μ = some μz) : Mt l yX4_readValues cX4_readValues 4 none ({ frames := 251, cells := 0, slots := 0, locals := 6724 } : Room) G [.ref (ad 16), .ref (ad a1), .int a2] (wd 0 G ad μ) (eV 0 G ad μz) := by
  refine Bk.mt (by decide) rfl (Nat.le_of_ble_eq_true rfl) ?_
  intro p e s m below meth c A ls H locs cx hr hlk hA hl hw
  have hx := cx.1
  have hb := cx.2.1
  have hl : lv_has ls 4 [(0, .ref (ad 16)), (1, .ref (ad a1)), (2, .int a2)] := hl
  rw [p_X4_readValues_eq] at h
  refine lv_aload_n hx hb dX4_readValues_0 rfl (lv_at hl 1 rfl) ?_
  refine lv_iconst (v := 0) hx hb dX4_readValues_1 (by decide) ?_
  obtain ⟨μ1, gμ1, h⟩ := bw_some h
  refine g_callVV (As := [.int 0]) (rest := []) cx hw hA (t_X2_begin l G ad a1 q1 (0 : Int32) μ gμ1) q1 rfl ml_X4_169 im_X2_begin se_X2_begin in_X2 co_X2_begin rfl hd_X2_begin rfl ⟨(Nat.le_of_ble_eq_true rfl), (Nat.le_of_ble_eq_true rfl)⟩ hl.1 rfl (Nat.le_of_ble_eq_true rfl) dX4_readValues_2 ⟨rfl, rfl⟩ (fun H locs hw => ?_)
  refine lv_iconst (v := 0) hx hb dX4_readValues_5 (by decide) ?_
  refine lv_istore_n (lv' := [(3, .int 0), (0, .ref (ad 16)), (1, .ref (ad a1)), (2, .int a2)]) hx hb dX4_readValues_6 rfl hl (by decide) rfl (fun ls hl => ?_)
  exact t_X4_readValues_b7 l G ad _  FUEL a1 q1 a2 (0 : Int32) μ1 h p e s m below meth c A ls H locs cx hr hlk hA (lv_sub hl [1, 2, 3, 0] rfl) hw

theorem p_X11_values_ex : ∃ f : Mem → Option (Int32 × Mem), ∀  (μ : Mem), f  μ = bw (p_X11_takeTape μ) (fun μ1 => bd (p_X2_stars (sel 1 (μ1.2.2 0 6)) μ1) (fun r4 μ3 => bw (p_X4_readValues (sel 1 (μ3.2.2 0 9)) r4 μ3) (fun μ5 => bd (p_X4_badPlace μ5) (fun r8 μ7 => bv (sF μ7 0 2 r8) (fun μ9 => (if (μ9.1 0 2) = (-1 : Int32) then bv (sR μ9 0 8 (sel 1 (μ9.2.2 0 9))) (fun μ11 => bv (sR μ11 0 9 (sel 1 (μ9.2.2 0 8))) (fun μ12 => bv (sF μ12 0 10 (1 : Int32)) (fun μ13 => some (r4, μ13)))) else some ((-1 : Int32), μ9))))))) := ⟨fun  (μ : Mem) => bw (p_X11_takeTape μ) (fun μ1 => bd (p_X2_stars (sel 1 (μ1.2.2 0 6)) μ1) (fun r4 μ3 => bw (p_X4_readValues (sel 1 (μ3.2.2 0 9)) r4 μ3) (fun μ5 => bd (p_X4_badPlace μ5) (fun r8 μ7 => bv (sF μ7 0 2 r8) (fun μ9 => (if (μ9.1 0 2) = (-1 : Int32) then bv (sR μ9 0 8 (sel 1 (μ9.2.2 0 9))) (fun μ11 => bv (sR μ11 0 9 (sel 1 (μ9.2.2 0 8))) (fun μ12 => bv (sF μ12 0 10 (1 : Int32)) (fun μ13 => some (r4, μ13)))) else some ((-1 : Int32), μ9))))))), fun _ => rfl⟩
noncomputable def p_X11_values : Mem → Option (Int32 × Mem) := Classical.choose p_X11_values_ex
theorem p_X11_values_eq  (μ : Mem) : p_X11_values  μ = bw (p_X11_takeTape μ) (fun μ1 => bd (p_X2_stars (sel 1 (μ1.2.2 0 6)) μ1) (fun r4 μ3 => bw (p_X4_readValues (sel 1 (μ3.2.2 0 9)) r4 μ3) (fun μ5 => bd (p_X4_badPlace μ5) (fun r8 μ7 => bv (sF μ7 0 2 r8) (fun μ9 => (if (μ9.1 0 2) = (-1 : Int32) then bv (sR μ9 0 8 (sel 1 (μ9.2.2 0 9))) (fun μ11 => bv (sR μ11 0 9 (sel 1 (μ9.2.2 0 8))) (fun μ12 => bv (sF μ12 0 10 (1 : Int32)) (fun μ13 => some (r4, μ13)))) else some ((-1 : Int32), μ9))))))) := Classical.choose_spec p_X11_values_ex  μ
set_option maxHeartbeats 4000000 in
set_option maxRecDepth 100000 in
theorem t_X11_values (l : Launch) (G : Gt) (ad : Nat → Nat)  (μ : Mem) {r : Int32} {μz : Mem} (h : p_X11_values  μ = some (r, μz)) : Mt l yX11_values cX11_values 3 (some .int) ({ frames := 252, cells := 0, slots := 0, locals := 6747 } : Room) G [.ref (ad 0)] (wd 0 G ad μ) (eI 0 G ad r μz) := by
  refine Bk.mt (by decide) rfl (Nat.le_of_ble_eq_true rfl) ?_
  intro p e s m below meth c A ls H locs cx hr hlk hA hl hw
  have hx := cx.1
  have hb := cx.2.1
  have hl : lv_has ls 3 [(0, .ref (ad 0))] := hl
  rw [p_X11_values_eq] at h
  refine lv_aload_n hx hb dX11_values_0 rfl (lv_at hl 0 rfl) ?_
  obtain ⟨μ1, gμ1, h⟩ := bw_some h
  refine g_callVV (As := []) (rest := []) cx hw hA (t_X11_takeTape l G ad μ gμ1) shx_0 rfl ml_X11_124 im_X11_takeTape se_X11_takeTape in_X11 co_X11_takeTape rfl hd_X11_takeTape rfl ⟨(Nat.le_of_ble_eq_true rfl), (Nat.le_of_ble_eq_true rfl)⟩ hl.1 rfl (Nat.le_of_ble_eq_true rfl) dX11_values_1 ⟨rfl, rfl⟩ (fun H locs hw => ?_)
  refine lv_aload_n hx hb dX11_values_4 rfl (lv_at hl 0 rfl) ?_
  refine g_get cx hw inX11 (ci := 10) rfl 6 (by decide) rfl (v := .ref (ad (sel 1 (μ1.2.2 0 6)))) shx_0 rfl fl_X11_44 dX11_values_5 ?_
  obtain ⟨r4, μ3, gr4, h⟩ := bd_some h
  refine g_callVI (As := []) (rest := []) cx hw hA (t_X2_stars l G ad (sel 1 (μ1.2.2 0 6)) (sel_1 _) μ1 gr4) (sel_1 _) rfl ml_X11_148 im_X2_stars se_X2_stars in_X2 co_X2_stars rfl hd_X2_stars rfl ⟨(Nat.le_of_ble_eq_true rfl), (Nat.le_of_ble_eq_true rfl)⟩ hl.1 rfl (Nat.le_of_ble_eq_true rfl) dX11_values_8 ⟨rfl, rfl⟩ (fun H locs hw => ?_)
  refine lv_istore_n (lv' := [(1, .int r4), (0, .ref (ad 0))]) hx hb dX11_values_11 rfl hl (by decide) rfl (fun ls hl => ?_)
  refine lv_aload_n hx hb dX11_values_12 rfl (lv_at hl 1 rfl) ?_
  refine g_get cx hw inX11 (ci := 10) rfl 3 (by decide) rfl (v := .ref (ad 16)) shx_0 rfl fl_X11_35 dX11_values_13 ?_
  refine lv_aload_n hx hb dX11_values_16 rfl (lv_at hl 1 rfl) ?_
  refine g_get cx hw inX11 (ci := 10) rfl 9 (by decide) rfl (v := .ref (ad (sel 1 (μ3.2.2 0 9)))) shx_0 rfl fl_X11_54 dX11_values_17 ?_
  refine lv_iload_n hx hb dX11_values_20 rfl (lv_at hl 0 rfl) ?_
  obtain ⟨μ5, gμ5, h⟩ := bw_some h
  refine g_callVV (As := [.ref (ad (sel 1 (μ3.2.2 0 9))), .int r4]) (rest := []) cx hw hA (t_X4_readValues l G ad (sel 1 (μ3.2.2 0 9)) (sel_1 _) r4 μ3 gμ5) shx_16 rfl ml_X11_151 im_X4_readValues se_X4_readValues in_X4 co_X4_readValues rfl hd_X4_readValues rfl ⟨(Nat.le_of_ble_eq_true rfl), (Nat.le_of_ble_eq_true rfl)⟩ hl.1 rfl (Nat.le_of_ble_eq_true rfl) dX11_values_21 ⟨rfl, rfl⟩ (fun H locs hw => ?_)
  refine lv_aload_n hx hb dX11_values_24 rfl (lv_at hl 1 rfl) ?_
  refine lv_aload_n hx hb dX11_values_25 rfl (lv_at hl 1 rfl) ?_
  refine g_get cx hw inX11 (ci := 10) rfl 3 (by decide) rfl (v := .ref (ad 16)) shx_0 rfl fl_X11_35 dX11_values_26 ?_
  obtain ⟨r8, μ7, gr8, h⟩ := bd_some h
  refine g_callVI (As := []) (rest := [.ref (ad 0)]) cx hw hA (t_X4_badPlace l G ad μ5 gr8) shx_16 rfl ml_X11_131 im_X4_badPlace se_X4_badPlace in_X4 co_X4_badPlace rfl hd_X4_badPlace rfl ⟨(Nat.le_of_ble_eq_true rfl), (Nat.le_of_ble_eq_true rfl)⟩ hl.1 rfl (Nat.le_of_ble_eq_true rfl) dX11_values_29 ⟨rfl, rfl⟩ (fun H locs hw => ?_)
  refine g_put cx hw inX11 (ci := 10) rfl tyX11_ok nmX11 2 (by decide) rfl rfl rfl rfl shx_0 h fl_X11_17 dX11_values_32 (fun μ9 H locs h hw => ?_)
  refine lv_aload_n hx hb dX11_values_35 rfl (lv_at hl 1 rfl) ?_
  refine g_get cx hw inX11 (ci := 10) rfl 2 (by decide) rfl (v := .int (μ9.1 0 2)) shx_0 rfl fl_X11_17 dX11_values_36 ?_
  refine lv_iconst (v := (-1)) hx hb dX11_values_39 (by decide) ?_
  refine lv_icmp_eq (tgt := 45) hx hb dX11_values_40 (by decide) (fun c10 => ?_) (fun c10 => ?_)
  · rw [if_pos c10] at h
    refine lv_aload_n hx hb dX11_values_45 rfl (lv_at hl 1 rfl) ?_
    refine g_get cx hw inX11 (ci := 10) rfl 8 (by decide) rfl (v := .ref (ad (sel 1 (μ9.2.2 0 8)))) shx_0 rfl fl_X11_51 dX11_values_46 ?_
    refine lv_astore_n (lv' := [(2, .ref (ad (sel 1 (μ9.2.2 0 8)))), (1, .int r4), (0, .ref (ad 0))]) hx hb dX11_values_49 rfl hl (by decide) rfl (fun ls hl => ?_)
    refine lv_aload_n hx hb dX11_values_50 rfl (lv_at hl 2 rfl) ?_
    refine lv_aload_n hx hb dX11_values_51 rfl (lv_at hl 2 rfl) ?_
    refine g_get cx hw inX11 (ci := 10) rfl 9 (by decide) rfl (v := .ref (ad (sel 1 (μ9.2.2 0 9)))) shx_0 rfl fl_X11_54 dX11_values_52 ?_
    refine g_putR cx hw inX11 (ci := 10) rfl tyX11_ok nmX11 8 (by decide) rfl rfl rfl rfl shx_0 (sel_1 _) h fl_X11_51 dX11_values_55 (fun μ11 H locs h hw => ?_)
    refine lv_aload_n hx hb dX11_values_58 rfl (lv_at hl 2 rfl) ?_
    refine lv_aload_n hx hb dX11_values_59 rfl (lv_at hl 0 rfl) ?_
    refine g_putR cx hw inX11 (ci := 10) rfl tyX11_ok nmX11 9 (by decide) rfl rfl rfl rfl shx_0 (sel_1 _) h fl_X11_54 dX11_values_60 (fun μ12 H locs h hw => ?_)
    refine lv_aload_n hx hb dX11_values_63 rfl (lv_at hl 2 rfl) ?_
    refine lv_iconst (v := 1) hx hb dX11_values_64 (by decide) ?_
    refine g_put cx hw inX11 (ci := 10) rfl tyX11_ok nmX11 10 (by decide) rfl rfl rfl rfl shx_0 h fl_X11_57 dX11_values_65 (fun μ13 H locs h hw => ?_)
    refine lv_iload_n hx hb dX11_values_68 rfl (lv_at hl 1 rfl) ?_
    exact g_iret cx hr hlk hw h dX11_values_69
  · rw [if_neg c10] at h
    refine lv_iconst (v := (-1)) hx hb dX11_values_43 (by decide) ?_
    exact g_iret cx hr hlk hw h dX11_values_44

theorem p_X11_fault_ex : ∃ f : Mem → Option (Int32 × Mem), ∀  (μ : Mem), f  μ = some ((μ.1 0 2), μ) := ⟨fun  (μ : Mem) => some ((μ.1 0 2), μ), fun _ => rfl⟩
noncomputable def p_X11_fault : Mem → Option (Int32 × Mem) := Classical.choose p_X11_fault_ex
theorem p_X11_fault_eq  (μ : Mem) : p_X11_fault  μ = some ((μ.1 0 2), μ) := Classical.choose_spec p_X11_fault_ex  μ
set_option maxHeartbeats 4000000 in
set_option maxRecDepth 100000 in
theorem t_X11_fault (l : Launch) (G : Gt) (ad : Nat → Nat)  (μ : Mem) {r : Int32} {μz : Mem} (h : p_X11_fault  μ = some (r, μz)) : Mt l yX11_fault cX11_fault 1 (some .int) ({ frames := 0, cells := 0, slots := 0, locals := 0 } : Room) G [.ref (ad 0)] (wd 0 G ad μ) (eI 0 G ad r μz) := by
  refine Bk.mt (by decide) rfl (Nat.le_of_ble_eq_true rfl) ?_
  intro p e s m below meth c A ls H locs cx hr hlk hA hl hw
  have hx := cx.1
  have hb := cx.2.1
  have hl : lv_has ls 1 [(0, .ref (ad 0))] := hl
  rw [p_X11_fault_eq] at h
  refine lv_aload_n hx hb dX11_fault_0 rfl (lv_at hl 0 rfl) ?_
  refine g_get cx hw inX11 (ci := 10) rfl 2 (by decide) rfl (v := .int (μ.1 0 2)) shx_0 rfl fl_X11_17 dX11_fault_1 ?_
  exact g_iret cx hr hlk hw h dX11_fault_4

theorem p_X10_setLimit_b46_ex : ∃ f : Int32 → Int32 → Mem → Option (Int32 × Mem), ∀ (a1 : Int32) (a2 : Int32) (μ : Mem), f a1 a2 μ = (if a1 = (2 : Int32) then (if a2 < (10 : Int32) then some ((0 : Int32), μ) else (if (300 : Int32) < a2 then some ((0 : Int32), μ) else bv (sF μ 137 2 a2) (fun μ6 => some ((1 : Int32), μ6)))) else some ((0 : Int32), μ)) := ⟨fun (a1 : Int32) (a2 : Int32) (μ : Mem) => (if a1 = (2 : Int32) then (if a2 < (10 : Int32) then some ((0 : Int32), μ) else (if (300 : Int32) < a2 then some ((0 : Int32), μ) else bv (sF μ 137 2 a2) (fun μ6 => some ((1 : Int32), μ6)))) else some ((0 : Int32), μ)), fun _ _ _ => rfl⟩
noncomputable def p_X10_setLimit_b46 : Int32 → Int32 → Mem → Option (Int32 × Mem) := Classical.choose p_X10_setLimit_b46_ex
theorem p_X10_setLimit_b46_eq (a1 : Int32) (a2 : Int32) (μ : Mem) : p_X10_setLimit_b46 a1 a2 μ = (if a1 = (2 : Int32) then (if a2 < (10 : Int32) then some ((0 : Int32), μ) else (if (300 : Int32) < a2 then some ((0 : Int32), μ) else bv (sF μ 137 2 a2) (fun μ6 => some ((1 : Int32), μ6)))) else some ((0 : Int32), μ)) := Classical.choose_spec p_X10_setLimit_b46_ex a1 a2 μ
set_option maxHeartbeats 4000000 in
set_option maxRecDepth 100000 in
theorem t_X10_setLimit_b46 (l : Launch) (G : Gt) (ad : Nat → Nat) (av : List Value) {r : Int32} {μz : Mem} (a1 : Int32) (a2 : Int32) (μ : Mem) (h : p_X10_setLimit_b46  a1 a2 μ = some (r, μz)) : Bk l cX10_setLimit 3 RX10 (some .boolean) ({ frames := 0, cells := 0, slots := 0, locals := 0 } : Room) G av (eI 0 G ad r μz) (wd 0 G ad μ) 46 [(0, .ref (ad 137)), (1, .int a1), (2, .int a2)] [] := by
  intro p e s m below meth c A ls H locs cx hr hlk hA hl hw
  have hx := cx.1
  have hb := cx.2.1
  rw [p_X10_setLimit_b46_eq] at h
  refine lv_iload_n hx hb dX10_setLimit_46 rfl (lv_at hl 1 rfl) ?_
  refine lv_iconst (v := 2) hx hb dX10_setLimit_47 (by decide) ?_
  refine lv_icmp_ne (tgt := 72) hx hb dX10_setLimit_48 (by decide) (fun c3 => ?_) (fun c3 => ?_)
  · rw [if_neg c3] at h
    refine lv_iconst (v := 0) hx hb dX10_setLimit_72 (by decide) ?_
    exact g_zret cx hr hlk rfl hw h dX10_setLimit_73
  · rw [if_pos c3] at h
    refine lv_iload_n hx hb dX10_setLimit_51 rfl (lv_at hl 2 rfl) ?_
    refine lv_bipush (v := 10) hx hb dX10_setLimit_52 (by decide) ?_
    refine lv_icmp_lt (tgt := 72) hx hb dX10_setLimit_54 (by decide) (fun c4 => ?_) (fun c4 => ?_)
    · rw [if_pos c4] at h
      refine lv_iconst (v := 0) hx hb dX10_setLimit_72 (by decide) ?_
      exact g_zret cx hr hlk rfl hw h dX10_setLimit_73
    · rw [if_neg c4] at h
      refine lv_iload_n hx hb dX10_setLimit_57 rfl (lv_at hl 2 rfl) ?_
      refine lv_sipush (v := 300) hx hb dX10_setLimit_58 (by decide) ?_
      refine lv_icmp_gt (tgt := 72) hx hb dX10_setLimit_61 (by decide) (fun c5 => ?_) (fun c5 => ?_)
      · rw [if_pos c5] at h
        refine lv_iconst (v := 0) hx hb dX10_setLimit_72 (by decide) ?_
        exact g_zret cx hr hlk rfl hw h dX10_setLimit_73
      · rw [if_neg c5] at h
        refine lv_aload_n hx hb dX10_setLimit_64 rfl (lv_at hl 0 rfl) ?_
        refine lv_iload_n hx hb dX10_setLimit_65 rfl (lv_at hl 2 rfl) ?_
        refine g_put cx hw inX10 (ci := 9) rfl tyX10_ok nmX10 2 (by decide) rfl rfl rfl rfl shx_137 h fl_X10_18 dX10_setLimit_66 (fun μ6 H locs h hw => ?_)
        refine lv_goto (tgt := 74) hx hb dX10_setLimit_69 (by decide) ?_
        refine lv_iconst (v := 1) hx hb dX10_setLimit_74 (by decide) ?_
        exact g_zret cx hr hlk rfl hw h dX10_setLimit_75
theorem p_X10_setLimit_b22_ex : ∃ f : Int32 → Int32 → Mem → Option (Int32 × Mem), ∀ (a1 : Int32) (a2 : Int32) (μ : Mem), f a1 a2 μ = (if a1 = (1 : Int32) then (if a2 < (1 : Int32) then p_X10_setLimit_b46  a1 a2 μ else (if (6 : Int32) < a2 then p_X10_setLimit_b46  a1 a2 μ else bv (sF μ 137 1 a2) (fun μ9 => some ((1 : Int32), μ9)))) else p_X10_setLimit_b46  a1 a2 μ) := ⟨fun (a1 : Int32) (a2 : Int32) (μ : Mem) => (if a1 = (1 : Int32) then (if a2 < (1 : Int32) then p_X10_setLimit_b46  a1 a2 μ else (if (6 : Int32) < a2 then p_X10_setLimit_b46  a1 a2 μ else bv (sF μ 137 1 a2) (fun μ9 => some ((1 : Int32), μ9)))) else p_X10_setLimit_b46  a1 a2 μ), fun _ _ _ => rfl⟩
noncomputable def p_X10_setLimit_b22 : Int32 → Int32 → Mem → Option (Int32 × Mem) := Classical.choose p_X10_setLimit_b22_ex
theorem p_X10_setLimit_b22_eq (a1 : Int32) (a2 : Int32) (μ : Mem) : p_X10_setLimit_b22 a1 a2 μ = (if a1 = (1 : Int32) then (if a2 < (1 : Int32) then p_X10_setLimit_b46  a1 a2 μ else (if (6 : Int32) < a2 then p_X10_setLimit_b46  a1 a2 μ else bv (sF μ 137 1 a2) (fun μ9 => some ((1 : Int32), μ9)))) else p_X10_setLimit_b46  a1 a2 μ) := Classical.choose_spec p_X10_setLimit_b22_ex a1 a2 μ
set_option maxHeartbeats 4000000 in
set_option maxRecDepth 100000 in
theorem t_X10_setLimit_b22 (l : Launch) (G : Gt) (ad : Nat → Nat) (av : List Value) {r : Int32} {μz : Mem} (a1 : Int32) (a2 : Int32) (μ : Mem) (h : p_X10_setLimit_b22  a1 a2 μ = some (r, μz)) : Bk l cX10_setLimit 3 RX10 (some .boolean) ({ frames := 0, cells := 0, slots := 0, locals := 0 } : Room) G av (eI 0 G ad r μz) (wd 0 G ad μ) 22 [(0, .ref (ad 137)), (1, .int a1), (2, .int a2)] [] := by
  intro p e s m below meth c A ls H locs cx hr hlk hA hl hw
  have hx := cx.1
  have hb := cx.2.1
  rw [p_X10_setLimit_b22_eq] at h
  refine lv_iload_n hx hb dX10_setLimit_22 rfl (lv_at hl 1 rfl) ?_
  refine lv_iconst (v := 1) hx hb dX10_setLimit_23 (by decide) ?_
  refine lv_icmp_ne (tgt := 46) hx hb dX10_setLimit_24 (by decide) (fun c2 => ?_) (fun c2 => ?_)
  · rw [if_neg c2] at h
    exact t_X10_setLimit_b46 l G ad av  a1 a2 μ h p e s m below meth c A ls H locs cx hr hlk hA (lv_sub hl [0, 1, 2] rfl) hw
  · rw [if_pos c2] at h
    refine lv_iload_n hx hb dX10_setLimit_27 rfl (lv_at hl 2 rfl) ?_
    refine lv_iconst (v := 1) hx hb dX10_setLimit_28 (by decide) ?_
    refine lv_icmp_lt (tgt := 46) hx hb dX10_setLimit_29 (by decide) (fun c7 => ?_) (fun c7 => ?_)
    · rw [if_pos c7] at h
      exact t_X10_setLimit_b46 l G ad av  a1 a2 μ h p e s m below meth c A ls H locs cx hr hlk hA (lv_sub hl [0, 1, 2] rfl) hw
    · rw [if_neg c7] at h
      refine lv_iload_n hx hb dX10_setLimit_32 rfl (lv_at hl 2 rfl) ?_
      refine lv_bipush (v := 6) hx hb dX10_setLimit_33 (by decide) ?_
      refine lv_icmp_gt (tgt := 46) hx hb dX10_setLimit_35 (by decide) (fun c8 => ?_) (fun c8 => ?_)
      · rw [if_pos c8] at h
        exact t_X10_setLimit_b46 l G ad av  a1 a2 μ h p e s m below meth c A ls H locs cx hr hlk hA (lv_sub hl [0, 1, 2] rfl) hw
      · rw [if_neg c8] at h
        refine lv_aload_n hx hb dX10_setLimit_38 rfl (lv_at hl 0 rfl) ?_
        refine lv_iload_n hx hb dX10_setLimit_39 rfl (lv_at hl 2 rfl) ?_
        refine g_put cx hw inX10 (ci := 9) rfl tyX10_ok nmX10 1 (by decide) rfl rfl rfl rfl shx_137 h fl_X10_15 dX10_setLimit_40 (fun μ9 H locs h hw => ?_)
        refine lv_goto (tgt := 74) hx hb dX10_setLimit_43 (by decide) ?_
        refine lv_iconst (v := 1) hx hb dX10_setLimit_74 (by decide) ?_
        exact g_zret cx hr hlk rfl hw h dX10_setLimit_75
theorem p_X10_setLimit_ex : ∃ f : Int32 → Int32 → Mem → Option (Int32 × Mem), ∀ (a1 : Int32) (a2 : Int32) (μ : Mem), f a1 a2 μ = (if a1 = (0 : Int32) then (if a2 < (0 : Int32) then p_X10_setLimit_b22  a1 a2 μ else (if (12 : Int32) < a2 then p_X10_setLimit_b22  a1 a2 μ else bv (sF μ 137 0 a2) (fun μ12 => some ((1 : Int32), μ12)))) else p_X10_setLimit_b22  a1 a2 μ) := ⟨fun (a1 : Int32) (a2 : Int32) (μ : Mem) => (if a1 = (0 : Int32) then (if a2 < (0 : Int32) then p_X10_setLimit_b22  a1 a2 μ else (if (12 : Int32) < a2 then p_X10_setLimit_b22  a1 a2 μ else bv (sF μ 137 0 a2) (fun μ12 => some ((1 : Int32), μ12)))) else p_X10_setLimit_b22  a1 a2 μ), fun _ _ _ => rfl⟩
noncomputable def p_X10_setLimit : Int32 → Int32 → Mem → Option (Int32 × Mem) := Classical.choose p_X10_setLimit_ex
theorem p_X10_setLimit_eq (a1 : Int32) (a2 : Int32) (μ : Mem) : p_X10_setLimit a1 a2 μ = (if a1 = (0 : Int32) then (if a2 < (0 : Int32) then p_X10_setLimit_b22  a1 a2 μ else (if (12 : Int32) < a2 then p_X10_setLimit_b22  a1 a2 μ else bv (sF μ 137 0 a2) (fun μ12 => some ((1 : Int32), μ12)))) else p_X10_setLimit_b22  a1 a2 μ) := Classical.choose_spec p_X10_setLimit_ex a1 a2 μ
set_option maxHeartbeats 4000000 in
set_option maxRecDepth 100000 in
theorem t_X10_setLimit (l : Launch) (G : Gt) (ad : Nat → Nat) (a1 : Int32) (a2 : Int32) (μ : Mem) {r : Int32} {μz : Mem} (h : p_X10_setLimit a1 a2 μ = some (r, μz)) : Mt l yX10_setLimit cX10_setLimit 3 (some .boolean) ({ frames := 0, cells := 0, slots := 0, locals := 0 } : Room) G [.ref (ad 137), .int a1, .int a2] (wd 0 G ad μ) (eI 0 G ad r μz) := by
  refine Bk.mt (by decide) rfl (Nat.le_of_ble_eq_true rfl) ?_
  intro p e s m below meth c A ls H locs cx hr hlk hA hl hw
  have hx := cx.1
  have hb := cx.2.1
  have hl : lv_has ls 3 [(0, .ref (ad 137)), (1, .int a1), (2, .int a2)] := hl
  rw [p_X10_setLimit_eq] at h
  refine lv_iload_n hx hb dX10_setLimit_0 rfl (lv_at hl 1 rfl) ?_
  refine lv_if_ne (tgt := 22) hx hb dX10_setLimit_1 (by decide) (fun c1 => ?_) (fun c1 => ?_)
  · rw [if_neg c1] at h
    exact t_X10_setLimit_b22 l G ad _  a1 a2 μ h p e s m below meth c A ls H locs cx hr hlk hA (lv_sub hl [0, 1, 2] rfl) hw
  · rw [if_pos c1] at h
    refine lv_iload_n hx hb dX10_setLimit_4 rfl (lv_at hl 2 rfl) ?_
    refine lv_if_lt (tgt := 22) hx hb dX10_setLimit_5 (by decide) (fun c10 => ?_) (fun c10 => ?_)
    · rw [if_pos c10] at h
      exact t_X10_setLimit_b22 l G ad _  a1 a2 μ h p e s m below meth c A ls H locs cx hr hlk hA (lv_sub hl [0, 1, 2] rfl) hw
    · rw [if_neg c10] at h
      refine lv_iload_n hx hb dX10_setLimit_8 rfl (lv_at hl 2 rfl) ?_
      refine lv_bipush (v := 12) hx hb dX10_setLimit_9 (by decide) ?_
      refine lv_icmp_gt (tgt := 22) hx hb dX10_setLimit_11 (by decide) (fun c11 => ?_) (fun c11 => ?_)
      · rw [if_pos c11] at h
        exact t_X10_setLimit_b22 l G ad _  a1 a2 μ h p e s m below meth c A ls H locs cx hr hlk hA (lv_sub hl [0, 1, 2] rfl) hw
      · rw [if_neg c11] at h
        refine lv_aload_n hx hb dX10_setLimit_14 rfl (lv_at hl 0 rfl) ?_
        refine lv_iload_n hx hb dX10_setLimit_15 rfl (lv_at hl 2 rfl) ?_
        refine g_put cx hw inX10 (ci := 9) rfl tyX10_ok nmX10 0 (by decide) rfl rfl rfl rfl shx_137 h fl_X10_11 dX10_setLimit_16 (fun μ12 H locs h hw => ?_)
        refine lv_goto (tgt := 74) hx hb dX10_setLimit_19 (by decide) ?_
        refine lv_iconst (v := 1) hx hb dX10_setLimit_74 (by decide) ?_
        exact g_zret cx hr hlk rfl hw h dX10_setLimit_75

theorem p_X11_set_ex : ∃ f : Int32 → Int32 → Mem → Option (Int32 × Mem), ∀ (a1 : Int32) (a2 : Int32) (μ : Mem), f a1 a2 μ = bd (p_X10_setLimit a1 a2 μ) (fun r2 μ1 => (if r2 = (0 : Int32) then some ((0 : Int32), μ1) else bw (p_X5_clear μ1) (fun μ4 => some ((1 : Int32), μ4)))) := ⟨fun (a1 : Int32) (a2 : Int32) (μ : Mem) => bd (p_X10_setLimit a1 a2 μ) (fun r2 μ1 => (if r2 = (0 : Int32) then some ((0 : Int32), μ1) else bw (p_X5_clear μ1) (fun μ4 => some ((1 : Int32), μ4)))), fun _ _ _ => rfl⟩
noncomputable def p_X11_set : Int32 → Int32 → Mem → Option (Int32 × Mem) := Classical.choose p_X11_set_ex
theorem p_X11_set_eq (a1 : Int32) (a2 : Int32) (μ : Mem) : p_X11_set a1 a2 μ = bd (p_X10_setLimit a1 a2 μ) (fun r2 μ1 => (if r2 = (0 : Int32) then some ((0 : Int32), μ1) else bw (p_X5_clear μ1) (fun μ4 => some ((1 : Int32), μ4)))) := Classical.choose_spec p_X11_set_ex a1 a2 μ
set_option maxHeartbeats 4000000 in
set_option maxRecDepth 100000 in
theorem t_X11_set (l : Launch) (G : Gt) (ad : Nat → Nat) (a1 : Int32) (a2 : Int32) (μ : Mem) {r : Int32} {μz : Mem} (h : p_X11_set a1 a2 μ = some (r, μz)) : Mt l yX11_set cX11_set 3 (some .boolean) ({ frames := 1, cells := 0, slots := 0, locals := 22 } : Room) G [.ref (ad 0), .int a1, .int a2] (wd 0 G ad μ) (eI 0 G ad r μz) := by
  refine Bk.mt (by decide) rfl (Nat.le_of_ble_eq_true rfl) ?_
  intro p e s m below meth c A ls H locs cx hr hlk hA hl hw
  have hx := cx.1
  have hb := cx.2.1
  have hl : lv_has ls 3 [(0, .ref (ad 0)), (1, .int a1), (2, .int a2)] := hl
  rw [p_X11_set_eq] at h
  refine lv_aload_n hx hb dX11_set_0 rfl (lv_at hl 0 rfl) ?_
  refine g_get cx hw inX11 (ci := 10) rfl 11 (by decide) rfl (v := .ref (ad 137)) shx_0 rfl fl_X11_83 dX11_set_1 ?_
  refine lv_iload_n hx hb dX11_set_4 rfl (lv_at hl 1 rfl) ?_
  refine lv_iload_n hx hb dX11_set_5 rfl (lv_at hl 2 rfl) ?_
  obtain ⟨r2, μ1, gr2, h⟩ := bd_some h
  refine g_callVI (As := [.int a1, .int a2]) (rest := []) cx hw hA (t_X10_setLimit l G ad a1 a2 μ gr2) shx_137 rfl ml_X11_156 im_X10_setLimit se_X10_setLimit in_X10 co_X10_setLimit rfl hd_X10_setLimit rfl ⟨(Nat.le_of_ble_eq_true rfl), (Nat.le_of_ble_eq_true rfl)⟩ hl.1 rfl (Nat.le_of_ble_eq_true rfl) dX11_set_6 ⟨rfl, rfl⟩ (fun H locs hw => ?_)
  refine lv_if_ne (tgt := 14) hx hb dX11_set_9 (by decide) (fun c3 => ?_) (fun c3 => ?_)
  · rw [if_neg c3] at h
    refine lv_aload_n hx hb dX11_set_14 rfl (lv_at hl 0 rfl) ?_
    refine g_get cx hw inX11 (ci := 10) rfl 12 (by decide) rfl (v := .ref (ad 39)) shx_0 rfl fl_X11_67 dX11_set_15 ?_
    obtain ⟨μ4, gμ4, h⟩ := bw_some h
    refine g_callVV (As := []) (rest := []) cx hw hA (t_X5_clear l G ad μ1 gμ4) shx_39 rfl ml_X11_135 im_X5_clear se_X5_clear in_X5 co_X5_clear rfl hd_X5_clear rfl ⟨(Nat.le_of_ble_eq_true rfl), (Nat.le_of_ble_eq_true rfl)⟩ hl.1 rfl (Nat.le_of_ble_eq_true rfl) dX11_set_18 ⟨rfl, rfl⟩ (fun H locs hw => ?_)
    refine lv_iconst (v := 1) hx hb dX11_set_21 (by decide) ?_
    exact g_zret cx hr hlk rfl hw h dX11_set_22
  · rw [if_pos c3] at h
    refine lv_iconst (v := 0) hx hb dX11_set_12 (by decide) ?_
    exact g_zret cx hr hlk rfl hw h dX11_set_13

theorem p_X11_is_ex : ∃ f : Int32 → Mem → Option (Int32 × Mem), ∀ (a1 : Int32) (μ : Mem), f a1 μ = (if a1 = (0 : Int32) then some ((μ.1 (sel 2 (μ.2.2 0 4)) 0), μ) else (if a1 = (1 : Int32) then bd (p_X2_stars (sel 1 (μ.2.2 0 6)) μ) (fun r5 μ4 => some (r5, μ4)) else (if a1 = (2 : Int32) then (if (μ.1 0 10) = (0 : Int32) then some ((0 : Int32), μ) else bd (p_X2_stars (sel 1 (μ.2.2 0 6)) μ) (fun r9 μ8 => some (r9, μ8))) else (if a1 = (3 : Int32) then some ((μ.1 137 0), μ) else (if a1 = (4 : Int32) then some ((μ.1 137 1), μ) else (if a1 = (5 : Int32) then some ((μ.1 137 2), μ) else (if a1 = (6 : Int32) then some ((μ.1 0 1), μ) else (if a1 = (7 : Int32) then some ((μ.1 (sel 2 (μ.2.2 0 4)) 1), μ) else some ((-1 : Int32), μ))))))))) := ⟨fun (a1 : Int32) (μ : Mem) => (if a1 = (0 : Int32) then some ((μ.1 (sel 2 (μ.2.2 0 4)) 0), μ) else (if a1 = (1 : Int32) then bd (p_X2_stars (sel 1 (μ.2.2 0 6)) μ) (fun r5 μ4 => some (r5, μ4)) else (if a1 = (2 : Int32) then (if (μ.1 0 10) = (0 : Int32) then some ((0 : Int32), μ) else bd (p_X2_stars (sel 1 (μ.2.2 0 6)) μ) (fun r9 μ8 => some (r9, μ8))) else (if a1 = (3 : Int32) then some ((μ.1 137 0), μ) else (if a1 = (4 : Int32) then some ((μ.1 137 1), μ) else (if a1 = (5 : Int32) then some ((μ.1 137 2), μ) else (if a1 = (6 : Int32) then some ((μ.1 0 1), μ) else (if a1 = (7 : Int32) then some ((μ.1 (sel 2 (μ.2.2 0 4)) 1), μ) else some ((-1 : Int32), μ))))))))), fun _ _ => rfl⟩
noncomputable def p_X11_is : Int32 → Mem → Option (Int32 × Mem) := Classical.choose p_X11_is_ex
theorem p_X11_is_eq (a1 : Int32) (μ : Mem) : p_X11_is a1 μ = (if a1 = (0 : Int32) then some ((μ.1 (sel 2 (μ.2.2 0 4)) 0), μ) else (if a1 = (1 : Int32) then bd (p_X2_stars (sel 1 (μ.2.2 0 6)) μ) (fun r5 μ4 => some (r5, μ4)) else (if a1 = (2 : Int32) then (if (μ.1 0 10) = (0 : Int32) then some ((0 : Int32), μ) else bd (p_X2_stars (sel 1 (μ.2.2 0 6)) μ) (fun r9 μ8 => some (r9, μ8))) else (if a1 = (3 : Int32) then some ((μ.1 137 0), μ) else (if a1 = (4 : Int32) then some ((μ.1 137 1), μ) else (if a1 = (5 : Int32) then some ((μ.1 137 2), μ) else (if a1 = (6 : Int32) then some ((μ.1 0 1), μ) else (if a1 = (7 : Int32) then some ((μ.1 (sel 2 (μ.2.2 0 4)) 1), μ) else some ((-1 : Int32), μ))))))))) := Classical.choose_spec p_X11_is_ex a1 μ
set_option maxHeartbeats 4000000 in
set_option maxRecDepth 100000 in
theorem t_X11_is (l : Launch) (G : Gt) (ad : Nat → Nat) (a1 : Int32) (μ : Mem) {r : Int32} {μz : Mem} (h : p_X11_is a1 μ = some (r, μz)) : Mt l yX11_is cX11_is 2 (some .int) ({ frames := 2, cells := 0, slots := 0, locals := 43 } : Room) G [.ref (ad 0), .int a1] (wd 0 G ad μ) (eI 0 G ad r μz) := by
  refine Bk.mt (by decide) rfl (Nat.le_of_ble_eq_true rfl) ?_
  intro p e s m below meth c A ls H locs cx hr hlk hA hl hw
  have hx := cx.1
  have hb := cx.2.1
  have hl : lv_has ls 2 [(0, .ref (ad 0)), (1, .int a1)] := hl
  rw [p_X11_is_eq] at h
  refine lv_iload_n hx hb dX11_is_0 rfl (lv_at hl 1 rfl) ?_
  refine lv_topi (fun v1 ev1 => ?_)
  by_cases c2 : a1 = (0 : Int32)
  · rw [if_pos c2] at h
    have z9 := ev1.trans c2
    subst z9
    refine lv_tableIn (tgt := 48) hx hb dX11_is_1 (by decide +kernel) (by decide +kernel) rfl (by decide) ?_
    refine lv_aload_n hx hb dX11_is_48 rfl (lv_at hl 0 rfl) ?_
    refine g_get cx hw inX11 (ci := 10) rfl 4 (by decide) rfl (v := .ref (ad (sel 2 (μ.2.2 0 4)))) shx_0 rfl fl_X11_23 dX11_is_49 ?_
    refine g_get cx hw inX3 (ci := 2) rfl 0 (by decide) rfl (v := .int (μ.1 (sel 2 (μ.2.2 0 4)) 0)) (sel_2 _) rfl fl_X11_138 dX11_is_52 ?_
    exact g_iret cx hr hlk hw h dX11_is_55
  rw [if_neg c2] at h
  by_cases c3 : a1 = (1 : Int32)
  · rw [if_pos c3] at h
    have z9 := ev1.trans c3
    subst z9
    refine lv_tableIn (tgt := 56) hx hb dX11_is_1 (by decide +kernel) (by decide +kernel) rfl (by decide) ?_
    refine lv_aload_n hx hb dX11_is_56 rfl (lv_at hl 0 rfl) ?_
    refine g_get cx hw inX11 (ci := 10) rfl 6 (by decide) rfl (v := .ref (ad (sel 1 (μ.2.2 0 6)))) shx_0 rfl fl_X11_44 dX11_is_57 ?_
    obtain ⟨r5, μ4, gr5, h⟩ := bd_some h
    refine g_callVI (As := []) (rest := []) cx hw hA (t_X2_stars l G ad (sel 1 (μ.2.2 0 6)) (sel_1 _) μ gr5) (sel_1 _) rfl ml_X11_148 im_X2_stars se_X2_stars in_X2 co_X2_stars rfl hd_X2_stars rfl ⟨(Nat.le_of_ble_eq_true rfl), (Nat.le_of_ble_eq_true rfl)⟩ hl.1 rfl (Nat.le_of_ble_eq_true rfl) dX11_is_60 ⟨rfl, rfl⟩ (fun H locs hw => ?_)
    exact g_iret cx hr hlk hw h dX11_is_63
  rw [if_neg c3] at h
  by_cases c6 : a1 = (2 : Int32)
  · rw [if_pos c6] at h
    have z9 := ev1.trans c6
    subst z9
    refine lv_tableIn (tgt := 64) hx hb dX11_is_1 (by decide +kernel) (by decide +kernel) rfl (by decide) ?_
    refine lv_aload_n hx hb dX11_is_64 rfl (lv_at hl 0 rfl) ?_
    refine g_get cx hw inX11 (ci := 10) rfl 10 (by decide) rfl (v := .int (μ.1 0 10)) shx_0 rfl fl_X11_57 dX11_is_65 ?_
    refine lv_if_eq (tgt := 81) hx hb dX11_is_68 (by decide) (fun c7 => ?_) (fun c7 => ?_)
    · rw [if_pos c7] at h
      refine lv_iconst (v := 0) hx hb dX11_is_81 (by decide) ?_
      exact g_iret cx hr hlk hw h dX11_is_82
    · rw [if_neg c7] at h
      refine lv_aload_n hx hb dX11_is_71 rfl (lv_at hl 0 rfl) ?_
      refine g_get cx hw inX11 (ci := 10) rfl 6 (by decide) rfl (v := .ref (ad (sel 1 (μ.2.2 0 6)))) shx_0 rfl fl_X11_44 dX11_is_72 ?_
      obtain ⟨r9, μ8, gr9, h⟩ := bd_some h
      refine g_callVI (As := []) (rest := []) cx hw hA (t_X2_stars l G ad (sel 1 (μ.2.2 0 6)) (sel_1 _) μ gr9) (sel_1 _) rfl ml_X11_148 im_X2_stars se_X2_stars in_X2 co_X2_stars rfl hd_X2_stars rfl ⟨(Nat.le_of_ble_eq_true rfl), (Nat.le_of_ble_eq_true rfl)⟩ hl.1 rfl (Nat.le_of_ble_eq_true rfl) dX11_is_75 ⟨rfl, rfl⟩ (fun H locs hw => ?_)
      refine lv_goto (tgt := 82) hx hb dX11_is_78 (by decide) ?_
      exact g_iret cx hr hlk hw h dX11_is_82
  rw [if_neg c6] at h
  by_cases c10 : a1 = (3 : Int32)
  · rw [if_pos c10] at h
    have z9 := ev1.trans c10
    subst z9
    refine lv_tableIn (tgt := 83) hx hb dX11_is_1 (by decide +kernel) (by decide +kernel) rfl (by decide) ?_
    refine lv_aload_n hx hb dX11_is_83 rfl (lv_at hl 0 rfl) ?_
    refine g_get cx hw inX11 (ci := 10) rfl 11 (by decide) rfl (v := .ref (ad 137)) shx_0 rfl fl_X11_83 dX11_is_84 ?_
    refine g_get cx hw inX10 (ci := 9) rfl 0 (by decide) rfl (v := .int (μ.1 137 0)) shx_137 rfl fl_X11_160 dX11_is_87 ?_
    exact g_iret cx hr hlk hw h dX11_is_90
  rw [if_neg c10] at h
  by_cases c11 : a1 = (4 : Int32)
  · rw [if_pos c11] at h
    have z9 := ev1.trans c11
    subst z9
    refine lv_tableIn (tgt := 91) hx hb dX11_is_1 (by decide +kernel) (by decide +kernel) rfl (by decide) ?_
    refine lv_aload_n hx hb dX11_is_91 rfl (lv_at hl 0 rfl) ?_
    refine g_get cx hw inX11 (ci := 10) rfl 11 (by decide) rfl (v := .ref (ad 137)) shx_0 rfl fl_X11_83 dX11_is_92 ?_
    refine g_get cx hw inX10 (ci := 9) rfl 1 (by decide) rfl (v := .int (μ.1 137 1)) shx_137 rfl fl_X11_163 dX11_is_95 ?_
    exact g_iret cx hr hlk hw h dX11_is_98
  rw [if_neg c11] at h
  by_cases c12 : a1 = (5 : Int32)
  · rw [if_pos c12] at h
    have z9 := ev1.trans c12
    subst z9
    refine lv_tableIn (tgt := 99) hx hb dX11_is_1 (by decide +kernel) (by decide +kernel) rfl (by decide) ?_
    refine lv_aload_n hx hb dX11_is_99 rfl (lv_at hl 0 rfl) ?_
    refine g_get cx hw inX11 (ci := 10) rfl 11 (by decide) rfl (v := .ref (ad 137)) shx_0 rfl fl_X11_83 dX11_is_100 ?_
    refine g_get cx hw inX10 (ci := 9) rfl 2 (by decide) rfl (v := .int (μ.1 137 2)) shx_137 rfl fl_X11_166 dX11_is_103 ?_
    exact g_iret cx hr hlk hw h dX11_is_106
  rw [if_neg c12] at h
  by_cases c13 : a1 = (6 : Int32)
  · rw [if_pos c13] at h
    have z9 := ev1.trans c13
    subst z9
    refine lv_tableIn (tgt := 107) hx hb dX11_is_1 (by decide +kernel) (by decide +kernel) rfl (by decide) ?_
    refine lv_aload_n hx hb dX11_is_107 rfl (lv_at hl 0 rfl) ?_
    refine g_get cx hw inX11 (ci := 10) rfl 1 (by decide) rfl (v := .int (μ.1 0 1)) shx_0 rfl fl_X11_13 dX11_is_108 ?_
    exact g_iret cx hr hlk hw h dX11_is_111
  rw [if_neg c13] at h
  by_cases c14 : a1 = (7 : Int32)
  · rw [if_pos c14] at h
    have z9 := ev1.trans c14
    subst z9
    refine lv_tableIn (tgt := 112) hx hb dX11_is_1 (by decide +kernel) (by decide +kernel) rfl (by decide) ?_
    refine lv_aload_n hx hb dX11_is_112 rfl (lv_at hl 0 rfl) ?_
    refine g_get cx hw inX11 (ci := 10) rfl 4 (by decide) rfl (v := .ref (ad (sel 2 (μ.2.2 0 4)))) shx_0 rfl fl_X11_23 dX11_is_113 ?_
    refine g_get cx hw inX3 (ci := 2) rfl 1 (by decide) rfl (v := .int (μ.1 (sel 2 (μ.2.2 0 4)) 1)) (sel_2 _) rfl fl_X11_169 dX11_is_116 ?_
    exact g_iret cx hr hlk hw h dX11_is_119
  rw [if_neg c14] at h
  rw [ev1]
  refine lv_tableOut (tgt := 120) hx hb dX11_is_1 (sw_out (L := [(0 : Int32), (1 : Int32), (2 : Int32), (3 : Int32), (4 : Int32), (5 : Int32), (6 : Int32), (7 : Int32)]) (by decide +kernel) (by simp only [List.forall_mem_cons]; exact ⟨c2, c3, c6, c10, c11, c12, c13, c14, fun _ q => absurd q List.not_mem_nil⟩)) (by decide) ?_
  refine lv_iconst (v := (-1)) hx hb dX11_is_120 (by decide) ?_
  exact g_iret cx hr hlk hw h dX11_is_121

theorem p_X3_about_ex : ∃ f : Nat → Int32 → Int32 → Mem → Option (Int32 × Mem), ∀ (a0 : Nat) (a1 : Int32) (a2 : Int32) (μ : Mem), f a0 a1 a2 μ = (if a1 < (0 : Int32) then some ((-1 : Int32), μ) else (if (μ.1 a0 0) ≤ a1 then some ((-1 : Int32), μ) else (if a2 < (0 : Int32) then some ((-1 : Int32), μ) else (if a2 < (6 : Int32) then gd (inb ((a1 * (6 : Int32)) + a2) 432) (some ((μ.1 (a0 + 1) ((a1 * (6 : Int32)) + a2).toNatClampNeg), μ)) else some ((-1 : Int32), μ))))) := ⟨fun (a0 : Nat) (a1 : Int32) (a2 : Int32) (μ : Mem) => (if a1 < (0 : Int32) then some ((-1 : Int32), μ) else (if (μ.1 a0 0) ≤ a1 then some ((-1 : Int32), μ) else (if a2 < (0 : Int32) then some ((-1 : Int32), μ) else (if a2 < (6 : Int32) then gd (inb ((a1 * (6 : Int32)) + a2) 432) (some ((μ.1 (a0 + 1) ((a1 * (6 : Int32)) + a2).toNatClampNeg), μ)) else some ((-1 : Int32), μ))))), fun _ _ _ _ => rfl⟩
noncomputable def p_X3_about : Nat → Int32 → Int32 → Mem → Option (Int32 × Mem) := Classical.choose p_X3_about_ex
theorem p_X3_about_eq (a0 : Nat) (a1 : Int32) (a2 : Int32) (μ : Mem) : p_X3_about a0 a1 a2 μ = (if a1 < (0 : Int32) then some ((-1 : Int32), μ) else (if (μ.1 a0 0) ≤ a1 then some ((-1 : Int32), μ) else (if a2 < (0 : Int32) then some ((-1 : Int32), μ) else (if a2 < (6 : Int32) then gd (inb ((a1 * (6 : Int32)) + a2) 432) (some ((μ.1 (a0 + 1) ((a1 * (6 : Int32)) + a2).toNatClampNeg), μ)) else some ((-1 : Int32), μ))))) := Classical.choose_spec p_X3_about_ex a0 a1 a2 μ
set_option maxHeartbeats 4000000 in
set_option maxRecDepth 100000 in
theorem t_X3_about (l : Launch) (G : Gt) (ad : Nat → Nat) (a0 : Nat) (q0 : sh 0 a0 = (0, 2)) (a1 : Int32) (a2 : Int32) (μ : Mem) {r : Int32} {μz : Mem} (h : p_X3_about a0 a1 a2 μ = some (r, μz)) : Mt l yX3_about cX3_about 3 (some .int) ({ frames := 0, cells := 0, slots := 0, locals := 0 } : Room) G [.ref (ad a0), .int a1, .int a2] (wd 0 G ad μ) (eI 0 G ad r μz) := by
  refine Bk.mt (by decide) rfl (Nat.le_of_ble_eq_true rfl) ?_
  intro p e s m below meth c A ls H locs cx hr hlk hA hl hw
  have hx := cx.1
  have hb := cx.2.1
  have hl : lv_has ls 3 [(0, .ref (ad a0)), (1, .int a1), (2, .int a2)] := hl
  rw [p_X3_about_eq] at h
  refine lv_iload_n hx hb dX3_about_0 rfl (lv_at hl 1 rfl) ?_
  refine lv_if_lt (tgt := 22) hx hb dX3_about_1 (by decide) (fun c1 => ?_) (fun c1 => ?_)
  · rw [if_pos c1] at h
    refine lv_iconst (v := (-1)) hx hb dX3_about_22 (by decide) ?_
    refine lv_goto (tgt := 37) hx hb dX3_about_23 (by decide) ?_
    exact g_iret cx hr hlk hw h dX3_about_37
  · rw [if_neg c1] at h
    refine lv_iload_n hx hb dX3_about_4 rfl (lv_at hl 1 rfl) ?_
    refine lv_aload_n hx hb dX3_about_5 rfl (lv_at hl 0 rfl) ?_
    refine g_get cx hw inX3 (ci := 2) rfl 0 (by decide) rfl (v := .int (μ.1 a0 0)) q0 rfl fl_X3_30 dX3_about_6 ?_
    refine lv_icmp_ge (tgt := 22) hx hb dX3_about_9 (by decide) (fun c2 => ?_) (fun c2 => ?_)
    · rw [if_pos c2] at h
      refine lv_iconst (v := (-1)) hx hb dX3_about_22 (by decide) ?_
      refine lv_goto (tgt := 37) hx hb dX3_about_23 (by decide) ?_
      exact g_iret cx hr hlk hw h dX3_about_37
    · rw [if_neg c2] at h
      refine lv_iload_n hx hb dX3_about_12 rfl (lv_at hl 2 rfl) ?_
      refine lv_if_lt (tgt := 22) hx hb dX3_about_13 (by decide) (fun c3 => ?_) (fun c3 => ?_)
      · rw [if_pos c3] at h
        refine lv_iconst (v := (-1)) hx hb dX3_about_22 (by decide) ?_
        refine lv_goto (tgt := 37) hx hb dX3_about_23 (by decide) ?_
        exact g_iret cx hr hlk hw h dX3_about_37
      · rw [if_neg c3] at h
        refine lv_iload_n hx hb dX3_about_16 rfl (lv_at hl 2 rfl) ?_
        refine lv_bipush (v := 6) hx hb dX3_about_17 (by decide) ?_
        refine lv_icmp_lt (tgt := 26) hx hb dX3_about_19 (by decide) (fun c4 => ?_) (fun c4 => ?_)
        · rw [if_pos c4] at h
          refine lv_aload_n hx hb dX3_about_26 rfl (lv_at hl 0 rfl) ?_
          refine g_get cx hw inX3 (ci := 2) rfl 3 (by decide) rfl (v := .ref (ad (a0 + 1))) q0 rfl fl_X3_11 dX3_about_27 ?_
          refine lv_iload_n hx hb dX3_about_30 rfl (lv_at hl 1 rfl) ?_
          refine lv_bipush (v := 6) hx hb dX3_about_31 (by decide) ?_
          refine lv_imul hx hb dX3_about_33 ?_
          refine lv_iload_n hx hb dX3_about_34 rfl (lv_at hl 2 rfl) ?_
          refine lv_iadd hx hb dX3_about_35 ?_
          refine g_iald cx hw (rl_X3_3 q0) h dX3_about_36 (fun h => ?_)
          exact g_iret cx hr hlk hw h dX3_about_37
        · rw [if_neg c4] at h
          refine lv_iconst (v := (-1)) hx hb dX3_about_22 (by decide) ?_
          refine lv_goto (tgt := 37) hx hb dX3_about_23 (by decide) ?_
          exact g_iret cx hr hlk hw h dX3_about_37

theorem p_X11_function_ex : ∃ f : Int32 → Int32 → Mem → Option (Int32 × Mem), ∀ (a1 : Int32) (a2 : Int32) (μ : Mem), f a1 a2 μ = bd (p_X3_about (sel 2 (μ.2.2 0 4)) a1 a2 μ) (fun r2 μ1 => some (r2, μ1)) := ⟨fun (a1 : Int32) (a2 : Int32) (μ : Mem) => bd (p_X3_about (sel 2 (μ.2.2 0 4)) a1 a2 μ) (fun r2 μ1 => some (r2, μ1)), fun _ _ _ => rfl⟩
noncomputable def p_X11_function : Int32 → Int32 → Mem → Option (Int32 × Mem) := Classical.choose p_X11_function_ex
theorem p_X11_function_eq (a1 : Int32) (a2 : Int32) (μ : Mem) : p_X11_function a1 a2 μ = bd (p_X3_about (sel 2 (μ.2.2 0 4)) a1 a2 μ) (fun r2 μ1 => some (r2, μ1)) := Classical.choose_spec p_X11_function_ex a1 a2 μ
set_option maxHeartbeats 4000000 in
set_option maxRecDepth 100000 in
theorem t_X11_function (l : Launch) (G : Gt) (ad : Nat → Nat) (a1 : Int32) (a2 : Int32) (μ : Mem) {r : Int32} {μz : Mem} (h : p_X11_function a1 a2 μ = some (r, μz)) : Mt l yX11_function cX11_function 3 (some .int) ({ frames := 1, cells := 0, slots := 0, locals := 22 } : Room) G [.ref (ad 0), .int a1, .int a2] (wd 0 G ad μ) (eI 0 G ad r μz) := by
  refine Bk.mt (by decide) rfl (Nat.le_of_ble_eq_true rfl) ?_
  intro p e s m below meth c A ls H locs cx hr hlk hA hl hw
  have hx := cx.1
  have hb := cx.2.1
  have hl : lv_has ls 3 [(0, .ref (ad 0)), (1, .int a1), (2, .int a2)] := hl
  rw [p_X11_function_eq] at h
  refine lv_aload_n hx hb dX11_function_0 rfl (lv_at hl 0 rfl) ?_
  refine g_get cx hw inX11 (ci := 10) rfl 4 (by decide) rfl (v := .ref (ad (sel 2 (μ.2.2 0 4)))) shx_0 rfl fl_X11_23 dX11_function_1 ?_
  refine lv_iload_n hx hb dX11_function_4 rfl (lv_at hl 1 rfl) ?_
  refine lv_iload_n hx hb dX11_function_5 rfl (lv_at hl 2 rfl) ?_
  obtain ⟨r2, μ1, gr2, h⟩ := bd_some h
  refine g_callVI (As := [.int a1, .int a2]) (rest := []) cx hw hA (t_X3_about l G ad (sel 2 (μ.2.2 0 4)) (sel_2 _) a1 a2 μ gr2) (sel_2 _) rfl ml_X11_172 im_X3_about se_X3_about in_X3 co_X3_about rfl hd_X3_about rfl ⟨(Nat.le_of_ble_eq_true rfl), (Nat.le_of_ble_eq_true rfl)⟩ hl.1 rfl (Nat.le_of_ble_eq_true rfl) dX11_function_6 ⟨rfl, rfl⟩ (fun H locs hw => ?_)
  exact g_iret cx hr hlk hw h dX11_function_9

theorem p_X2_addParts_b3_ex : ∃ f : Nat → Nat → Nat → Int32 → Int32 → Mem → Option Mem, (∀ (a0 : Nat) (a1 : Nat) (a3 : Int32) (a4 : Int32) (μ : Mem), f  0 a0 a1 a3 a4 μ = none) ∧ (∀ (n : Nat) (a0 : Nat) (a1 : Nat) (a3 : Int32) (a4 : Int32) (μ : Mem), f  (n + 1) a0 a1 a3 a4 μ = (if a3 ≤ a4 then some μ else (if (μ.1 a1 2) ≤ a4 then some μ else gd (inb a4 ((sh 0 (a1 + 1)).2)) (gd (inb a4 ((sh 0 (a1 + 2)).2)) (bw (p_X2_add a0 (μ.2.1 (a1 + 1) a4.toNatClampNeg) (μ.2.1 (a1 + 2) a4.toNatClampNeg) μ) (fun μ3 => bv (a4 + 1) (fun v5 => f n a0 a1 a3 v5 μ3))))))) := ⟨fun n => Nat.rec (fun (a0 : Nat) (a1 : Nat) (a3 : Int32) (a4 : Int32) (μ : Mem) => none) (fun _ ih => fun (a0 : Nat) (a1 : Nat) (a3 : Int32) (a4 : Int32) (μ : Mem) => (if a3 ≤ a4 then some μ else (if (μ.1 a1 2) ≤ a4 then some μ else gd (inb a4 ((sh 0 (a1 + 1)).2)) (gd (inb a4 ((sh 0 (a1 + 2)).2)) (bw (p_X2_add a0 (μ.2.1 (a1 + 1) a4.toNatClampNeg) (μ.2.1 (a1 + 2) a4.toNatClampNeg) μ) (fun μ3 => bv (a4 + 1) (fun v5 => ih a0 a1 a3 v5 μ3))))))) n, fun  _ _ _ _ _ => rfl, fun  _ _ _ _ _ _ => rfl⟩
noncomputable def p_X2_addParts_b3 : Nat → Nat → Nat → Int32 → Int32 → Mem → Option Mem := Classical.choose p_X2_addParts_b3_ex
theorem p_X2_addParts_b3_z (a0 : Nat) (a1 : Nat) (a3 : Int32) (a4 : Int32) (μ : Mem) : p_X2_addParts_b3  0 a0 a1 a3 a4 μ = none := (Classical.choose_spec p_X2_addParts_b3_ex).1  a0 a1 a3 a4 μ
theorem p_X2_addParts_b3_s (n : Nat) (a0 : Nat) (a1 : Nat) (a3 : Int32) (a4 : Int32) (μ : Mem) : p_X2_addParts_b3  (n + 1) a0 a1 a3 a4 μ = (if a3 ≤ a4 then some μ else (if (μ.1 a1 2) ≤ a4 then some μ else gd (inb a4 ((sh 0 (a1 + 1)).2)) (gd (inb a4 ((sh 0 (a1 + 2)).2)) (bw (p_X2_add a0 (μ.2.1 (a1 + 1) a4.toNatClampNeg) (μ.2.1 (a1 + 2) a4.toNatClampNeg) μ) (fun μ3 => bv (a4 + 1) (fun v5 => p_X2_addParts_b3  n a0 a1 a3 v5 μ3)))))) := (Classical.choose_spec p_X2_addParts_b3_ex).2  n a0 a1 a3 a4 μ
set_option maxHeartbeats 4000000 in
set_option maxRecDepth 100000 in
theorem t_X2_addParts_b3 (l : Launch) (G : Gt) (ad : Nat → Nat) (av : List Value) {μz : Mem} : ∀ (n : Nat) (a0 : Nat) (q0 : sh 0 a0 = (0, 1)) (a1 : Nat) (q1 : sh 0 a1 = (0, 1)) (a3 : Int32) (a4 : Int32) (μ : Mem), p_X2_addParts_b3  n a0 a1 a3 a4 μ = some μz → Bk l cX2_addParts 5 RX2 none ({ frames := 1, cells := 0, slots := 0, locals := 24 } : Room) G av (eV 0 G ad μz) (wd 0 G ad μ) 3 [(0, .ref (ad a0)), (1, .ref (ad a1)), (3, .int a3), (4, .int a4)] [] := by
  intro n
  induction n with
  | zero => intro a0 q0 a1 q1 a3 a4 μ h; rw [p_X2_addParts_b3_z] at h; cases h
  | succ n ih =>
    intro a0 q0 a1 q1 a3 a4 μ h p e s m below meth c A ls H locs cx hr hlk hA hl hw
    have hx := cx.1
    have hb := cx.2.1
    rw [p_X2_addParts_b3_s] at h
    refine lv_iload hx hb dX2_addParts_3 (lv_at hl 3 rfl) ?_
    refine lv_iload_n hx hb dX2_addParts_5 rfl (lv_at hl 2 rfl) ?_
    refine lv_icmp_ge (tgt := 42) hx hb dX2_addParts_6 (by decide) (fun c1 => ?_) (fun c1 => ?_)
    · rw [if_pos c1] at h
      exact g_vret cx hr hlk hw h dX2_addParts_42
    · rw [if_neg c1] at h
      refine lv_iload hx hb dX2_addParts_9 (lv_at hl 3 rfl) ?_
      refine lv_aload_n hx hb dX2_addParts_11 rfl (lv_at hl 1 rfl) ?_
      refine g_get cx hw inX2 (ci := 1) rfl 2 (by decide) rfl (v := .int (μ.1 a1 2)) q1 rfl fl_X2_18 dX2_addParts_12 ?_
      refine lv_icmp_ge (tgt := 42) hx hb dX2_addParts_15 (by decide) (fun c2 => ?_) (fun c2 => ?_)
      · rw [if_pos c2] at h
        exact g_vret cx hr hlk hw h dX2_addParts_42
      · rw [if_neg c2] at h
        refine lv_aload_n hx hb dX2_addParts_18 rfl (lv_at hl 0 rfl) ?_
        refine lv_aload_n hx hb dX2_addParts_19 rfl (lv_at hl 1 rfl) ?_
        refine g_get cx hw inX2 (ci := 1) rfl 0 (by decide) rfl (v := .ref (ad (a1 + 1))) q1 rfl fl_X2_9 dX2_addParts_20 ?_
        refine lv_iload hx hb dX2_addParts_23 (lv_at hl 3 rfl) ?_
        refine g_lald cx hw (rl_X2_0 q1) h dX2_addParts_25 (fun h => ?_)
        refine lv_aload_n hx hb dX2_addParts_26 rfl (lv_at hl 1 rfl) ?_
        refine g_get cx hw inX2 (ci := 1) rfl 1 (by decide) rfl (v := .ref (ad (a1 + 2))) q1 rfl fl_X2_15 dX2_addParts_27 ?_
        refine lv_iload hx hb dX2_addParts_30 (lv_at hl 3 rfl) ?_
        refine g_lald cx hw (rl_X2_1 q1) h dX2_addParts_32 (fun h => ?_)
        obtain ⟨μ3, gμ3, h⟩ := bw_some h
        refine g_callVV (As := [.long (μ.2.1 (a1 + 1) a4.toNatClampNeg), .long (μ.2.1 (a1 + 2) a4.toNatClampNeg)]) (rest := []) cx hw hA (t_X2_add l G ad a0 q0 (μ.2.1 (a1 + 1) a4.toNatClampNeg) (μ.2.1 (a1 + 2) a4.toNatClampNeg) μ gμ3) q0 rfl ml_X2_33 im_X2_add se_X2_add in_X2 co_X2_add rfl hd_X2_add rfl ⟨(Nat.le_of_ble_eq_true rfl), (Nat.le_of_ble_eq_true rfl)⟩ hl.1 rfl (Nat.le_of_ble_eq_true rfl) dX2_addParts_33 ⟨rfl, rfl⟩ (fun H locs hw => ?_)
        obtain ⟨v5, ev5, h⟩ := bv_ex h
        refine lv_iinc (v := v5) (lv' := [(4, .int v5), (0, .ref (ad a0)), (1, .ref (ad a1)), (3, .int a3)]) hx hb dX2_addParts_36 hl (k := 3) rfl (by rw [ev5]; rfl) (by decide) rfl (fun ls hl => ?_)
        refine lv_goto (tgt := 3) hx hb dX2_addParts_39 (by decide) ?_
        exact ih a0 q0 a1 q1 a3 v5 μ3 h p e s m below meth c A ls H locs cx hr hlk hA (lv_sub hl [1, 2, 3, 0] rfl) hw
theorem p_X2_addParts_ex : ∃ f : Nat → Nat → Int32 → Int32 → Mem → Option Mem, ∀ (a0 : Nat) (a1 : Nat) (a2 : Int32) (a3 : Int32) (μ : Mem), f a0 a1 a2 a3 μ = p_X2_addParts_b3  FUEL a0 a1 a3 a2 μ := ⟨fun (a0 : Nat) (a1 : Nat) (a2 : Int32) (a3 : Int32) (μ : Mem) => p_X2_addParts_b3  FUEL a0 a1 a3 a2 μ, fun _ _ _ _ _ => rfl⟩
noncomputable def p_X2_addParts : Nat → Nat → Int32 → Int32 → Mem → Option Mem := Classical.choose p_X2_addParts_ex
theorem p_X2_addParts_eq (a0 : Nat) (a1 : Nat) (a2 : Int32) (a3 : Int32) (μ : Mem) : p_X2_addParts a0 a1 a2 a3 μ = p_X2_addParts_b3  FUEL a0 a1 a3 a2 μ := Classical.choose_spec p_X2_addParts_ex a0 a1 a2 a3 μ
set_option maxHeartbeats 4000000 in
set_option maxRecDepth 100000 in
theorem t_X2_addParts (l : Launch) (G : Gt) (ad : Nat → Nat) (a0 : Nat) (q0 : sh 0 a0 = (0, 1)) (a1 : Nat) (q1 : sh 0 a1 = (0, 1)) (a2 : Int32) (a3 : Int32) (μ : Mem) {μz : Mem} (h : p_X2_addParts a0 a1 a2 a3 μ = some μz) : Mt l yX2_addParts cX2_addParts 5 none ({ frames := 1, cells := 0, slots := 0, locals := 24 } : Room) G [.ref (ad a0), .ref (ad a1), .int a2, .int a3] (wd 0 G ad μ) (eV 0 G ad μz) := by
  refine Bk.mt (by decide) rfl (Nat.le_of_ble_eq_true rfl) ?_
  intro p e s m below meth c A ls H locs cx hr hlk hA hl hw
  have hx := cx.1
  have hb := cx.2.1
  have hl : lv_has ls 5 [(0, .ref (ad a0)), (1, .ref (ad a1)), (2, .int a2), (3, .int a3)] := hl
  rw [p_X2_addParts_eq] at h
  refine lv_iload_n hx hb dX2_addParts_0 rfl (lv_at hl 2 rfl) ?_
  refine lv_istore (lv' := [(4, .int a2), (0, .ref (ad a0)), (1, .ref (ad a1)), (2, .int a2), (3, .int a3)]) hx hb dX2_addParts_1 hl (by decide) rfl (fun ls hl => ?_)
  exact t_X2_addParts_b3 l G ad _  FUEL a0 q0 a1 q1 a3 a2 μ h p e s m below meth c A ls H locs cx hr hlk hA (lv_sub hl [1, 2, 4, 0] rfl) hw

theorem p_X2_copyFrom_ex : ∃ f : Nat → Nat → Mem → Option Mem, ∀ (a0 : Nat) (a1 : Nat) (μ : Mem), f a0 a1 μ = bw (p_X2_begin a0 (μ.1 a1 3) μ) (fun μ1 => bw (p_X2_addParts a0 a1 (0 : Int32) (μ1.1 a1 2) μ1) (fun μ3 => some μ3)) := ⟨fun (a0 : Nat) (a1 : Nat) (μ : Mem) => bw (p_X2_begin a0 (μ.1 a1 3) μ) (fun μ1 => bw (p_X2_addParts a0 a1 (0 : Int32) (μ1.1 a1 2) μ1) (fun μ3 => some μ3)), fun _ _ _ => rfl⟩
noncomputable def p_X2_copyFrom : Nat → Nat → Mem → Option Mem := Classical.choose p_X2_copyFrom_ex
theorem p_X2_copyFrom_eq (a0 : Nat) (a1 : Nat) (μ : Mem) : p_X2_copyFrom a0 a1 μ = bw (p_X2_begin a0 (μ.1 a1 3) μ) (fun μ1 => bw (p_X2_addParts a0 a1 (0 : Int32) (μ1.1 a1 2) μ1) (fun μ3 => some μ3)) := Classical.choose_spec p_X2_copyFrom_ex a0 a1 μ
set_option maxHeartbeats 4000000 in
set_option maxRecDepth 100000 in
theorem t_X2_copyFrom (l : Launch) (G : Gt) (ad : Nat → Nat) (a0 : Nat) (q0 : sh 0 a0 = (0, 1)) (a1 : Nat) (q1 : sh 0 a1 = (0, 1)) (μ : Mem) {μz : Mem} (h : p_X2_copyFrom a0 a1 μ = some μz) : Mt l yX2_copyFrom cX2_copyFrom 2 none ({ frames := 2, cells := 0, slots := 0, locals := 48 } : Room) G [.ref (ad a0), .ref (ad a1)] (wd 0 G ad μ) (eV 0 G ad μz) := by
  refine Bk.mt (by decide) rfl (Nat.le_of_ble_eq_true rfl) ?_
  intro p e s m below meth c A ls H locs cx hr hlk hA hl hw
  have hx := cx.1
  have hb := cx.2.1
  have hl : lv_has ls 2 [(0, .ref (ad a0)), (1, .ref (ad a1))] := hl
  rw [p_X2_copyFrom_eq] at h
  refine lv_aload_n hx hb dX2_copyFrom_0 rfl (lv_at hl 0 rfl) ?_
  refine lv_aload_n hx hb dX2_copyFrom_1 rfl (lv_at hl 1 rfl) ?_
  refine g_get cx hw inX2 (ci := 1) rfl 3 (by decide) rfl (v := .int (μ.1 a1 3)) q1 rfl fl_X2_22 dX2_copyFrom_2 ?_
  obtain ⟨μ1, gμ1, h⟩ := bw_some h
  refine g_callVV (As := [.int (μ.1 a1 3)]) (rest := []) cx hw hA (t_X2_begin l G ad a0 q0 (μ.1 a1 3) μ gμ1) q0 rfl ml_X2_25 im_X2_begin se_X2_begin in_X2 co_X2_begin rfl hd_X2_begin rfl ⟨(Nat.le_of_ble_eq_true rfl), (Nat.le_of_ble_eq_true rfl)⟩ hl.1 rfl (Nat.le_of_ble_eq_true rfl) dX2_copyFrom_5 ⟨rfl, rfl⟩ (fun H locs hw => ?_)
  refine lv_aload_n hx hb dX2_copyFrom_8 rfl (lv_at hl 0 rfl) ?_
  refine lv_aload_n hx hb dX2_copyFrom_9 rfl (lv_at hl 1 rfl) ?_
  refine lv_iconst (v := 0) hx hb dX2_copyFrom_10 (by decide) ?_
  refine lv_aload_n hx hb dX2_copyFrom_11 rfl (lv_at hl 1 rfl) ?_
  refine g_get cx hw inX2 (ci := 1) rfl 2 (by decide) rfl (v := .int (μ1.1 a1 2)) q1 rfl fl_X2_18 dX2_copyFrom_12 ?_
  obtain ⟨μ3, gμ3, h⟩ := bw_some h
  refine g_callVV (As := [.ref (ad a1), .int 0, .int (μ1.1 a1 2)]) (rest := []) cx hw hA (t_X2_addParts l G ad a0 q0 a1 q1 (0 : Int32) (μ1.1 a1 2) μ1 gμ3) q0 rfl ml_X2_29 im_X2_addParts se_X2_addParts in_X2 co_X2_addParts rfl hd_X2_addParts rfl ⟨(Nat.le_of_ble_eq_true rfl), (Nat.le_of_ble_eq_true rfl)⟩ hl.1 rfl (Nat.le_of_ble_eq_true rfl) dX2_copyFrom_15 ⟨rfl, rfl⟩ (fun H locs hw => ?_)
  exact g_vret cx hr hlk hw h dX2_copyFrom_18

theorem p_X5_setVariant_ex : ∃ f : Int32 → Int32 → Int32 → Mem → Option Mem, ∀ (a1 : Int32) (a2 : Int32) (a3 : Int32) (μ : Mem), f a1 a2 a3 μ = (if a1 < (0 : Int32) then some μ else (if (μ.1 39 2) ≤ a1 then some μ else gd (inb ((a1 * (4 : Int32)) + a2) 96) (bv (sF μ 45 ((a1 * (4 : Int32)) + a2).toNatClampNeg a3) (fun μ3 => some μ3)))) := ⟨fun (a1 : Int32) (a2 : Int32) (a3 : Int32) (μ : Mem) => (if a1 < (0 : Int32) then some μ else (if (μ.1 39 2) ≤ a1 then some μ else gd (inb ((a1 * (4 : Int32)) + a2) 96) (bv (sF μ 45 ((a1 * (4 : Int32)) + a2).toNatClampNeg a3) (fun μ3 => some μ3)))), fun _ _ _ _ => rfl⟩
noncomputable def p_X5_setVariant : Int32 → Int32 → Int32 → Mem → Option Mem := Classical.choose p_X5_setVariant_ex
theorem p_X5_setVariant_eq (a1 : Int32) (a2 : Int32) (a3 : Int32) (μ : Mem) : p_X5_setVariant a1 a2 a3 μ = (if a1 < (0 : Int32) then some μ else (if (μ.1 39 2) ≤ a1 then some μ else gd (inb ((a1 * (4 : Int32)) + a2) 96) (bv (sF μ 45 ((a1 * (4 : Int32)) + a2).toNatClampNeg a3) (fun μ3 => some μ3)))) := Classical.choose_spec p_X5_setVariant_ex a1 a2 a3 μ
set_option maxHeartbeats 4000000 in
set_option maxRecDepth 100000 in
theorem t_X5_setVariant (l : Launch) (G : Gt) (ad : Nat → Nat) (a1 : Int32) (a2 : Int32) (a3 : Int32) (μ : Mem) {μz : Mem} (h : p_X5_setVariant a1 a2 a3 μ = some μz) : Mt l yX5_setVariant cX5_setVariant 4 none ({ frames := 0, cells := 0, slots := 0, locals := 0 } : Room) G [.ref (ad 39), .int a1, .int a2, .int a3] (wd 0 G ad μ) (eV 0 G ad μz) := by
  refine Bk.mt (by decide) rfl (Nat.le_of_ble_eq_true rfl) ?_
  intro p e s m below meth c A ls H locs cx hr hlk hA hl hw
  have hx := cx.1
  have hb := cx.2.1
  have hl : lv_has ls 4 [(0, .ref (ad 39)), (1, .int a1), (2, .int a2), (3, .int a3)] := hl
  rw [p_X5_setVariant_eq] at h
  refine lv_iload_n hx hb dX5_setVariant_0 rfl (lv_at hl 1 rfl) ?_
  refine lv_if_lt (tgt := 23) hx hb dX5_setVariant_1 (by decide) (fun c1 => ?_) (fun c1 => ?_)
  · rw [if_pos c1] at h
    exact g_vret cx hr hlk hw h dX5_setVariant_23
  · rw [if_neg c1] at h
    refine lv_iload_n hx hb dX5_setVariant_4 rfl (lv_at hl 1 rfl) ?_
    refine lv_aload_n hx hb dX5_setVariant_5 rfl (lv_at hl 0 rfl) ?_
    refine g_get cx hw inX5 (ci := 4) rfl 2 (by decide) rfl (v := .int (μ.1 39 2)) shx_39 rfl fl_X5_48 dX5_setVariant_6 ?_
    refine lv_icmp_ge (tgt := 23) hx hb dX5_setVariant_9 (by decide) (fun c2 => ?_) (fun c2 => ?_)
    · rw [if_pos c2] at h
      exact g_vret cx hr hlk hw h dX5_setVariant_23
    · rw [if_neg c2] at h
      refine lv_aload_n hx hb dX5_setVariant_12 rfl (lv_at hl 0 rfl) ?_
      refine g_get cx hw inX5 (ci := 4) rfl 12 (by decide) rfl (v := .ref (ad 45)) shx_39 rfl fl_X5_28 dX5_setVariant_13 ?_
      refine lv_iload_n hx hb dX5_setVariant_16 rfl (lv_at hl 1 rfl) ?_
      refine lv_iconst (v := 4) hx hb dX5_setVariant_17 (by decide) ?_
      refine lv_imul hx hb dX5_setVariant_18 ?_
      refine lv_iload_n hx hb dX5_setVariant_19 rfl (lv_at hl 2 rfl) ?_
      refine lv_iadd hx hb dX5_setVariant_20 ?_
      refine lv_iload_n hx hb dX5_setVariant_21 rfl (lv_at hl 3 rfl) ?_
      refine g_iast cx hw shx_45 h dX5_setVariant_22 (fun μ3 H locs h hw => ?_)
      exact g_vret cx hr hlk hw h dX5_setVariant_23

theorem p_X5_addVariant_ex : ∃ f : Nat → Int32 → Mem → Option (Int32 × Mem), ∀ (a1 : Nat) (a2 : Int32) (μ : Mem), f a1 a2 μ = (if (μ.1 39 2) < (24 : Int32) then bv (μ.1 39 2) (fun v2 => bv (sF μ 39 2 ((μ.1 39 2) + (1 : Int32))) (fun μ3 => gd (inb v2 24) (bw (p_X2_copyFrom (ptc v2.toNatClampNeg) a1 μ3) (fun μ4 => bw (p_X5_setVariant v2 (0 : Int32) a2 μ4) (fun μ6 => bw (p_X5_setVariant v2 (1 : Int32) (0 : Int32) μ6) (fun μ8 => bd (p_X2_stars a1 μ8) (fun r11 μ10 => bw (p_X5_setVariant v2 (2 : Int32) r11 μ10) (fun μ12 => bw (p_X5_setVariant v2 (3 : Int32) (-1 : Int32) μ12) (fun μ14 => some (v2, μ14)))))))))) else some ((-1 : Int32), μ)) := ⟨fun (a1 : Nat) (a2 : Int32) (μ : Mem) => (if (μ.1 39 2) < (24 : Int32) then bv (μ.1 39 2) (fun v2 => bv (sF μ 39 2 ((μ.1 39 2) + (1 : Int32))) (fun μ3 => gd (inb v2 24) (bw (p_X2_copyFrom (ptc v2.toNatClampNeg) a1 μ3) (fun μ4 => bw (p_X5_setVariant v2 (0 : Int32) a2 μ4) (fun μ6 => bw (p_X5_setVariant v2 (1 : Int32) (0 : Int32) μ6) (fun μ8 => bd (p_X2_stars a1 μ8) (fun r11 μ10 => bw (p_X5_setVariant v2 (2 : Int32) r11 μ10) (fun μ12 => bw (p_X5_setVariant v2 (3 : Int32) (-1 : Int32) μ12) (fun μ14 => some (v2, μ14)))))))))) else some ((-1 : Int32), μ)), fun _ _ _ => rfl⟩
noncomputable def p_X5_addVariant : Nat → Int32 → Mem → Option (Int32 × Mem) := Classical.choose p_X5_addVariant_ex
theorem p_X5_addVariant_eq (a1 : Nat) (a2 : Int32) (μ : Mem) : p_X5_addVariant a1 a2 μ = (if (μ.1 39 2) < (24 : Int32) then bv (μ.1 39 2) (fun v2 => bv (sF μ 39 2 ((μ.1 39 2) + (1 : Int32))) (fun μ3 => gd (inb v2 24) (bw (p_X2_copyFrom (ptc v2.toNatClampNeg) a1 μ3) (fun μ4 => bw (p_X5_setVariant v2 (0 : Int32) a2 μ4) (fun μ6 => bw (p_X5_setVariant v2 (1 : Int32) (0 : Int32) μ6) (fun μ8 => bd (p_X2_stars a1 μ8) (fun r11 μ10 => bw (p_X5_setVariant v2 (2 : Int32) r11 μ10) (fun μ12 => bw (p_X5_setVariant v2 (3 : Int32) (-1 : Int32) μ12) (fun μ14 => some (v2, μ14)))))))))) else some ((-1 : Int32), μ)) := Classical.choose_spec p_X5_addVariant_ex a1 a2 μ
set_option maxHeartbeats 4000000 in
set_option maxRecDepth 100000 in
theorem t_X5_addVariant (l : Launch) (G : Gt) (ad : Nat → Nat) (a1 : Nat) (q1 : sh 0 a1 = (0, 1)) (a2 : Int32) (μ : Mem) {r : Int32} {μz : Mem} (h : p_X5_addVariant a1 a2 μ = some (r, μz)) : Mt l yX5_addVariant cX5_addVariant 4 (some .int) ({ frames := 3, cells := 0, slots := 0, locals := 69 } : Room) G [.ref (ad 39), .ref (ad a1), .int a2] (wd 0 G ad μ) (eI 0 G ad r μz) := by
  refine Bk.mt (by decide) rfl (Nat.le_of_ble_eq_true rfl) ?_
  intro p e s m below meth c A ls H locs cx hr hlk hA hl hw
  have hx := cx.1
  have hb := cx.2.1
  have hl : lv_has ls 4 [(0, .ref (ad 39)), (1, .ref (ad a1)), (2, .int a2)] := hl
  rw [p_X5_addVariant_eq] at h
  refine lv_aload_n hx hb dX5_addVariant_0 rfl (lv_at hl 0 rfl) ?_
  refine g_get cx hw inX5 (ci := 4) rfl 2 (by decide) rfl (v := .int (μ.1 39 2)) shx_39 rfl fl_X5_48 dX5_addVariant_1 ?_
  refine lv_bipush (v := 24) hx hb dX5_addVariant_4 (by decide) ?_
  refine lv_icmp_lt (tgt := 11) hx hb dX5_addVariant_6 (by decide) (fun c1 => ?_) (fun c1 => ?_)
  · rw [if_pos c1] at h
    refine lv_aload_n hx hb dX5_addVariant_11 rfl (lv_at hl 0 rfl) ?_
    refine g_get cx hw inX5 (ci := 4) rfl 2 (by decide) rfl (v := .int (μ.1 39 2)) shx_39 rfl fl_X5_48 dX5_addVariant_12 ?_
    obtain ⟨v2, ev2, h⟩ := bv_ex h
    refine lv_topi (fun y9 z9 => ?_)
    obtain rfl : v2 = y9 := ev2.trans z9.symm
    refine lv_istore_n (lv' := [(3, .int v2), (0, .ref (ad 39)), (1, .ref (ad a1)), (2, .int a2)]) hx hb dX5_addVariant_15 rfl hl (by decide) rfl (fun ls hl => ?_)
    refine lv_aload_n hx hb dX5_addVariant_16 rfl (lv_at hl 1 rfl) ?_
    refine lv_dup hx hb dX5_addVariant_17 rfl ?_
    refine g_get cx hw inX5 (ci := 4) rfl 2 (by decide) rfl (v := .int (μ.1 39 2)) shx_39 rfl fl_X5_48 dX5_addVariant_18 ?_
    refine lv_iconst (v := 1) hx hb dX5_addVariant_21 (by decide) ?_
    refine lv_iadd hx hb dX5_addVariant_22 ?_
    refine g_put cx hw inX5 (ci := 4) rfl tyX5_ok nmX5 2 (by decide) rfl rfl rfl rfl shx_39 h fl_X5_48 dX5_addVariant_23 (fun μ3 H locs h hw => ?_)
    refine lv_aload_n hx hb dX5_addVariant_26 rfl (lv_at hl 1 rfl) ?_
    refine g_get cx hw inX5 (ci := 4) rfl 13 (by decide) rfl (v := .ref (ad 46)) shx_39 rfl fl_X5_33 dX5_addVariant_27 ?_
    refine lv_iload_n hx hb dX5_addVariant_30 rfl (lv_at hl 0 rfl) ?_
    refine g_aald cx hw shx_46 h dX5_addVariant_31 (fun h => ?_)
    refine lv_aload_n hx hb dX5_addVariant_32 rfl (lv_at hl 2 rfl) ?_
    obtain ⟨μ4, gμ4, h⟩ := bw_some h
    refine g_callVV (As := [.ref (ad a1)]) (rest := []) cx hw hA (t_X2_copyFrom l G ad (ptc v2.toNatClampNeg) (ptc_ok _) a1 q1 μ3 gμ4) (ptc_ok _) rfl ml_X5_79 im_X2_copyFrom se_X2_copyFrom in_X2 co_X2_copyFrom rfl hd_X2_copyFrom rfl ⟨(Nat.le_of_ble_eq_true rfl), (Nat.le_of_ble_eq_true rfl)⟩ hl.1 rfl (Nat.le_of_ble_eq_true rfl) dX5_addVariant_33 ⟨rfl, rfl⟩ (fun H locs hw => ?_)
    refine lv_aload_n hx hb dX5_addVariant_36 rfl (lv_at hl 1 rfl) ?_
    refine lv_iload_n hx hb dX5_addVariant_37 rfl (lv_at hl 0 rfl) ?_
    refine lv_iconst (v := 0) hx hb dX5_addVariant_38 (by decide) ?_
    refine lv_iload_n hx hb dX5_addVariant_39 rfl (lv_at hl 3 rfl) ?_
    obtain ⟨μ6, gμ6, h⟩ := bw_some h
    refine g_callVV (As := [.int v2, .int 0, .int a2]) (rest := []) cx hw hA (t_X5_setVariant l G ad v2 (0 : Int32) a2 μ4 gμ6) shx_39 rfl ml_X5_83 im_X5_setVariant se_X5_setVariant in_X5 co_X5_setVariant rfl hd_X5_setVariant rfl ⟨(Nat.le_of_ble_eq_true rfl), (Nat.le_of_ble_eq_true rfl)⟩ hl.1 rfl (Nat.le_of_ble_eq_true rfl) dX5_addVariant_40 ⟨rfl, rfl⟩ (fun H locs hw => ?_)
    refine lv_aload_n hx hb dX5_addVariant_43 rfl (lv_at hl 1 rfl) ?_
    refine lv_iload_n hx hb dX5_addVariant_44 rfl (lv_at hl 0 rfl) ?_
    refine lv_iconst (v := 1) hx hb dX5_addVariant_45 (by decide) ?_
    refine lv_iconst (v := 0) hx hb dX5_addVariant_46 (by decide) ?_
    obtain ⟨μ8, gμ8, h⟩ := bw_some h
    refine g_callVV (As := [.int v2, .int 1, .int 0]) (rest := []) cx hw hA (t_X5_setVariant l G ad v2 (1 : Int32) (0 : Int32) μ6 gμ8) shx_39 rfl ml_X5_83 im_X5_setVariant se_X5_setVariant in_X5 co_X5_setVariant rfl hd_X5_setVariant rfl ⟨(Nat.le_of_ble_eq_true rfl), (Nat.le_of_ble_eq_true rfl)⟩ hl.1 rfl (Nat.le_of_ble_eq_true rfl) dX5_addVariant_47 ⟨rfl, rfl⟩ (fun H locs hw => ?_)
    refine lv_aload_n hx hb dX5_addVariant_50 rfl (lv_at hl 1 rfl) ?_
    refine lv_iload_n hx hb dX5_addVariant_51 rfl (lv_at hl 0 rfl) ?_
    refine lv_iconst (v := 2) hx hb dX5_addVariant_52 (by decide) ?_
    refine lv_aload_n hx hb dX5_addVariant_53 rfl (lv_at hl 2 rfl) ?_
    obtain ⟨r11, μ10, gr11, h⟩ := bd_some h
    refine g_callVI (As := []) (rest := [.int 2, .int v2, .ref (ad 39)]) cx hw hA (t_X2_stars l G ad a1 q1 μ8 gr11) q1 rfl ml_X5_87 im_X2_stars se_X2_stars in_X2 co_X2_stars rfl hd_X2_stars rfl ⟨(Nat.le_of_ble_eq_true rfl), (Nat.le_of_ble_eq_true rfl)⟩ hl.1 rfl (Nat.le_of_ble_eq_true rfl) dX5_addVariant_54 ⟨rfl, rfl⟩ (fun H locs hw => ?_)
    obtain ⟨μ12, gμ12, h⟩ := bw_some h
    refine g_callVV (As := [.int v2, .int 2, .int r11]) (rest := []) cx hw hA (t_X5_setVariant l G ad v2 (2 : Int32) r11 μ10 gμ12) shx_39 rfl ml_X5_83 im_X5_setVariant se_X5_setVariant in_X5 co_X5_setVariant rfl hd_X5_setVariant rfl ⟨(Nat.le_of_ble_eq_true rfl), (Nat.le_of_ble_eq_true rfl)⟩ hl.1 rfl (Nat.le_of_ble_eq_true rfl) dX5_addVariant_57 ⟨rfl, rfl⟩ (fun H locs hw => ?_)
    refine lv_aload_n hx hb dX5_addVariant_60 rfl (lv_at hl 1 rfl) ?_
    refine lv_iload_n hx hb dX5_addVariant_61 rfl (lv_at hl 0 rfl) ?_
    refine lv_iconst (v := 3) hx hb dX5_addVariant_62 (by decide) ?_
    refine lv_iconst (v := (-1)) hx hb dX5_addVariant_63 (by decide) ?_
    obtain ⟨μ14, gμ14, h⟩ := bw_some h
    refine g_callVV (As := [.int v2, .int 3, .int (-1)]) (rest := []) cx hw hA (t_X5_setVariant l G ad v2 (3 : Int32) (-1 : Int32) μ12 gμ14) shx_39 rfl ml_X5_83 im_X5_setVariant se_X5_setVariant in_X5 co_X5_setVariant rfl hd_X5_setVariant rfl ⟨(Nat.le_of_ble_eq_true rfl), (Nat.le_of_ble_eq_true rfl)⟩ hl.1 rfl (Nat.le_of_ble_eq_true rfl) dX5_addVariant_64 ⟨rfl, rfl⟩ (fun H locs hw => ?_)
    refine lv_iload_n hx hb dX5_addVariant_67 rfl (lv_at hl 0 rfl) ?_
    exact g_iret cx hr hlk hw h dX5_addVariant_68
  · rw [if_neg c1] at h
    refine lv_iconst (v := (-1)) hx hb dX5_addVariant_9 (by decide) ?_
    exact g_iret cx hr hlk hw h dX5_addVariant_10

theorem p_X5_patternOf_ex : ∃ f : Int32 → Mem → Option (Nat × Mem), ∀ (a1 : Int32) (μ : Mem), f a1 μ = gd (inb (imax (0 : Int32) (imin a1 (23 : Int32))) 24) (some ((ptc (imax (0 : Int32) (imin a1 (23 : Int32))).toNatClampNeg), μ)) := ⟨fun (a1 : Int32) (μ : Mem) => gd (inb (imax (0 : Int32) (imin a1 (23 : Int32))) 24) (some ((ptc (imax (0 : Int32) (imin a1 (23 : Int32))).toNatClampNeg), μ)), fun _ _ => rfl⟩
noncomputable def p_X5_patternOf : Int32 → Mem → Option (Nat × Mem) := Classical.choose p_X5_patternOf_ex
theorem p_X5_patternOf_eq (a1 : Int32) (μ : Mem) : p_X5_patternOf a1 μ = gd (inb (imax (0 : Int32) (imin a1 (23 : Int32))) 24) (some ((ptc (imax (0 : Int32) (imin a1 (23 : Int32))).toNatClampNeg), μ)) := Classical.choose_spec p_X5_patternOf_ex a1 μ
set_option maxHeartbeats 4000000 in
set_option maxRecDepth 100000 in
theorem t_X5_patternOf (l : Launch) (G : Gt) (ad : Nat → Nat) (a1 : Int32) (μ : Mem) {r : Nat} {μz : Mem} (h : p_X5_patternOf a1 μ = some (r, μz)) : Mt l yX5_patternOf cX5_patternOf 2 (some (.object "OnlineParts$Pattern")) ({ frames := 1, cells := 0, slots := 0, locals := 24 } : Room) G [.ref (ad 39), .int a1] (wd 0 G ad μ) (eR 0 G ad r μz) := by
  refine Bk.mt (by decide) rfl (Nat.le_of_ble_eq_true rfl) ?_
  intro p e s m below meth c A ls H locs cx hr hlk hA hl hw
  have hx := cx.1
  have hb := cx.2.1
  have hl : lv_has ls 2 [(0, .ref (ad 39)), (1, .int a1)] := hl
  rw [p_X5_patternOf_eq] at h
  refine lv_aload_n hx hb dX5_patternOf_0 rfl (lv_at hl 0 rfl) ?_
  refine g_get cx hw inX5 (ci := 4) rfl 13 (by decide) rfl (v := .ref (ad 46)) shx_39 rfl fl_X5_33 dX5_patternOf_1 ?_
  refine lv_iconst (v := 0) hx hb dX5_patternOf_4 (by decide) ?_
  refine lv_iload_n hx hb dX5_patternOf_5 rfl (lv_at hl 1 rfl) ?_
  refine lv_bipush (v := 23) hx hb dX5_patternOf_6 (by decide) ?_
  refine r_mmin (v := (imin a1 (23 : Int32))) cx ml_X5_63 hl.1 (Nat.le_of_ble_eq_true rfl) (Nat.le_of_ble_eq_true rfl) (Nat.le_of_ble_eq_true rfl) (Nat.le_of_ble_eq_true rfl) rfl dX5_patternOf_8 ?_
  refine r_mmax (v := (imax (0 : Int32) (imin a1 (23 : Int32)))) cx ml_X5_69 hl.1 (Nat.le_of_ble_eq_true rfl) (Nat.le_of_ble_eq_true rfl) (Nat.le_of_ble_eq_true rfl) (Nat.le_of_ble_eq_true rfl) rfl dX5_patternOf_11 ?_
  refine g_aald cx hw shx_46 h dX5_patternOf_14 (fun h => ?_)
  exact g_aret cx hr hlk hw h dX5_patternOf_15
theorem p_X5_patternOf_sh {a1 : Int32} {μ μz : Mem} {r : Nat} (h : p_X5_patternOf a1 μ = some (r, μz)) : sh 0 r = (0, 1) := by
  rw [p_X5_patternOf_eq] at h
  obtain ⟨_, h⟩ := gd_some h
  cases h
  exact ptc_ok _

theorem p_X5_addBlock_ex : ∃ f : Mem → Option (Int32 × Mem), ∀  (μ : Mem), f  μ = (if (μ.1 39 6) < (672 : Int32) then gd (inb (μ.1 39 6) 672) (bv (sF μ 42 (μ.1 39 6).toNatClampNeg (-1 : Int32)) (fun μ2 => gd (inb (μ2.1 39 6) 672) (bv (sF μ2 43 (μ2.1 39 6).toNatClampNeg (-1 : Int32)) (fun μ3 => gd (inb (μ3.1 39 6) 672) (bv (sL μ3 44 (μ3.1 39 6).toNatClampNeg (0 : Int64)) (fun μ4 => bv (sF μ4 39 6 ((μ4.1 39 6) + (1 : Int32))) (fun μ5 => some (((μ5.1 39 6) - (1 : Int32)), μ5)))))))) else some ((-1 : Int32), μ)) := ⟨fun  (μ : Mem) => (if (μ.1 39 6) < (672 : Int32) then gd (inb (μ.1 39 6) 672) (bv (sF μ 42 (μ.1 39 6).toNatClampNeg (-1 : Int32)) (fun μ2 => gd (inb (μ2.1 39 6) 672) (bv (sF μ2 43 (μ2.1 39 6).toNatClampNeg (-1 : Int32)) (fun μ3 => gd (inb (μ3.1 39 6) 672) (bv (sL μ3 44 (μ3.1 39 6).toNatClampNeg (0 : Int64)) (fun μ4 => bv (sF μ4 39 6 ((μ4.1 39 6) + (1 : Int32))) (fun μ5 => some (((μ5.1 39 6) - (1 : Int32)), μ5)))))))) else some ((-1 : Int32), μ)), fun _ => rfl⟩
noncomputable def p_X5_addBlock : Mem → Option (Int32 × Mem) := Classical.choose p_X5_addBlock_ex
theorem p_X5_addBlock_eq  (μ : Mem) : p_X5_addBlock  μ = (if (μ.1 39 6) < (672 : Int32) then gd (inb (μ.1 39 6) 672) (bv (sF μ 42 (μ.1 39 6).toNatClampNeg (-1 : Int32)) (fun μ2 => gd (inb (μ2.1 39 6) 672) (bv (sF μ2 43 (μ2.1 39 6).toNatClampNeg (-1 : Int32)) (fun μ3 => gd (inb (μ3.1 39 6) 672) (bv (sL μ3 44 (μ3.1 39 6).toNatClampNeg (0 : Int64)) (fun μ4 => bv (sF μ4 39 6 ((μ4.1 39 6) + (1 : Int32))) (fun μ5 => some (((μ5.1 39 6) - (1 : Int32)), μ5)))))))) else some ((-1 : Int32), μ)) := Classical.choose_spec p_X5_addBlock_ex  μ
set_option maxHeartbeats 4000000 in
set_option maxRecDepth 100000 in
theorem t_X5_addBlock (l : Launch) (G : Gt) (ad : Nat → Nat)  (μ : Mem) {r : Int32} {μz : Mem} (h : p_X5_addBlock  μ = some (r, μz)) : Mt l yX5_addBlock cX5_addBlock 1 (some .int) ({ frames := 0, cells := 0, slots := 0, locals := 0 } : Room) G [.ref (ad 39)] (wd 0 G ad μ) (eI 0 G ad r μz) := by
  refine Bk.mt (by decide) rfl (Nat.le_of_ble_eq_true rfl) ?_
  intro p e s m below meth c A ls H locs cx hr hlk hA hl hw
  have hx := cx.1
  have hb := cx.2.1
  have hl : lv_has ls 1 [(0, .ref (ad 39))] := hl
  rw [p_X5_addBlock_eq] at h
  refine lv_aload_n hx hb dX5_addBlock_0 rfl (lv_at hl 0 rfl) ?_
  refine g_get cx hw inX5 (ci := 4) rfl 6 (by decide) rfl (v := .int (μ.1 39 6)) shx_39 rfl fl_X5_60 dX5_addBlock_1 ?_
  refine lv_sipush (v := 672) hx hb dX5_addBlock_4 (by decide) ?_
  refine lv_icmp_lt (tgt := 12) hx hb dX5_addBlock_7 (by decide) (fun c1 => ?_) (fun c1 => ?_)
  · rw [if_pos c1] at h
    refine lv_aload_n hx hb dX5_addBlock_12 rfl (lv_at hl 0 rfl) ?_
    refine g_get cx hw inX5 (ci := 4) rfl 9 (by decide) rfl (v := .ref (ad 42)) shx_39 rfl fl_X5_19 dX5_addBlock_13 ?_
    refine lv_aload_n hx hb dX5_addBlock_16 rfl (lv_at hl 0 rfl) ?_
    refine g_get cx hw inX5 (ci := 4) rfl 6 (by decide) rfl (v := .int (μ.1 39 6)) shx_39 rfl fl_X5_60 dX5_addBlock_17 ?_
    refine lv_iconst (v := (-1)) hx hb dX5_addBlock_20 (by decide) ?_
    refine g_iast cx hw shx_42 h dX5_addBlock_21 (fun μ2 H locs h hw => ?_)
    refine lv_aload_n hx hb dX5_addBlock_22 rfl (lv_at hl 0 rfl) ?_
    refine g_get cx hw inX5 (ci := 4) rfl 10 (by decide) rfl (v := .ref (ad 43)) shx_39 rfl fl_X5_22 dX5_addBlock_23 ?_
    refine lv_aload_n hx hb dX5_addBlock_26 rfl (lv_at hl 0 rfl) ?_
    refine g_get cx hw inX5 (ci := 4) rfl 6 (by decide) rfl (v := .int (μ2.1 39 6)) shx_39 rfl fl_X5_60 dX5_addBlock_27 ?_
    refine lv_iconst (v := (-1)) hx hb dX5_addBlock_30 (by decide) ?_
    refine g_iast cx hw shx_43 h dX5_addBlock_31 (fun μ3 H locs h hw => ?_)
    refine lv_aload_n hx hb dX5_addBlock_32 rfl (lv_at hl 0 rfl) ?_
    refine g_get cx hw inX5 (ci := 4) rfl 11 (by decide) rfl (v := .ref (ad 44)) shx_39 rfl fl_X5_25 dX5_addBlock_33 ?_
    refine lv_aload_n hx hb dX5_addBlock_36 rfl (lv_at hl 0 rfl) ?_
    refine g_get cx hw inX5 (ci := 4) rfl 6 (by decide) rfl (v := .int (μ3.1 39 6)) shx_39 rfl fl_X5_60 dX5_addBlock_37 ?_
    refine lv_lconst (v := 0) hx hb dX5_addBlock_40 (by decide) ?_
    refine g_last cx hw shx_44 h dX5_addBlock_41 (fun μ4 H locs h hw => ?_)
    refine lv_aload_n hx hb dX5_addBlock_42 rfl (lv_at hl 0 rfl) ?_
    refine lv_dup hx hb dX5_addBlock_43 rfl ?_
    refine g_get cx hw inX5 (ci := 4) rfl 6 (by decide) rfl (v := .int (μ4.1 39 6)) shx_39 rfl fl_X5_60 dX5_addBlock_44 ?_
    refine lv_iconst (v := 1) hx hb dX5_addBlock_47 (by decide) ?_
    refine lv_iadd hx hb dX5_addBlock_48 ?_
    refine g_put cx hw inX5 (ci := 4) rfl tyX5_ok nmX5 6 (by decide) rfl rfl rfl rfl shx_39 h fl_X5_60 dX5_addBlock_49 (fun μ5 H locs h hw => ?_)
    refine lv_aload_n hx hb dX5_addBlock_52 rfl (lv_at hl 0 rfl) ?_
    refine g_get cx hw inX5 (ci := 4) rfl 6 (by decide) rfl (v := .int (μ5.1 39 6)) shx_39 rfl fl_X5_60 dX5_addBlock_53 ?_
    refine lv_iconst (v := 1) hx hb dX5_addBlock_56 (by decide) ?_
    refine lv_isub hx hb dX5_addBlock_57 ?_
    exact g_iret cx hr hlk hw h dX5_addBlock_58
  · rw [if_neg c1] at h
    refine lv_iconst (v := (-1)) hx hb dX5_addBlock_10 (by decide) ?_
    exact g_iret cx hr hlk hw h dX5_addBlock_11

theorem p_X8_clear_ex : ∃ f : Mem → Option Mem, ∀  (μ : Mem), f  μ = bv (sF μ 30 5 (0 : Int32)) (fun μ1 => bv (sF μ1 30 7 (0 : Int32)) (fun μ2 => bv (sF μ2 30 10 (0 : Int32)) (fun μ3 => some μ3))) := ⟨fun  (μ : Mem) => bv (sF μ 30 5 (0 : Int32)) (fun μ1 => bv (sF μ1 30 7 (0 : Int32)) (fun μ2 => bv (sF μ2 30 10 (0 : Int32)) (fun μ3 => some μ3))), fun _ => rfl⟩
noncomputable def p_X8_clear : Mem → Option Mem := Classical.choose p_X8_clear_ex
theorem p_X8_clear_eq  (μ : Mem) : p_X8_clear  μ = bv (sF μ 30 5 (0 : Int32)) (fun μ1 => bv (sF μ1 30 7 (0 : Int32)) (fun μ2 => bv (sF μ2 30 10 (0 : Int32)) (fun μ3 => some μ3))) := Classical.choose_spec p_X8_clear_ex  μ
set_option maxHeartbeats 4000000 in
set_option maxRecDepth 100000 in
theorem t_X8_clear (l : Launch) (G : Gt) (ad : Nat → Nat)  (μ : Mem) {μz : Mem} (h : p_X8_clear  μ = some μz) : Mt l yX8_clear cX8_clear 1 none ({ frames := 0, cells := 0, slots := 0, locals := 0 } : Room) G [.ref (ad 30)] (wd 0 G ad μ) (eV 0 G ad μz) := by
  refine Bk.mt (by decide) rfl (Nat.le_of_ble_eq_true rfl) ?_
  intro p e s m below meth c A ls H locs cx hr hlk hA hl hw
  have hx := cx.1
  have hb := cx.2.1
  have hl : lv_has ls 1 [(0, .ref (ad 30))] := hl
  rw [p_X8_clear_eq] at h
  refine lv_aload_n hx hb dX8_clear_0 rfl (lv_at hl 0 rfl) ?_
  refine lv_iconst (v := 0) hx hb dX8_clear_1 (by decide) ?_
  refine g_put cx hw inX8 (ci := 7) rfl tyX8_ok nmX8 5 (by decide) rfl rfl rfl rfl shx_30 h fl_X8_41 dX8_clear_2 (fun μ1 H locs h hw => ?_)
  refine lv_aload_n hx hb dX8_clear_5 rfl (lv_at hl 0 rfl) ?_
  refine lv_iconst (v := 0) hx hb dX8_clear_6 (by decide) ?_
  refine g_put cx hw inX8 (ci := 7) rfl tyX8_ok nmX8 7 (by decide) rfl rfl rfl rfl shx_30 h fl_X8_45 dX8_clear_7 (fun μ2 H locs h hw => ?_)
  refine lv_aload_n hx hb dX8_clear_10 rfl (lv_at hl 0 rfl) ?_
  refine lv_iconst (v := 0) hx hb dX8_clear_11 (by decide) ?_
  refine g_put cx hw inX8 (ci := 7) rfl tyX8_ok nmX8 10 (by decide) rfl rfl rfl rfl shx_30 h fl_X8_48 dX8_clear_12 (fun μ3 H locs h hw => ?_)
  exact g_vret cx hr hlk hw h dX8_clear_15

theorem p_X8_isPair_ex : ∃ f : Int64 → Mem → Option (Int32 × Mem), ∀ (a1 : Int64) (μ : Mem), f a1 μ = (if (lg_cmp ((a1.toUInt64 >>> ((32 : Int32).toInt64.toUInt64 &&& Int64.toUInt64 63)).toInt64) (2 : Int64)) = (0 : Int32) then (if (a1.toInt32) < (0 : Int32) then some ((0 : Int32), μ) else (if (μ.1 30 5) ≤ (a1.toInt32) then some ((0 : Int32), μ) else some ((1 : Int32), μ))) else some ((0 : Int32), μ)) := ⟨fun (a1 : Int64) (μ : Mem) => (if (lg_cmp ((a1.toUInt64 >>> ((32 : Int32).toInt64.toUInt64 &&& Int64.toUInt64 63)).toInt64) (2 : Int64)) = (0 : Int32) then (if (a1.toInt32) < (0 : Int32) then some ((0 : Int32), μ) else (if (μ.1 30 5) ≤ (a1.toInt32) then some ((0 : Int32), μ) else some ((1 : Int32), μ))) else some ((0 : Int32), μ)), fun _ _ => rfl⟩
noncomputable def p_X8_isPair : Int64 → Mem → Option (Int32 × Mem) := Classical.choose p_X8_isPair_ex
theorem p_X8_isPair_eq (a1 : Int64) (μ : Mem) : p_X8_isPair a1 μ = (if (lg_cmp ((a1.toUInt64 >>> ((32 : Int32).toInt64.toUInt64 &&& Int64.toUInt64 63)).toInt64) (2 : Int64)) = (0 : Int32) then (if (a1.toInt32) < (0 : Int32) then some ((0 : Int32), μ) else (if (μ.1 30 5) ≤ (a1.toInt32) then some ((0 : Int32), μ) else some ((1 : Int32), μ))) else some ((0 : Int32), μ)) := Classical.choose_spec p_X8_isPair_ex a1 μ
set_option maxHeartbeats 4000000 in
set_option maxRecDepth 100000 in
theorem t_X8_isPair (l : Launch) (G : Gt) (ad : Nat → Nat) (a1 : Int64) (μ : Mem) {r : Int32} {μz : Mem} (h : p_X8_isPair a1 μ = some (r, μz)) : Mt l yX8_isPair cX8_isPair 3 (some .boolean) ({ frames := 0, cells := 0, slots := 0, locals := 0 } : Room) G [.ref (ad 30), .long a1] (wd 0 G ad μ) (eI 0 G ad r μz) := by
  refine Bk.mt (by decide) rfl (Nat.le_of_ble_eq_true rfl) ?_
  intro p e s m below meth c A ls H locs cx hr hlk hA hl hw
  have hx := cx.1
  have hb := cx.2.1
  have hl : lv_has ls 3 [(0, .ref (ad 30)), (1, .long a1)] := hl
  rw [p_X8_isPair_eq] at h
  refine lv_lload_n hx hb dX8_isPair_0 rfl (lv_at hl 1 rfl) ?_
  refine lv_bipush (v := 32) hx hb dX8_isPair_1 (by decide) ?_
  refine lv_lushr hx hb dX8_isPair_3 rfl ?_
  refine lv_ldc2 hx hb cx.2.2.2.1 (cx.2.2.2.2.1 _ cs_X8_86) dX8_isPair_4 ?_
  refine W.lcmp hx hb dX8_isPair_7 ?_
  refine lv_if_ne (tgt := 29) hx hb dX8_isPair_8 (by decide) (fun c1 => ?_) (fun c1 => ?_)
  · rw [if_neg c1] at h
    refine lv_iconst (v := 0) hx hb dX8_isPair_29 (by decide) ?_
    exact g_zret cx hr hlk rfl hw h dX8_isPair_30
  · rw [if_pos c1] at h
    refine lv_lload_n hx hb dX8_isPair_11 rfl (lv_at hl 1 rfl) ?_
    refine lv_l2i hx hb dX8_isPair_12 rfl ?_
    refine lv_if_lt (tgt := 29) hx hb dX8_isPair_13 (by decide) (fun c2 => ?_) (fun c2 => ?_)
    · rw [if_pos c2] at h
      refine lv_iconst (v := 0) hx hb dX8_isPair_29 (by decide) ?_
      exact g_zret cx hr hlk rfl hw h dX8_isPair_30
    · rw [if_neg c2] at h
      refine lv_lload_n hx hb dX8_isPair_16 rfl (lv_at hl 1 rfl) ?_
      refine lv_l2i hx hb dX8_isPair_17 rfl ?_
      refine lv_aload_n hx hb dX8_isPair_18 rfl (lv_at hl 0 rfl) ?_
      refine g_get cx hw inX8 (ci := 7) rfl 5 (by decide) rfl (v := .int (μ.1 30 5)) shx_30 rfl fl_X8_41 dX8_isPair_19 ?_
      refine lv_icmp_ge (tgt := 29) hx hb dX8_isPair_22 (by decide) (fun c3 => ?_) (fun c3 => ?_)
      · rw [if_pos c3] at h
        refine lv_iconst (v := 0) hx hb dX8_isPair_29 (by decide) ?_
        exact g_zret cx hr hlk rfl hw h dX8_isPair_30
      · rw [if_neg c3] at h
        refine lv_iconst (v := 1) hx hb dX8_isPair_25 (by decide) ?_
        refine lv_goto (tgt := 30) hx hb dX8_isPair_26 (by decide) ?_
        exact g_zret cx hr hlk rfl hw h dX8_isPair_30

theorem p_X8_weightOf_ex : ∃ f : Int64 → Mem → Option (Int32 × Mem), ∀ (a1 : Int64) (μ : Mem), f a1 μ = bd (p_X8_isPair a1 μ) (fun r2 μ1 => (if r2 = (0 : Int32) then some ((1 : Int32), μ1) else gd (inb (s_X0_bits a1) 30200) (some ((μ1.1 33 (s_X0_bits a1).toNatClampNeg), μ1)))) := ⟨fun (a1 : Int64) (μ : Mem) => bd (p_X8_isPair a1 μ) (fun r2 μ1 => (if r2 = (0 : Int32) then some ((1 : Int32), μ1) else gd (inb (s_X0_bits a1) 30200) (some ((μ1.1 33 (s_X0_bits a1).toNatClampNeg), μ1)))), fun _ _ => rfl⟩
noncomputable def p_X8_weightOf : Int64 → Mem → Option (Int32 × Mem) := Classical.choose p_X8_weightOf_ex
theorem p_X8_weightOf_eq (a1 : Int64) (μ : Mem) : p_X8_weightOf a1 μ = bd (p_X8_isPair a1 μ) (fun r2 μ1 => (if r2 = (0 : Int32) then some ((1 : Int32), μ1) else gd (inb (s_X0_bits a1) 30200) (some ((μ1.1 33 (s_X0_bits a1).toNatClampNeg), μ1)))) := Classical.choose_spec p_X8_weightOf_ex a1 μ
set_option maxHeartbeats 4000000 in
set_option maxRecDepth 100000 in
theorem t_X8_weightOf (l : Launch) (G : Gt) (ad : Nat → Nat) (a1 : Int64) (μ : Mem) {r : Int32} {μz : Mem} (h : p_X8_weightOf a1 μ = some (r, μz)) : Mt l yX8_weightOf cX8_weightOf 3 (some .int) ({ frames := 1, cells := 0, slots := 0, locals := 22 } : Room) G [.ref (ad 30), .long a1] (wd 0 G ad μ) (eI 0 G ad r μz) := by
  refine Bk.mt (by decide) rfl (Nat.le_of_ble_eq_true rfl) ?_
  intro p e s m below meth c A ls H locs cx hr hlk hA hl hw
  have hx := cx.1
  have hb := cx.2.1
  have hl : lv_has ls 3 [(0, .ref (ad 30)), (1, .long a1)] := hl
  rw [p_X8_weightOf_eq] at h
  refine lv_aload_n hx hb dX8_weightOf_0 rfl (lv_at hl 0 rfl) ?_
  refine lv_lload_n hx hb dX8_weightOf_1 rfl (lv_at hl 1 rfl) ?_
  obtain ⟨r2, μ1, gr2, h⟩ := bd_some h
  refine g_callVI (As := [.long a1]) (rest := []) cx hw hA (t_X8_isPair l G ad a1 μ gr2) shx_30 rfl ml_X8_88 im_X8_isPair se_X8_isPair in_X8 co_X8_isPair rfl hd_X8_isPair rfl ⟨(Nat.le_of_ble_eq_true rfl), (Nat.le_of_ble_eq_true rfl)⟩ hl.1 rfl (Nat.le_of_ble_eq_true rfl) dX8_weightOf_2 ⟨rfl, rfl⟩ (fun H locs hw => ?_)
  refine lv_if_eq (tgt := 20) hx hb dX8_weightOf_5 (by decide) (fun c3 => ?_) (fun c3 => ?_)
  · rw [if_pos c3] at h
    refine lv_iconst (v := 1) hx hb dX8_weightOf_20 (by decide) ?_
    exact g_iret cx hr hlk hw h dX8_weightOf_21
  · rw [if_neg c3] at h
    refine lv_aload_n hx hb dX8_weightOf_8 rfl (lv_at hl 0 rfl) ?_
    refine g_get cx hw inX8 (ci := 7) rfl 2 (by decide) rfl (v := .ref (ad 33)) shx_30 rfl fl_X8_20 dX8_weightOf_9 ?_
    refine lv_lload_n hx hb dX8_weightOf_12 rfl (lv_at hl 1 rfl) ?_
    refine s_callI (As := [.long a1]) (rest := [.ref (ad 33)]) cx hw hA (t_X0_bits l G a1) ml_X8_92 st_X0_bits in_X0 co_X0_bits hd_X0_bits rfl ⟨(Nat.le_of_ble_eq_true rfl), (Nat.le_of_ble_eq_true rfl)⟩ hl.1 rfl (Nat.le_of_ble_eq_true rfl) dX8_weightOf_13 rfl (fun H locs hw => ?_)
    refine g_iald cx hw shx_33 h dX8_weightOf_16 (fun h => ?_)
    refine lv_goto (tgt := 21) hx hb dX8_weightOf_17 (by decide) ?_
    exact g_iret cx hr hlk hw h dX8_weightOf_21
