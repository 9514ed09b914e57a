theorem x_add_j1_ex : ∃ f : Int32 → Int32 → Int32, ∀ (x : Int32) (y : Int32), f x y = (if (x &&& (2147483647 : Int32)) < (y &&& (2147483647 : Int32)) then (y) else (x)) := ⟨fun (x : Int32) (y : Int32) => (if (x &&& (2147483647 : Int32)) < (y &&& (2147483647 : Int32)) then (y) else (x)), fun _ _ => rfl⟩
noncomputable def x_add_j1 : Int32 → Int32 → Int32 := Classical.choose x_add_j1_ex
theorem x_add_j1_eq (x : Int32) (y : Int32) : x_add_j1 x y = (if (x &&& (2147483647 : Int32)) < (y &&& (2147483647 : Int32)) then (y) else (x)) := Classical.choose_spec x_add_j1_ex x y
theorem x_add_j2_ex : ∃ f : Int32 → Int32 → Int32, ∀ (x : Int32) (y : Int32), f x y = (if (x_add_j1 x y) = x then (y) else (x)) := ⟨fun (x : Int32) (y : Int32) => (if (x_add_j1 x y) = x then (y) else (x)), fun _ _ => rfl⟩
noncomputable def x_add_j2 : Int32 → Int32 → Int32 := Classical.choose x_add_j2_ex
theorem x_add_j2_eq (x : Int32) (y : Int32) : x_add_j2 x y = (if (x_add_j1 x y) = x then (y) else (x)) := Classical.choose_spec x_add_j2_ex x y
theorem x_add_j3_ex : ∃ f : Int32 → Int32 → Int32, ∀ (x : Int32) (y : Int32), f x y = (((x_lastBitOf (x_add_j1 x y)) - (x_lastBitOf (x_add_j2 x y)))) := ⟨fun (x : Int32) (y : Int32) => (((x_lastBitOf (x_add_j1 x y)) - (x_lastBitOf (x_add_j2 x y)))), fun _ _ => rfl⟩
noncomputable def x_add_j3 : Int32 → Int32 → Int32 := Classical.choose x_add_j3_ex
theorem x_add_j3_eq (x : Int32) (y : Int32) : x_add_j3 x y = (((x_lastBitOf (x_add_j1 x y)) - (x_lastBitOf (x_add_j2 x y)))) := Classical.choose_spec x_add_j3_ex x y
theorem x_add_ex : ∃ f : Int32 → Int32 → Int32, ∀ (x : Int32) (y : Int32), f x y = (if (x &&& (2147483647 : Int32)) = (2139095040 : Int32) then (if (x ^^^ y) = (-2147483648 : Int32) then (2143289344) else (x)) else (if (y &&& (2147483647 : Int32)) = (2139095040 : Int32) then (if (x ^^^ y) = (-2147483648 : Int32) then (2143289344) else (y)) else (if (x_add_j3 x y) ≤ (36 : Int32) then (if (0 : Int32) ≤ (x ^^^ y) then (if (lg_cmp (((x_wholeOf (x_add_j1 x y)) <<< ((x_add_j3 x y).toInt64 &&& 63)) + (x_wholeOf (x_add_j2 x y))) (0 : Int64)) = (0 : Int32) then (((x &&& y) &&& (-2147483648 : Int32))) else ((x_pack ((x_add_j1 x y).toUInt32 >>> ((31 : Int32).toUInt32 &&& Int32.toUInt32 31)).toInt32 (((x_wholeOf (x_add_j1 x y)) <<< ((x_add_j3 x y).toInt64 &&& 63)) + (x_wholeOf (x_add_j2 x y))) (x_lastBitOf (x_add_j2 x y))))) else (if (lg_cmp (((x_wholeOf (x_add_j1 x y)) <<< ((x_add_j3 x y).toInt64 &&& 63)) - (x_wholeOf (x_add_j2 x y))) (0 : Int64)) = (0 : Int32) then (((x &&& y) &&& (-2147483648 : Int32))) else ((x_pack ((x_add_j1 x y).toUInt32 >>> ((31 : Int32).toUInt32 &&& Int32.toUInt32 31)).toInt32 (((x_wholeOf (x_add_j1 x y)) <<< ((x_add_j3 x y).toInt64 &&& 63)) - (x_wholeOf (x_add_j2 x y))) (x_lastBitOf (x_add_j2 x y)))))) else ((x_add_j1 x y))))) := ⟨fun (x : Int32) (y : Int32) => (if (x &&& (2147483647 : Int32)) = (2139095040 : Int32) then (if (x ^^^ y) = (-2147483648 : Int32) then (2143289344) else (x)) else (if (y &&& (2147483647 : Int32)) = (2139095040 : Int32) then (if (x ^^^ y) = (-2147483648 : Int32) then (2143289344) else (y)) else (if (x_add_j3 x y) ≤ (36 : Int32) then (if (0 : Int32) ≤ (x ^^^ y) then (if (lg_cmp (((x_wholeOf (x_add_j1 x y)) <<< ((x_add_j3 x y).toInt64 &&& 63)) + (x_wholeOf (x_add_j2 x y))) (0 : Int64)) = (0 : Int32) then (((x &&& y) &&& (-2147483648 : Int32))) else ((x_pack ((x_add_j1 x y).toUInt32 >>> ((31 : Int32).toUInt32 &&& Int32.toUInt32 31)).toInt32 (((x_wholeOf (x_add_j1 x y)) <<< ((x_add_j3 x y).toInt64 &&& 63)) + (x_wholeOf (x_add_j2 x y))) (x_lastBitOf (x_add_j2 x y))))) else (if (lg_cmp (((x_wholeOf (x_add_j1 x y)) <<< ((x_add_j3 x y).toInt64 &&& 63)) - (x_wholeOf (x_add_j2 x y))) (0 : Int64)) = (0 : Int32) then (((x &&& y) &&& (-2147483648 : Int32))) else ((x_pack ((x_add_j1 x y).toUInt32 >>> ((31 : Int32).toUInt32 &&& Int32.toUInt32 31)).toInt32 (((x_wholeOf (x_add_j1 x y)) <<< ((x_add_j3 x y).toInt64 &&& 63)) - (x_wholeOf (x_add_j2 x y))) (x_lastBitOf (x_add_j2 x y)))))) else ((x_add_j1 x y))))), fun _ _ => rfl⟩
noncomputable def x_add : Int32 → Int32 → Int32 := Classical.choose x_add_ex
theorem x_add_eq (x : Int32) (y : Int32) : x_add x y = (if (x &&& (2147483647 : Int32)) = (2139095040 : Int32) then (if (x ^^^ y) = (-2147483648 : Int32) then (2143289344) else (x)) else (if (y &&& (2147483647 : Int32)) = (2139095040 : Int32) then (if (x ^^^ y) = (-2147483648 : Int32) then (2143289344) else (y)) else (if (x_add_j3 x y) ≤ (36 : Int32) then (if (0 : Int32) ≤ (x ^^^ y) then (if (lg_cmp (((x_wholeOf (x_add_j1 x y)) <<< ((x_add_j3 x y).toInt64 &&& 63)) + (x_wholeOf (x_add_j2 x y))) (0 : Int64)) = (0 : Int32) then (((x &&& y) &&& (-2147483648 : Int32))) else ((x_pack ((x_add_j1 x y).toUInt32 >>> ((31 : Int32).toUInt32 &&& Int32.toUInt32 31)).toInt32 (((x_wholeOf (x_add_j1 x y)) <<< ((x_add_j3 x y).toInt64 &&& 63)) + (x_wholeOf (x_add_j2 x y))) (x_lastBitOf (x_add_j2 x y))))) else (if (lg_cmp (((x_wholeOf (x_add_j1 x y)) <<< ((x_add_j3 x y).toInt64 &&& 63)) - (x_wholeOf (x_add_j2 x y))) (0 : Int64)) = (0 : Int32) then (((x &&& y) &&& (-2147483648 : Int32))) else ((x_pack ((x_add_j1 x y).toUInt32 >>> ((31 : Int32).toUInt32 &&& Int32.toUInt32 31)).toInt32 (((x_wholeOf (x_add_j1 x y)) <<< ((x_add_j3 x y).toInt64 &&& 63)) - (x_wholeOf (x_add_j2 x y))) (x_lastBitOf (x_add_j2 x y)))))) else ((x_add_j1 x y))))) := Classical.choose_spec x_add_ex x y
set_option maxHeartbeats 4000000 in
set_option maxRecDepth 100000 in
theorem f_add (l : Launch) (G : Gt) (x : Int32) (y : Int32) : Mt l yX0_add cX0_add 8 (some .int) ({ frames := 3, cells := 0, slots := 0, locals := 75 } : Room) G [.int x, .int y] [] (qI G (fun (r : Int32) (w : Unit) => r = x_add x y) (fun w => [])) := by
  refine Mt.of (own := RX0) (cc := cX0_add) (by decide) rfl (Nat.le_of_ble_eq_true rfl) ?_
  intro p e s m below meth c A ls cx hr hlk hmn hA hl hw
  have hx := cx.1
  have hb := cx.2.1
  have hl : lv_has ls 8 [(0, .int x), (1, .int y)] := hl
  refine lv_iload_n hx hb dX0_add_0 rfl (lv_at hl 0 rfl) ?_
  refine lv_ldc hx hb cx.2.2.2.1 (cx.2.2.2.2.1 _ cs_X0_58) dX0_add_1 ?_
  refine lv_iand hx hb dX0_add_3 ?_
  refine lv_topi (fun v1 ev1 => ?_)
  refine lv_ldc hx hb cx.2.2.2.1 (cx.2.2.2.2.1 _ cs_X0_71) dX0_add_4 ?_
  refine lv_icmp_ne (tgt := 13) hx hb dX0_add_6 (by decide) (fun c2 => ?_) (fun c2 => ?_)
  · refine lv_iconst (v := 0) hx hb dX0_add_13 (by decide) ?_
    refine lv_istore_n (lv' := [(2, .int 0), (0, .int x), (1, .int y)]) hx hb dX0_add_14 rfl hl (by decide) rfl (fun ls hl => ?_)
    refine lv_iload_n hx hb dX0_add_15 rfl (lv_at hl 0 rfl) ?_
    refine lv_if_ne (tgt := 28) hx hb dX0_add_16 (by decide) (fun c9 => absurd (by decide) c9) (fun _ => ?_)
    refine lv_iload_n hx hb dX0_add_19 rfl (lv_at hl 2 rfl) ?_
    refine lv_ldc hx hb cx.2.2.2.1 (cx.2.2.2.2.1 _ cs_X0_58) dX0_add_20 ?_
    refine lv_iand hx hb dX0_add_22 ?_
    refine lv_topi (fun v3 ev3 => ?_)
    refine lv_ldc hx hb cx.2.2.2.1 (cx.2.2.2.2.1 _ cs_X0_71) dX0_add_23 ?_
    refine lv_icmp_ne (tgt := 61) hx hb dX0_add_25 (by decide) (fun c4 => ?_) (fun c4 => ?_)
    · refine jn1 (E := (x_add_j1 x y)) (pcJ := 78) (nL := 8) (lv := fun j1 => [(0, .int x), (1, .int y), (3, .int j1)]) (sk := fun j1 => []) (fun K1 => ?_) ?_
      · refine lv_iload_n hx hb dX0_add_61 rfl (lv_at hl 1 rfl) ?_
        refine lv_ldc hx hb cx.2.2.2.1 (cx.2.2.2.2.1 _ cs_X0_58) dX0_add_62 ?_
        refine lv_iand hx hb dX0_add_64 ?_
        refine lv_topi (fun v5 ev5 => ?_)
        refine lv_iload_n hx hb dX0_add_65 rfl (lv_at hl 2 rfl) ?_
        refine lv_ldc hx hb cx.2.2.2.1 (cx.2.2.2.2.1 _ cs_X0_58) dX0_add_66 ?_
        refine lv_iand hx hb dX0_add_68 ?_
        refine lv_topi (fun v6 ev6 => ?_)
        refine lv_icmp_lt (tgt := 76) hx hb dX0_add_69 (by decide) (fun c7 => ?_) (fun c7 => ?_)
        · refine lv_iload_n hx hb dX0_add_76 rfl (lv_at hl 2 rfl) ?_
          refine lv_istore_n (lv' := [(3, .int y), (2, .int 0), (0, .int x), (1, .int y)]) hx hb dX0_add_77 rfl hl (by decide) rfl (fun ls hl => ?_)
          exact K1 y ls (by subst ev1 ev3 ev5 ev6; rw [x_add_j1_eq, if_pos c7]) (lv_sub hl [2, 3, 0] rfl)
        · refine lv_iload_n hx hb dX0_add_72 rfl (lv_at hl 1 rfl) ?_
          refine lv_goto (tgt := 77) hx hb dX0_add_73 (by decide) ?_
          refine lv_istore_n (lv' := [(3, .int x), (2, .int 0), (0, .int x), (1, .int y)]) hx hb dX0_add_77 rfl hl (by decide) rfl (fun ls hl => ?_)
          exact K1 x ls (by subst ev1 ev3 ev5 ev6; rw [x_add_j1_eq, if_neg c7]) (lv_sub hl [2, 3, 0] rfl)
      · intro j1 ls ej1 hl
        refine jn1 (E := (x_add_j2 x y)) (pcJ := 90) (nL := 8) (lv := fun j2 => [(0, .int x), (1, .int y), (3, .int j1), (4, .int j2)]) (sk := fun j2 => []) (fun K2 => ?_) ?_
        · refine lv_iload_n hx hb dX0_add_78 rfl (lv_at hl 2 rfl) ?_
          refine lv_iload_n hx hb dX0_add_79 rfl (lv_at hl 0 rfl) ?_
          refine lv_icmp_ne (tgt := 87) hx hb dX0_add_80 (by decide) (fun c8 => ?_) (fun c8 => ?_)
          · refine lv_iload_n hx hb dX0_add_87 rfl (lv_at hl 0 rfl) ?_
            refine lv_istore (lv' := [(4, .int x), (0, .int x), (1, .int y), (3, .int j1)]) hx hb dX0_add_88 hl (by decide) rfl (fun ls hl => ?_)
            exact K2 x ls (by subst ev1 ev3 ej1; rw [x_add_j2_eq, if_neg c8]) (lv_sub hl [1, 2, 3, 0] rfl)
          · refine lv_iload_n hx hb dX0_add_83 rfl (lv_at hl 1 rfl) ?_
            refine lv_goto (tgt := 88) hx hb dX0_add_84 (by decide) ?_
            refine lv_istore (lv' := [(4, .int y), (0, .int x), (1, .int y), (3, .int j1)]) hx hb dX0_add_88 hl (by decide) rfl (fun ls hl => ?_)
            exact K2 y ls (by subst ev1 ev3 ej1; rw [x_add_j2_eq, if_pos c8]) (lv_sub hl [1, 2, 3, 0] rfl)
        · intro j2 ls ej2 hl
          refine lv_iload_n hx hb dX0_add_90 rfl (lv_at hl 2 rfl) ?_
          refine r_callS0I (As := [.int j1]) (rest := []) cx hw hA (f_lastBitOf l G j1) ml_X0_63 st_X0_lastBitOf in_X0 co_X0_lastBitOf hd_X0_lastBitOf rfl ⟨Nat.le_of_ble_eq_true rfl, Nat.le_of_ble_eq_true rfl⟩ hl.1 rfl (Nat.le_of_ble_eq_true rfl) dX0_add_91 ⟨Nat.le_of_ble_eq_true rfl, Nat.le_of_ble_eq_true rfl⟩ (fun r10 H locs hr10 hw => ?_)
          refine lv_iload hx hb dX0_add_94 (lv_at hl 3 rfl) ?_
          refine r_callS0I (As := [.int j2]) (rest := [.int r10]) cx hw hA (f_lastBitOf l G j2) ml_X0_63 st_X0_lastBitOf in_X0 co_X0_lastBitOf hd_X0_lastBitOf rfl ⟨Nat.le_of_ble_eq_true rfl, Nat.le_of_ble_eq_true rfl⟩ hl.1 rfl (Nat.le_of_ble_eq_true rfl) dX0_add_96 ⟨Nat.le_of_ble_eq_true rfl, Nat.le_of_ble_eq_true rfl⟩ (fun r12 H locs hr12 hw => ?_)
          refine jn1 (E := (x_add_j3 x y)) (pcJ := 102) (nL := 8) (lv := fun j3 => [(0, .int x), (1, .int y), (3, .int j1), (4, .int j2), (5, .int j3)]) (sk := fun j3 => []) (fun K3 => ?_) ?_
          · refine lv_isub hx hb dX0_add_99 ?_
            refine lv_topi (fun v13 ev13 => ?_)
            refine lv_istore (lv' := [(5, .int v13), (0, .int x), (1, .int y), (3, .int j1), (4, .int j2)]) hx hb dX0_add_100 hl (by decide) rfl (fun ls hl => ?_)
            exact K3 v13 ls (by subst ev1 ev3 ej1 ej2 hr10 hr12 ev13; rw [x_add_j3_eq]) (lv_sub hl [1, 2, 3, 4, 0] rfl)
          · intro j3 ls ej3 hl
            refine lv_iload hx hb dX0_add_102 (lv_at hl 4 rfl) ?_
            refine lv_bipush (v := 36) hx hb dX0_add_104 (by decide) ?_
            refine lv_icmp_le (tgt := 111) hx hb dX0_add_106 (by decide) (fun c14 => ?_) (fun c14 => ?_)
            · refine lv_iload_n hx hb dX0_add_111 rfl (lv_at hl 2 rfl) ?_
              refine r_callS0L (As := [.int j1]) (rest := []) cx hw hA (f_wholeOf l G j1) ml_X0_67 st_X0_wholeOf in_X0 co_X0_wholeOf hd_X0_wholeOf rfl ⟨Nat.le_of_ble_eq_true rfl, Nat.le_of_ble_eq_true rfl⟩ hl.1 rfl (Nat.le_of_ble_eq_true rfl) dX0_add_112 ⟨Nat.le_of_ble_eq_true rfl, Nat.le_of_ble_eq_true rfl⟩ (fun r16 H locs hr16 hw => ?_)
              refine lv_iload hx hb dX0_add_115 (lv_at hl 4 rfl) ?_
              refine lv_lshl hx hb dX0_add_117 rfl ?_
              refine lv_topl (fun v17 ev17 => ?_)
              refine lv_lstore (lv' := [(6, .long v17), (0, .int x), (1, .int y), (3, .int j1), (4, .int j2), (5, .int j3)]) hx hb dX0_add_118 hl (by decide) rfl (fun ls hl => ?_)
              refine lv_iload_n hx hb dX0_add_120 rfl (lv_at hl 1 rfl) ?_
              refine lv_iload_n hx hb dX0_add_121 rfl (lv_at hl 2 rfl) ?_
              refine lv_ixor hx hb dX0_add_122 ?_
              refine lv_topi (fun v18 ev18 => ?_)
              refine lv_if_ge (tgt := 137) hx hb dX0_add_123 (by decide) (fun c19 => ?_) (fun c19 => ?_)
              · refine lv_lload hx hb dX0_add_137 (lv_at hl 0 rfl) ?_
                refine lv_iload hx hb dX0_add_139 (lv_at hl 4 rfl) ?_
                refine r_callS0L (As := [.int j2]) (rest := [.long v17]) cx hw hA (f_wholeOf l G j2) ml_X0_67 st_X0_wholeOf in_X0 co_X0_wholeOf hd_X0_wholeOf rfl ⟨Nat.le_of_ble_eq_true rfl, Nat.le_of_ble_eq_true rfl⟩ hl.1 rfl (Nat.le_of_ble_eq_true rfl) dX0_add_141 ⟨Nat.le_of_ble_eq_true rfl, Nat.le_of_ble_eq_true rfl⟩ (fun r21 H locs hr21 hw => ?_)
                refine lv_ladd hx hb dX0_add_144 ?_
                refine lv_topl (fun v22 ev22 => ?_)
                refine lv_lstore (lv' := [(6, .long v22), (0, .int x), (1, .int y), (3, .int j1), (4, .int j2), (5, .int j3)]) hx hb dX0_add_145 hl (by decide) rfl (fun ls hl => ?_)
                refine lv_lload hx hb dX0_add_147 (lv_at hl 0 rfl) ?_
                refine lv_lconst (v := 0) hx hb dX0_add_149 (by decide) ?_
                refine W.lcmp hx hb dX0_add_150 ?_
                refine lv_topi (fun v23 ev23 => ?_)
                refine lv_if_ne (tgt := 161) hx hb dX0_add_151 (by decide) (fun c24 => ?_) (fun c24 => ?_)
                · refine lv_iload_n hx hb dX0_add_161 rfl (lv_at hl 3 rfl) ?_
                  refine lv_bipush (v := 31) hx hb dX0_add_162 (by decide) ?_
                  refine lv_iushr hx hb dX0_add_164 rfl ?_
                  refine lv_topi (fun v25 ev25 => ?_)
                  refine lv_lload hx hb dX0_add_165 (lv_at hl 0 rfl) ?_
                  refine lv_iload hx hb dX0_add_167 (lv_at hl 4 rfl) ?_
                  refine r_callS0I (As := [.int j2]) (rest := [.long v22, .int v25]) cx hw hA (f_lastBitOf l G j2) ml_X0_63 st_X0_lastBitOf in_X0 co_X0_lastBitOf hd_X0_lastBitOf rfl ⟨Nat.le_of_ble_eq_true rfl, Nat.le_of_ble_eq_true rfl⟩ hl.1 rfl (Nat.le_of_ble_eq_true rfl) dX0_add_169 ⟨Nat.le_of_ble_eq_true rfl, Nat.le_of_ble_eq_true rfl⟩ (fun r27 H locs hr27 hw => ?_)
                  refine r_callS0I (As := [.int v25, .long v22, .int r27]) (rest := []) cx hw hA (f_pack l G v25 v22 r27) ml_X0_59 st_X0_pack in_X0 co_X0_pack hd_X0_pack rfl ⟨Nat.le_of_ble_eq_true rfl, Nat.le_of_ble_eq_true rfl⟩ hl.1 rfl (Nat.le_of_ble_eq_true rfl) dX0_add_172 ⟨Nat.le_of_ble_eq_true rfl, Nat.le_of_ble_eq_true rfl⟩ (fun r29 H locs hr29 hw => ?_)
                  have hw : Wd G A [] s.heap _ _ := hw.sub [] rfl rfl
                  exact r_iret cx hr hlk () (by subst ev1 ev3 ej1 ej2 hr10 hr12 ej3 hr16 ev17 ev18 hr21 ev22 ev23 ev25 hr27 hr29; rw [x_add_eq, if_neg c2, if_neg c4, if_pos c14, if_pos c19, if_neg c24]) hw (Nat.le_of_ble_eq_true rfl) (Nat.le_of_ble_eq_true rfl) dX0_add_175
                · refine lv_iload_n hx hb dX0_add_154 rfl (lv_at hl 1 rfl) ?_
                  refine lv_iload_n hx hb dX0_add_155 rfl (lv_at hl 2 rfl) ?_
                  refine lv_iand hx hb dX0_add_156 ?_
                  refine lv_topi (fun v30 ev30 => ?_)
                  refine lv_ldc hx hb cx.2.2.2.1 (cx.2.2.2.2.1 _ cs_X0_51) dX0_add_157 ?_
                  refine lv_iand hx hb dX0_add_159 ?_
                  refine lv_topi (fun v31 ev31 => ?_)
                  have hw : Wd G A [] s.heap _ _ := hw.sub [] rfl rfl
                  exact r_iret cx hr hlk () (by subst ev1 ev3 ej1 ej2 hr10 hr12 ej3 hr16 ev17 ev18 hr21 ev22 ev23 ev30 ev31; rw [x_add_eq, if_neg c2, if_neg c4, if_pos c14, if_pos c19, if_pos c24]) hw (Nat.le_of_ble_eq_true rfl) (Nat.le_of_ble_eq_true rfl) dX0_add_160
              · refine lv_lload hx hb dX0_add_126 (lv_at hl 0 rfl) ?_
                refine lv_iload hx hb dX0_add_128 (lv_at hl 4 rfl) ?_
                refine r_callS0L (As := [.int j2]) (rest := [.long v17]) cx hw hA (f_wholeOf l G j2) ml_X0_67 st_X0_wholeOf in_X0 co_X0_wholeOf hd_X0_wholeOf rfl ⟨Nat.le_of_ble_eq_true rfl, Nat.le_of_ble_eq_true rfl⟩ hl.1 rfl (Nat.le_of_ble_eq_true rfl) dX0_add_130 ⟨Nat.le_of_ble_eq_true rfl, Nat.le_of_ble_eq_true rfl⟩ (fun r33 H locs hr33 hw => ?_)
                refine lv_lsub hx hb dX0_add_133 ?_
                refine lv_topl (fun v34 ev34 => ?_)
                refine lv_goto (tgt := 145) hx hb dX0_add_134 (by decide) ?_
                refine lv_lstore (lv' := [(6, .long v34), (0, .int x), (1, .int y), (3, .int j1), (4, .int j2), (5, .int j3)]) hx hb dX0_add_145 hl (by decide) rfl (fun ls hl => ?_)
                refine lv_lload hx hb dX0_add_147 (lv_at hl 0 rfl) ?_
                refine lv_lconst (v := 0) hx hb dX0_add_149 (by decide) ?_
                refine W.lcmp hx hb dX0_add_150 ?_
                refine lv_topi (fun v35 ev35 => ?_)
                refine lv_if_ne (tgt := 161) hx hb dX0_add_151 (by decide) (fun c36 => ?_) (fun c36 => ?_)
                · refine lv_iload_n hx hb dX0_add_161 rfl (lv_at hl 3 rfl) ?_
                  refine lv_bipush (v := 31) hx hb dX0_add_162 (by decide) ?_
                  refine lv_iushr hx hb dX0_add_164 rfl ?_
                  refine lv_topi (fun v37 ev37 => ?_)
                  refine lv_lload hx hb dX0_add_165 (lv_at hl 0 rfl) ?_
                  refine lv_iload hx hb dX0_add_167 (lv_at hl 4 rfl) ?_
                  refine r_callS0I (As := [.int j2]) (rest := [.long v34, .int v37]) cx hw hA (f_lastBitOf l G j2) ml_X0_63 st_X0_lastBitOf in_X0 co_X0_lastBitOf hd_X0_lastBitOf rfl ⟨Nat.le_of_ble_eq_true rfl, Nat.le_of_ble_eq_true rfl⟩ hl.1 rfl (Nat.le_of_ble_eq_true rfl) dX0_add_169 ⟨Nat.le_of_ble_eq_true rfl, Nat.le_of_ble_eq_true rfl⟩ (fun r39 H locs hr39 hw => ?_)
                  refine r_callS0I (As := [.int v37, .long v34, .int r39]) (rest := []) cx hw hA (f_pack l G v37 v34 r39) ml_X0_59 st_X0_pack in_X0 co_X0_pack hd_X0_pack rfl ⟨Nat.le_of_ble_eq_true rfl, Nat.le_of_ble_eq_true rfl⟩ hl.1 rfl (Nat.le_of_ble_eq_true rfl) dX0_add_172 ⟨Nat.le_of_ble_eq_true rfl, Nat.le_of_ble_eq_true rfl⟩ (fun r41 H locs hr41 hw => ?_)
                  have hw : Wd G A [] s.heap _ _ := hw.sub [] rfl rfl
                  exact r_iret cx hr hlk () (by subst ev1 ev3 ej1 ej2 hr10 hr12 ej3 hr16 ev17 ev18 hr33 ev34 ev35 ev37 hr39 hr41; rw [x_add_eq, if_neg c2, if_neg c4, if_pos c14, if_neg c19, if_neg c36]) hw (Nat.le_of_ble_eq_true rfl) (Nat.le_of_ble_eq_true rfl) dX0_add_175
                · refine lv_iload_n hx hb dX0_add_154 rfl (lv_at hl 1 rfl) ?_
                  refine lv_iload_n hx hb dX0_add_155 rfl (lv_at hl 2 rfl) ?_
                  refine lv_iand hx hb dX0_add_156 ?_
                  refine lv_topi (fun v42 ev42 => ?_)
                  refine lv_ldc hx hb cx.2.2.2.1 (cx.2.2.2.2.1 _ cs_X0_51) dX0_add_157 ?_
                  refine lv_iand hx hb dX0_add_159 ?_
                  refine lv_topi (fun v43 ev43 => ?_)
                  have hw : Wd G A [] s.heap _ _ := hw.sub [] rfl rfl
                  exact r_iret cx hr hlk () (by subst ev1 ev3 ej1 ej2 hr10 hr12 ej3 hr16 ev17 ev18 hr33 ev34 ev35 ev42 ev43; rw [x_add_eq, if_neg c2, if_neg c4, if_pos c14, if_neg c19, if_pos c36]) hw (Nat.le_of_ble_eq_true rfl) (Nat.le_of_ble_eq_true rfl) dX0_add_160
            · refine lv_iload_n hx hb dX0_add_109 rfl (lv_at hl 2 rfl) ?_
              have hw : Wd G A [] s.heap _ _ := hw.sub [] rfl rfl
              exact r_iret cx hr hlk () (by subst ev1 ev3 ej1 ej2 hr10 hr12 ej3; rw [x_add_eq, if_neg c2, if_neg c4, if_neg c14]) hw (Nat.le_of_ble_eq_true rfl) (Nat.le_of_ble_eq_true rfl) dX0_add_110
    · refine lv_iload_n hx hb dX0_add_28 rfl (lv_at hl 1 rfl) ?_
      refine lv_iload_n hx hb dX0_add_29 rfl (lv_at hl 2 rfl) ?_
      refine lv_ixor hx hb dX0_add_30 ?_
      refine lv_topi (fun v44 ev44 => ?_)
      refine lv_ldc hx hb cx.2.2.2.1 (cx.2.2.2.2.1 _ cs_X0_51) dX0_add_31 ?_
      refine lv_icmp_ne (tgt := 40) hx hb dX0_add_33 (by decide) (fun c45 => ?_) (fun c45 => ?_)
      · refine lv_iconst (v := 0) hx hb dX0_add_40 (by decide) ?_
        refine lv_istore_n (lv' := [(3, .int 0), (2, .int 0), (0, .int x), (1, .int y)]) hx hb dX0_add_41 rfl hl (by decide) rfl (fun ls hl => ?_)
        refine lv_iload_n hx hb dX0_add_42 rfl (lv_at hl 0 rfl) ?_
        refine lv_if_eq (tgt := 51) hx hb dX0_add_43 (by decide) (fun _ => ?_) (fun c9 => absurd (by decide) c9)
        refine lv_iload_n hx hb dX0_add_51 rfl (lv_at hl 1 rfl) ?_
        refine lv_if_eq (tgt := 59) hx hb dX0_add_52 (by decide) (fun _ => ?_) (fun c9 => absurd (by decide) c9)
        refine lv_iload_n hx hb dX0_add_59 rfl (lv_at hl 3 rfl) ?_
        have hw : Wd G A [] s.heap _ _ := hw.sub [] rfl rfl
        exact r_iret cx hr hlk () (by subst ev1 ev3 ev44; rw [x_add_eq, if_neg c2, if_pos c4, if_neg c45]) hw (Nat.le_of_ble_eq_true rfl) (Nat.le_of_ble_eq_true rfl) dX0_add_60
      · refine lv_iconst (v := 1) hx hb dX0_add_36 (by decide) ?_
        refine lv_goto (tgt := 41) hx hb dX0_add_37 (by decide) ?_
        refine lv_istore_n (lv' := [(3, .int 1), (2, .int 0), (0, .int x), (1, .int y)]) hx hb dX0_add_41 rfl hl (by decide) rfl (fun ls hl => ?_)
        refine lv_iload_n hx hb dX0_add_42 rfl (lv_at hl 0 rfl) ?_
        refine lv_if_eq (tgt := 51) hx hb dX0_add_43 (by decide) (fun c9 => absurd c9 (by decide)) (fun _ => ?_)
        refine lv_ldc hx hb cx.2.2.2.1 (cx.2.2.2.2.1 _ cs_X0_47) dX0_add_46 ?_
        refine lv_goto (tgt := 60) hx hb dX0_add_48 (by decide) ?_
        have hw : Wd G A [] s.heap _ _ := hw.sub [] rfl rfl
        exact r_iret cx hr hlk () (by subst ev1 ev3 ev44; rw [x_add_eq, if_neg c2, if_pos c4, if_pos c45]) hw (Nat.le_of_ble_eq_true rfl) (Nat.le_of_ble_eq_true rfl) dX0_add_60
  · refine lv_iconst (v := 1) hx hb dX0_add_9 (by decide) ?_
    refine lv_goto (tgt := 14) hx hb dX0_add_10 (by decide) ?_
    refine lv_istore_n (lv' := [(2, .int 1), (0, .int x), (1, .int y)]) hx hb dX0_add_14 rfl hl (by decide) rfl (fun ls hl => ?_)
    refine lv_iload_n hx hb dX0_add_15 rfl (lv_at hl 0 rfl) ?_
    refine lv_if_ne (tgt := 28) hx hb dX0_add_16 (by decide) (fun _ => ?_) (fun c9 => absurd c9 (by decide))
    refine lv_iload_n hx hb dX0_add_28 rfl (lv_at hl 1 rfl) ?_
    refine lv_iload_n hx hb dX0_add_29 rfl (lv_at hl 2 rfl) ?_
    refine lv_ixor hx hb dX0_add_30 ?_
    refine lv_topi (fun v46 ev46 => ?_)
    refine lv_ldc hx hb cx.2.2.2.1 (cx.2.2.2.2.1 _ cs_X0_51) dX0_add_31 ?_
    refine lv_icmp_ne (tgt := 40) hx hb dX0_add_33 (by decide) (fun c47 => ?_) (fun c47 => ?_)
    · refine lv_iconst (v := 0) hx hb dX0_add_40 (by decide) ?_
      refine lv_istore_n (lv' := [(3, .int 0), (2, .int 1), (0, .int x), (1, .int y)]) hx hb dX0_add_41 rfl hl (by decide) rfl (fun ls hl => ?_)
      refine lv_iload_n hx hb dX0_add_42 rfl (lv_at hl 0 rfl) ?_
      refine lv_if_eq (tgt := 51) hx hb dX0_add_43 (by decide) (fun _ => ?_) (fun c9 => absurd (by decide) c9)
      refine lv_iload_n hx hb dX0_add_51 rfl (lv_at hl 1 rfl) ?_
      refine lv_if_eq (tgt := 59) hx hb dX0_add_52 (by decide) (fun c9 => absurd c9 (by decide)) (fun _ => ?_)
      refine lv_iload_n hx hb dX0_add_55 rfl (lv_at hl 2 rfl) ?_
      refine lv_goto (tgt := 60) hx hb dX0_add_56 (by decide) ?_
      have hw : Wd G A [] s.heap _ _ := hw.sub [] rfl rfl
      exact r_iret cx hr hlk () (by subst ev1 ev46; rw [x_add_eq, if_pos c2, if_neg c47]) hw (Nat.le_of_ble_eq_true rfl) (Nat.le_of_ble_eq_true rfl) dX0_add_60
    · refine lv_iconst (v := 1) hx hb dX0_add_36 (by decide) ?_
      refine lv_goto (tgt := 41) hx hb dX0_add_37 (by decide) ?_
      refine lv_istore_n (lv' := [(3, .int 1), (2, .int 1), (0, .int x), (1, .int y)]) hx hb dX0_add_41 rfl hl (by decide) rfl (fun ls hl => ?_)
      refine lv_iload_n hx hb dX0_add_42 rfl (lv_at hl 0 rfl) ?_
      refine lv_if_eq (tgt := 51) hx hb dX0_add_43 (by decide) (fun c9 => absurd c9 (by decide)) (fun _ => ?_)
      refine lv_ldc hx hb cx.2.2.2.1 (cx.2.2.2.2.1 _ cs_X0_47) dX0_add_46 ?_
      refine lv_goto (tgt := 60) hx hb dX0_add_48 (by decide) ?_
      have hw : Wd G A [] s.heap _ _ := hw.sub [] rfl rfl
      exact r_iret cx hr hlk () (by subst ev1 ev46; rw [x_add_eq, if_pos c2, if_pos c47]) hw (Nat.le_of_ble_eq_true rfl) (Nat.le_of_ble_eq_true rfl) dX0_add_60

theorem x_mul_ex : ∃ f : Int32 → Int32 → Int32, ∀ (x : Int32) (y : Int32), f x y = (if (x &&& (2147483647 : Int32)) = (2139095040 : Int32) then (if (x &&& (2147483647 : Int32)) = (0 : Int32) then (2143289344) else (if (y &&& (2147483647 : Int32)) = (0 : Int32) then (2143289344) else (((((x ^^^ y).toUInt32 >>> ((31 : Int32).toUInt32 &&& Int32.toUInt32 31)).toInt32 <<< ((31 : Int32) &&& 31)) ||| (2139095040 : Int32))))) else (if (y &&& (2147483647 : Int32)) = (2139095040 : Int32) then (if (x &&& (2147483647 : Int32)) = (0 : Int32) then (2143289344) else (if (y &&& (2147483647 : Int32)) = (0 : Int32) then (2143289344) else (((((x ^^^ y).toUInt32 >>> ((31 : Int32).toUInt32 &&& Int32.toUInt32 31)).toInt32 <<< ((31 : Int32) &&& 31)) ||| (2139095040 : Int32))))) else (if (x &&& (2147483647 : Int32)) = (0 : Int32) then ((x_pack ((x ^^^ y).toUInt32 >>> ((31 : Int32).toUInt32 &&& Int32.toUInt32 31)).toInt32 ((x_wholeOf x) * (x_wholeOf y)) ((x_lastBitOf x) + (x_lastBitOf y)))) else (if (y &&& (2147483647 : Int32)) = (0 : Int32) then ((x_pack ((x ^^^ y).toUInt32 >>> ((31 : Int32).toUInt32 &&& Int32.toUInt32 31)).toInt32 ((x_wholeOf x) * (x_wholeOf y)) ((x_lastBitOf x) + (x_lastBitOf y)))) else ((x_pack ((x ^^^ y).toUInt32 >>> ((31 : Int32).toUInt32 &&& Int32.toUInt32 31)).toInt32 ((x_wholeOf x) * (x_wholeOf y)) ((x_lastBitOf x) + (x_lastBitOf y)))))))) := ⟨fun (x : Int32) (y : Int32) => (if (x &&& (2147483647 : Int32)) = (2139095040 : Int32) then (if (x &&& (2147483647 : Int32)) = (0 : Int32) then (2143289344) else (if (y &&& (2147483647 : Int32)) = (0 : Int32) then (2143289344) else (((((x ^^^ y).toUInt32 >>> ((31 : Int32).toUInt32 &&& Int32.toUInt32 31)).toInt32 <<< ((31 : Int32) &&& 31)) ||| (2139095040 : Int32))))) else (if (y &&& (2147483647 : Int32)) = (2139095040 : Int32) then (if (x &&& (2147483647 : Int32)) = (0 : Int32) then (2143289344) else (if (y &&& (2147483647 : Int32)) = (0 : Int32) then (2143289344) else (((((x ^^^ y).toUInt32 >>> ((31 : Int32).toUInt32 &&& Int32.toUInt32 31)).toInt32 <<< ((31 : Int32) &&& 31)) ||| (2139095040 : Int32))))) else (if (x &&& (2147483647 : Int32)) = (0 : Int32) then ((x_pack ((x ^^^ y).toUInt32 >>> ((31 : Int32).toUInt32 &&& Int32.toUInt32 31)).toInt32 ((x_wholeOf x) * (x_wholeOf y)) ((x_lastBitOf x) + (x_lastBitOf y)))) else (if (y &&& (2147483647 : Int32)) = (0 : Int32) then ((x_pack ((x ^^^ y).toUInt32 >>> ((31 : Int32).toUInt32 &&& Int32.toUInt32 31)).toInt32 ((x_wholeOf x) * (x_wholeOf y)) ((x_lastBitOf x) + (x_lastBitOf y)))) else ((x_pack ((x ^^^ y).toUInt32 >>> ((31 : Int32).toUInt32 &&& Int32.toUInt32 31)).toInt32 ((x_wholeOf x) * (x_wholeOf y)) ((x_lastBitOf x) + (x_lastBitOf y)))))))), fun _ _ => rfl⟩
noncomputable def x_mul : Int32 → Int32 → Int32 := Classical.choose x_mul_ex
theorem x_mul_eq (x : Int32) (y : Int32) : x_mul x y = (if (x &&& (2147483647 : Int32)) = (2139095040 : Int32) then (if (x &&& (2147483647 : Int32)) = (0 : Int32) then (2143289344) else (if (y &&& (2147483647 : Int32)) = (0 : Int32) then (2143289344) else (((((x ^^^ y).toUInt32 >>> ((31 : Int32).toUInt32 &&& Int32.toUInt32 31)).toInt32 <<< ((31 : Int32) &&& 31)) ||| (2139095040 : Int32))))) else (if (y &&& (2147483647 : Int32)) = (2139095040 : Int32) then (if (x &&& (2147483647 : Int32)) = (0 : Int32) then (2143289344) else (if (y &&& (2147483647 : Int32)) = (0 : Int32) then (2143289344) else (((((x ^^^ y).toUInt32 >>> ((31 : Int32).toUInt32 &&& Int32.toUInt32 31)).toInt32 <<< ((31 : Int32) &&& 31)) ||| (2139095040 : Int32))))) else (if (x &&& (2147483647 : Int32)) = (0 : Int32) then ((x_pack ((x ^^^ y).toUInt32 >>> ((31 : Int32).toUInt32 &&& Int32.toUInt32 31)).toInt32 ((x_wholeOf x) * (x_wholeOf y)) ((x_lastBitOf x) + (x_lastBitOf y)))) else (if (y &&& (2147483647 : Int32)) = (0 : Int32) then ((x_pack ((x ^^^ y).toUInt32 >>> ((31 : Int32).toUInt32 &&& Int32.toUInt32 31)).toInt32 ((x_wholeOf x) * (x_wholeOf y)) ((x_lastBitOf x) + (x_lastBitOf y)))) else ((x_pack ((x ^^^ y).toUInt32 >>> ((31 : Int32).toUInt32 &&& Int32.toUInt32 31)).toInt32 ((x_wholeOf x) * (x_wholeOf y)) ((x_lastBitOf x) + (x_lastBitOf y)))))))) := Classical.choose_spec x_mul_ex x y
set_option maxHeartbeats 4000000 in
set_option maxRecDepth 100000 in
theorem f_mul (l : Launch) (G : Gt) (x : Int32) (y : Int32) : Mt l yX0_multiply cX0_multiply 5 (some .int) ({ frames := 3, cells := 0, slots := 0, locals := 75 } : Room) G [.int x, .int y] [] (qI G (fun (r : Int32) (w : Unit) => r = x_mul x y) (fun w => [])) := by
  refine Mt.of (own := RX0) (cc := cX0_multiply) (by decide) rfl (Nat.le_of_ble_eq_true rfl) ?_
  intro p e s m below meth c A ls cx hr hlk hmn hA hl hw
  have hx := cx.1
  have hb := cx.2.1
  have hl : lv_has ls 5 [(0, .int x), (1, .int y)] := hl
  refine lv_iload_n hx hb dX0_multiply_0 rfl (lv_at hl 0 rfl) ?_
  refine lv_iload_n hx hb dX0_multiply_1 rfl (lv_at hl 1 rfl) ?_
  refine lv_ixor hx hb dX0_multiply_2 ?_
  refine lv_topi (fun v1 ev1 => ?_)
  refine lv_bipush (v := 31) hx hb dX0_multiply_3 (by decide) ?_
  refine lv_iushr hx hb dX0_multiply_5 rfl ?_
  refine lv_topi (fun v2 ev2 => ?_)
  refine lv_istore_n (lv' := [(2, .int v2), (0, .int x), (1, .int y)]) hx hb dX0_multiply_6 rfl hl (by decide) rfl (fun ls hl => ?_)
  refine lv_iload_n hx hb dX0_multiply_7 rfl (lv_at hl 1 rfl) ?_
  refine lv_ldc hx hb cx.2.2.2.1 (cx.2.2.2.2.1 _ cs_X0_58) dX0_multiply_8 ?_
  refine lv_iand hx hb dX0_multiply_10 ?_
  refine lv_topi (fun v3 ev3 => ?_)
  refine lv_ldc hx hb cx.2.2.2.1 (cx.2.2.2.2.1 _ cs_X0_71) dX0_multiply_11 ?_
  refine lv_icmp_eq (tgt := 25) hx hb dX0_multiply_13 (by decide) (fun c4 => ?_) (fun c4 => ?_)
  · refine lv_iconst (v := 1) hx hb dX0_multiply_25 (by decide) ?_
    refine lv_goto (tgt := 30) hx hb dX0_multiply_26 (by decide) ?_
    refine lv_istore_n (lv' := [(3, .int 1), (2, .int v2), (0, .int x), (1, .int y)]) hx hb dX0_multiply_30 rfl hl (by decide) rfl (fun ls hl => ?_)
    refine lv_iload_n hx hb dX0_multiply_31 rfl (lv_at hl 2 rfl) ?_
    refine lv_ldc hx hb cx.2.2.2.1 (cx.2.2.2.2.1 _ cs_X0_58) dX0_multiply_32 ?_
    refine lv_iand hx hb dX0_multiply_34 ?_
    refine lv_topi (fun v5 ev5 => ?_)
    refine lv_if_eq (tgt := 45) hx hb dX0_multiply_35 (by decide) (fun c6 => ?_) (fun c6 => ?_)
    · refine lv_iconst (v := 1) hx hb dX0_multiply_45 (by decide) ?_
      refine lv_goto (tgt := 50) hx hb dX0_multiply_46 (by decide) ?_
      refine lv_istore (lv' := [(4, .int 1), (3, .int 1), (2, .int v2), (0, .int x), (1, .int y)]) hx hb dX0_multiply_50 hl (by decide) rfl (fun ls hl => ?_)
      refine lv_iload_n hx hb dX0_multiply_52 rfl (lv_at hl 1 rfl) ?_
      refine lv_if_eq (tgt := 74) hx hb dX0_multiply_53 (by decide) (fun c9 => absurd c9 (by decide)) (fun _ => ?_)
      refine lv_iload hx hb dX0_multiply_56 (lv_at hl 0 rfl) ?_
      refine lv_if_eq (tgt := 66) hx hb dX0_multiply_58 (by decide) (fun c9 => absurd c9 (by decide)) (fun _ => ?_)
      refine lv_ldc hx hb cx.2.2.2.1 (cx.2.2.2.2.1 _ cs_X0_47) dX0_multiply_61 ?_
      refine lv_goto (tgt := 73) hx hb dX0_multiply_63 (by decide) ?_
      have hw : Wd G A [] s.heap _ _ := hw.sub [] rfl rfl
      exact r_iret cx hr hlk () (by subst ev1 ev2 ev3 ev5; rw [x_mul_eq, if_pos c4, if_pos c6]) hw (Nat.le_of_ble_eq_true rfl) (Nat.le_of_ble_eq_true rfl) dX0_multiply_73
    · refine lv_iload_n hx hb dX0_multiply_38 rfl (lv_at hl 3 rfl) ?_
      refine lv_ldc hx hb cx.2.2.2.1 (cx.2.2.2.2.1 _ cs_X0_58) dX0_multiply_39 ?_
      refine lv_iand hx hb dX0_multiply_41 ?_
      refine lv_topi (fun v7 ev7 => ?_)
      refine lv_if_ne (tgt := 49) hx hb dX0_multiply_42 (by decide) (fun c8 => ?_) (fun c8 => ?_)
      · refine lv_iconst (v := 0) hx hb dX0_multiply_49 (by decide) ?_
        refine lv_istore (lv' := [(4, .int 0), (3, .int 1), (2, .int v2), (0, .int x), (1, .int y)]) hx hb dX0_multiply_50 hl (by decide) rfl (fun ls hl => ?_)
        refine lv_iload_n hx hb dX0_multiply_52 rfl (lv_at hl 1 rfl) ?_
        refine lv_if_eq (tgt := 74) hx hb dX0_multiply_53 (by decide) (fun c9 => absurd c9 (by decide)) (fun _ => ?_)
        refine lv_iload hx hb dX0_multiply_56 (lv_at hl 0 rfl) ?_
        refine lv_if_eq (tgt := 66) hx hb dX0_multiply_58 (by decide) (fun _ => ?_) (fun c9 => absurd (by decide) c9)
        refine lv_iload_n hx hb dX0_multiply_66 rfl (lv_at hl 2 rfl) ?_
        refine lv_bipush (v := 31) hx hb dX0_multiply_67 (by decide) ?_
        refine lv_ishl hx hb dX0_multiply_69 ?_
        refine lv_topi (fun v9 ev9 => ?_)
        refine lv_ldc hx hb cx.2.2.2.1 (cx.2.2.2.2.1 _ cs_X0_71) dX0_multiply_70 ?_
        refine lv_ior hx hb dX0_multiply_72 ?_
        refine lv_topi (fun v10 ev10 => ?_)
        have hw : Wd G A [] s.heap _ _ := hw.sub [] rfl rfl
        exact r_iret cx hr hlk () (by subst ev1 ev2 ev3 ev5 ev7 ev9 ev10; rw [x_mul_eq, if_pos c4, if_neg c6, if_neg c8]) hw (Nat.le_of_ble_eq_true rfl) (Nat.le_of_ble_eq_true rfl) dX0_multiply_73
      · refine lv_iconst (v := 1) hx hb dX0_multiply_45 (by decide) ?_
        refine lv_goto (tgt := 50) hx hb dX0_multiply_46 (by decide) ?_
        refine lv_istore (lv' := [(4, .int 1), (3, .int 1), (2, .int v2), (0, .int x), (1, .int y)]) hx hb dX0_multiply_50 hl (by decide) rfl (fun ls hl => ?_)
        refine lv_iload_n hx hb dX0_multiply_52 rfl (lv_at hl 1 rfl) ?_
        refine lv_if_eq (tgt := 74) hx hb dX0_multiply_53 (by decide) (fun c9 => absurd c9 (by decide)) (fun _ => ?_)
        refine lv_iload hx hb dX0_multiply_56 (lv_at hl 0 rfl) ?_
        refine lv_if_eq (tgt := 66) hx hb dX0_multiply_58 (by decide) (fun c9 => absurd c9 (by decide)) (fun _ => ?_)
        refine lv_ldc hx hb cx.2.2.2.1 (cx.2.2.2.2.1 _ cs_X0_47) dX0_multiply_61 ?_
        refine lv_goto (tgt := 73) hx hb dX0_multiply_63 (by decide) ?_
        have hw : Wd G A [] s.heap _ _ := hw.sub [] rfl rfl
        exact r_iret cx hr hlk () (by subst ev1 ev2 ev3 ev5 ev7; rw [x_mul_eq, if_pos c4, if_neg c6, if_pos c8]) hw (Nat.le_of_ble_eq_true rfl) (Nat.le_of_ble_eq_true rfl) dX0_multiply_73
  · refine lv_iload_n hx hb dX0_multiply_16 rfl (lv_at hl 2 rfl) ?_
    refine lv_ldc hx hb cx.2.2.2.1 (cx.2.2.2.2.1 _ cs_X0_58) dX0_multiply_17 ?_
    refine lv_iand hx hb dX0_multiply_19 ?_
    refine lv_topi (fun v11 ev11 => ?_)
    refine lv_ldc hx hb cx.2.2.2.1 (cx.2.2.2.2.1 _ cs_X0_71) dX0_multiply_20 ?_
    refine lv_icmp_ne (tgt := 29) hx hb dX0_multiply_22 (by decide) (fun c12 => ?_) (fun c12 => ?_)
    · refine lv_iconst (v := 0) hx hb dX0_multiply_29 (by decide) ?_
      refine lv_istore_n (lv' := [(3, .int 0), (2, .int v2), (0, .int x), (1, .int y)]) hx hb dX0_multiply_30 rfl hl (by decide) rfl (fun ls hl => ?_)
      refine lv_iload_n hx hb dX0_multiply_31 rfl (lv_at hl 2 rfl) ?_
      refine lv_ldc hx hb cx.2.2.2.1 (cx.2.2.2.2.1 _ cs_X0_58) dX0_multiply_32 ?_
      refine lv_iand hx hb dX0_multiply_34 ?_
      refine lv_topi (fun v13 ev13 => ?_)
      refine lv_if_eq (tgt := 45) hx hb dX0_multiply_35 (by decide) (fun c14 => ?_) (fun c14 => ?_)
      · refine lv_iconst (v := 1) hx hb dX0_multiply_45 (by decide) ?_
        refine lv_goto (tgt := 50) hx hb dX0_multiply_46 (by decide) ?_
        refine lv_istore (lv' := [(4, .int 1), (3, .int 0), (2, .int v2), (0, .int x), (1, .int y)]) hx hb dX0_multiply_50 hl (by decide) rfl (fun ls hl => ?_)
        refine lv_iload_n hx hb dX0_multiply_52 rfl (lv_at hl 1 rfl) ?_
        refine lv_if_eq (tgt := 74) hx hb dX0_multiply_53 (by decide) (fun _ => ?_) (fun c9 => absurd (by decide) c9)
        refine lv_iload_n hx hb dX0_multiply_74 rfl (lv_at hl 2 rfl) ?_
        refine lv_iload_n hx hb dX0_multiply_75 rfl (lv_at hl 3 rfl) ?_
        refine r_callS0L (As := [.int x]) (rest := [.int v2]) cx hw hA (f_wholeOf l G x) ml_X0_67 st_X0_wholeOf in_X0 co_X0_wholeOf hd_X0_wholeOf rfl ⟨Nat.le_of_ble_eq_true rfl, Nat.le_of_ble_eq_true rfl⟩ hl.1 rfl (Nat.le_of_ble_eq_true rfl) dX0_multiply_76 ⟨Nat.le_of_ble_eq_true rfl, Nat.le_of_ble_eq_true rfl⟩ (fun r16 H locs hr16 hw => ?_)
        refine lv_iload_n hx hb dX0_multiply_79 rfl (lv_at hl 4 rfl) ?_
        refine r_callS0L (As := [.int y]) (rest := [.long r16, .int v2]) cx hw hA (f_wholeOf l G y) ml_X0_67 st_X0_wholeOf in_X0 co_X0_wholeOf hd_X0_wholeOf rfl ⟨Nat.le_of_ble_eq_true rfl, Nat.le_of_ble_eq_true rfl⟩ hl.1 rfl (Nat.le_of_ble_eq_true rfl) dX0_multiply_80 ⟨Nat.le_of_ble_eq_true rfl, Nat.le_of_ble_eq_true rfl⟩ (fun r18 H locs hr18 hw => ?_)
        refine lv_lmul hx hb dX0_multiply_83 ?_
        refine lv_topl (fun v19 ev19 => ?_)
        refine lv_iload_n hx hb dX0_multiply_84 rfl (lv_at hl 3 rfl) ?_
        refine r_callS0I (As := [.int x]) (rest := [.long v19, .int v2]) cx hw hA (f_lastBitOf l G x) ml_X0_63 st_X0_lastBitOf in_X0 co_X0_lastBitOf hd_X0_lastBitOf rfl ⟨Nat.le_of_ble_eq_true rfl, Nat.le_of_ble_eq_true rfl⟩ hl.1 rfl (Nat.le_of_ble_eq_true rfl) dX0_multiply_85 ⟨Nat.le_of_ble_eq_true rfl, Nat.le_of_ble_eq_true rfl⟩ (fun r21 H locs hr21 hw => ?_)
        refine lv_iload_n hx hb dX0_multiply_88 rfl (lv_at hl 4 rfl) ?_
        refine r_callS0I (As := [.int y]) (rest := [.int r21, .long v19, .int v2]) cx hw hA (f_lastBitOf l G y) ml_X0_63 st_X0_lastBitOf in_X0 co_X0_lastBitOf hd_X0_lastBitOf rfl ⟨Nat.le_of_ble_eq_true rfl, Nat.le_of_ble_eq_true rfl⟩ hl.1 rfl (Nat.le_of_ble_eq_true rfl) dX0_multiply_89 ⟨Nat.le_of_ble_eq_true rfl, Nat.le_of_ble_eq_true rfl⟩ (fun r23 H locs hr23 hw => ?_)
        refine lv_iadd hx hb dX0_multiply_92 ?_
        refine lv_topi (fun v24 ev24 => ?_)
        refine r_callS0I (As := [.int v2, .long v19, .int v24]) (rest := []) cx hw hA (f_pack l G v2 v19 v24) ml_X0_59 st_X0_pack in_X0 co_X0_pack hd_X0_pack rfl ⟨Nat.le_of_ble_eq_true rfl, Nat.le_of_ble_eq_true rfl⟩ hl.1 rfl (Nat.le_of_ble_eq_true rfl) dX0_multiply_93 ⟨Nat.le_of_ble_eq_true rfl, Nat.le_of_ble_eq_true rfl⟩ (fun r26 H locs hr26 hw => ?_)
        have hw : Wd G A [] s.heap _ _ := hw.sub [] rfl rfl
        exact r_iret cx hr hlk () (by subst ev1 ev2 ev3 ev11 ev13 hr16 hr18 ev19 hr21 hr23 ev24 hr26; rw [x_mul_eq, if_neg c4, if_neg c12, if_pos c14]) hw (Nat.le_of_ble_eq_true rfl) (Nat.le_of_ble_eq_true rfl) dX0_multiply_96
      · refine lv_iload_n hx hb dX0_multiply_38 rfl (lv_at hl 3 rfl) ?_
        refine lv_ldc hx hb cx.2.2.2.1 (cx.2.2.2.2.1 _ cs_X0_58) dX0_multiply_39 ?_
        refine lv_iand hx hb dX0_multiply_41 ?_
        refine lv_topi (fun v27 ev27 => ?_)
        refine lv_if_ne (tgt := 49) hx hb dX0_multiply_42 (by decide) (fun c28 => ?_) (fun c28 => ?_)
        · refine lv_iconst (v := 0) hx hb dX0_multiply_49 (by decide) ?_
          refine lv_istore (lv' := [(4, .int 0), (3, .int 0), (2, .int v2), (0, .int x), (1, .int y)]) hx hb dX0_multiply_50 hl (by decide) rfl (fun ls hl => ?_)
          refine lv_iload_n hx hb dX0_multiply_52 rfl (lv_at hl 1 rfl) ?_
          refine lv_if_eq (tgt := 74) hx hb dX0_multiply_53 (by decide) (fun _ => ?_) (fun c9 => absurd (by decide) c9)
          refine lv_iload_n hx hb dX0_multiply_74 rfl (lv_at hl 2 rfl) ?_
          refine lv_iload_n hx hb dX0_multiply_75 rfl (lv_at hl 3 rfl) ?_
          refine r_callS0L (As := [.int x]) (rest := [.int v2]) cx hw hA (f_wholeOf l G x) ml_X0_67 st_X0_wholeOf in_X0 co_X0_wholeOf hd_X0_wholeOf rfl ⟨Nat.le_of_ble_eq_true rfl, Nat.le_of_ble_eq_true rfl⟩ hl.1 rfl (Nat.le_of_ble_eq_true rfl) dX0_multiply_76 ⟨Nat.le_of_ble_eq_true rfl, Nat.le_of_ble_eq_true rfl⟩ (fun r30 H locs hr30 hw => ?_)
          refine lv_iload_n hx hb dX0_multiply_79 rfl (lv_at hl 4 rfl) ?_
          refine r_callS0L (As := [.int y]) (rest := [.long r30, .int v2]) cx hw hA (f_wholeOf l G y) ml_X0_67 st_X0_wholeOf in_X0 co_X0_wholeOf hd_X0_wholeOf rfl ⟨Nat.le_of_ble_eq_true rfl, Nat.le_of_ble_eq_true rfl⟩ hl.1 rfl (Nat.le_of_ble_eq_true rfl) dX0_multiply_80 ⟨Nat.le_of_ble_eq_true rfl, Nat.le_of_ble_eq_true rfl⟩ (fun r32 H locs hr32 hw => ?_)
          refine lv_lmul hx hb dX0_multiply_83 ?_
          refine lv_topl (fun v33 ev33 => ?_)
          refine lv_iload_n hx hb dX0_multiply_84 rfl (lv_at hl 3 rfl) ?_
          refine r_callS0I (As := [.int x]) (rest := [.long v33, .int v2]) cx hw hA (f_lastBitOf l G x) ml_X0_63 st_X0_lastBitOf in_X0 co_X0_lastBitOf hd_X0_lastBitOf rfl ⟨Nat.le_of_ble_eq_true rfl, Nat.le_of_ble_eq_true rfl⟩ hl.1 rfl (Nat.le_of_ble_eq_true rfl) dX0_multiply_85 ⟨Nat.le_of_ble_eq_true rfl, Nat.le_of_ble_eq_true rfl⟩ (fun r35 H locs hr35 hw => ?_)
          refine lv_iload_n hx hb dX0_multiply_88 rfl (lv_at hl 4 rfl) ?_
          refine r_callS0I (As := [.int y]) (rest := [.int r35, .long v33, .int v2]) cx hw hA (f_lastBitOf l G y) ml_X0_63 st_X0_lastBitOf in_X0 co_X0_lastBitOf hd_X0_lastBitOf rfl ⟨Nat.le_of_ble_eq_true rfl, Nat.le_of_ble_eq_true rfl⟩ hl.1 rfl (Nat.le_of_ble_eq_true rfl) dX0_multiply_89 ⟨Nat.le_of_ble_eq_true rfl, Nat.le_of_ble_eq_true rfl⟩ (fun r37 H locs hr37 hw => ?_)
          refine lv_iadd hx hb dX0_multiply_92 ?_
          refine lv_topi (fun v38 ev38 => ?_)
          refine r_callS0I (As := [.int v2, .long v33, .int v38]) (rest := []) cx hw hA (f_pack l G v2 v33 v38) ml_X0_59 st_X0_pack in_X0 co_X0_pack hd_X0_pack rfl ⟨Nat.le_of_ble_eq_true rfl, Nat.le_of_ble_eq_true rfl⟩ hl.1 rfl (Nat.le_of_ble_eq_true rfl) dX0_multiply_93 ⟨Nat.le_of_ble_eq_true rfl, Nat.le_of_ble_eq_true rfl⟩ (fun r40 H locs hr40 hw => ?_)
          have hw : Wd G A [] s.heap _ _ := hw.sub [] rfl rfl
          exact r_iret cx hr hlk () (by subst ev1 ev2 ev3 ev11 ev13 ev27 hr30 hr32 ev33 hr35 hr37 ev38 hr40; rw [x_mul_eq, if_neg c4, if_neg c12, if_neg c14, if_neg c28]) hw (Nat.le_of_ble_eq_true rfl) (Nat.le_of_ble_eq_true rfl) dX0_multiply_96
        · refine lv_iconst (v := 1) hx hb dX0_multiply_45 (by decide) ?_
          refine lv_goto (tgt := 50) hx hb dX0_multiply_46 (by decide) ?_
          refine lv_istore (lv' := [(4, .int 1), (3, .int 0), (2, .int v2), (0, .int x), (1, .int y)]) hx hb dX0_multiply_50 hl (by decide) rfl (fun ls hl => ?_)
          refine lv_iload_n hx hb dX0_multiply_52 rfl (lv_at hl 1 rfl) ?_
          refine lv_if_eq (tgt := 74) hx hb dX0_multiply_53 (by decide) (fun _ => ?_) (fun c9 => absurd (by decide) c9)
          refine lv_iload_n hx hb dX0_multiply_74 rfl (lv_at hl 2 rfl) ?_
          refine lv_iload_n hx hb dX0_multiply_75 rfl (lv_at hl 3 rfl) ?_
          refine r_callS0L (As := [.int x]) (rest := [.int v2]) cx hw hA (f_wholeOf l G x) ml_X0_67 st_X0_wholeOf in_X0 co_X0_wholeOf hd_X0_wholeOf rfl ⟨Nat.le_of_ble_eq_true rfl, Nat.le_of_ble_eq_true rfl⟩ hl.1 rfl (Nat.le_of_ble_eq_true rfl) dX0_multiply_76 ⟨Nat.le_of_ble_eq_true rfl, Nat.le_of_ble_eq_true rfl⟩ (fun r42 H locs hr42 hw => ?_)
          refine lv_iload_n hx hb dX0_multiply_79 rfl (lv_at hl 4 rfl) ?_
          refine r_callS0L (As := [.int y]) (rest := [.long r42, .int v2]) cx hw hA (f_wholeOf l G y) ml_X0_67 st_X0_wholeOf in_X0 co_X0_wholeOf hd_X0_wholeOf rfl ⟨Nat.le_of_ble_eq_true rfl, Nat.le_of_ble_eq_true rfl⟩ hl.1 rfl (Nat.le_of_ble_eq_true rfl) dX0_multiply_80 ⟨Nat.le_of_ble_eq_true rfl, Nat.le_of_ble_eq_true rfl⟩ (fun r44 H locs hr44 hw => ?_)
          refine lv_lmul hx hb dX0_multiply_83 ?_
          refine lv_topl (fun v45 ev45 => ?_)
          refine lv_iload_n hx hb dX0_multiply_84 rfl (lv_at hl 3 rfl) ?_
          refine r_callS0I (As := [.int x]) (rest := [.long v45, .int v2]) cx hw hA (f_lastBitOf l G x) ml_X0_63 st_X0_lastBitOf in_X0 co_X0_lastBitOf hd_X0_lastBitOf rfl ⟨Nat.le_of_ble_eq_true rfl, Nat.le_of_ble_eq_true rfl⟩ hl.1 rfl (Nat.le_of_ble_eq_true rfl) dX0_multiply_85 ⟨Nat.le_of_ble_eq_true rfl, Nat.le_of_ble_eq_true rfl⟩ (fun r47 H locs hr47 hw => ?_)
          refine lv_iload_n hx hb dX0_multiply_88 rfl (lv_at hl 4 rfl) ?_
          refine r_callS0I (As := [.int y]) (rest := [.int r47, .long v45, .int v2]) cx hw hA (f_lastBitOf l G y) ml_X0_63 st_X0_lastBitOf in_X0 co_X0_lastBitOf hd_X0_lastBitOf rfl ⟨Nat.le_of_ble_eq_true rfl, Nat.le_of_ble_eq_true rfl⟩ hl.1 rfl (Nat.le_of_ble_eq_true rfl) dX0_multiply_89 ⟨Nat.le_of_ble_eq_true rfl, Nat.le_of_ble_eq_true rfl⟩ (fun r49 H locs hr49 hw => ?_)
          refine lv_iadd hx hb dX0_multiply_92 ?_
          refine lv_topi (fun v50 ev50 => ?_)
          refine r_callS0I (As := [.int v2, .long v45, .int v50]) (rest := []) cx hw hA (f_pack l G v2 v45 v50) ml_X0_59 st_X0_pack in_X0 co_X0_pack hd_X0_pack rfl ⟨Nat.le_of_ble_eq_true rfl, Nat.le_of_ble_eq_true rfl⟩ hl.1 rfl (Nat.le_of_ble_eq_true rfl) dX0_multiply_93 ⟨Nat.le_of_ble_eq_true rfl, Nat.le_of_ble_eq_true rfl⟩ (fun r52 H locs hr52 hw => ?_)
          have hw : Wd G A [] s.heap _ _ := hw.sub [] rfl rfl
          exact r_iret cx hr hlk () (by subst ev1 ev2 ev3 ev11 ev13 ev27 hr42 hr44 ev45 hr47 hr49 ev50 hr52; rw [x_mul_eq, if_neg c4, if_neg c12, if_neg c14, if_pos c28]) hw (Nat.le_of_ble_eq_true rfl) (Nat.le_of_ble_eq_true rfl) dX0_multiply_96
    · refine lv_iconst (v := 1) hx hb dX0_multiply_25 (by decide) ?_
      refine lv_goto (tgt := 30) hx hb dX0_multiply_26 (by decide) ?_
      refine lv_istore_n (lv' := [(3, .int 1), (2, .int v2), (0, .int x), (1, .int y)]) hx hb dX0_multiply_30 rfl hl (by decide) rfl (fun ls hl => ?_)
      refine lv_iload_n hx hb dX0_multiply_31 rfl (lv_at hl 2 rfl) ?_
      refine lv_ldc hx hb cx.2.2.2.1 (cx.2.2.2.2.1 _ cs_X0_58) dX0_multiply_32 ?_
      refine lv_iand hx hb dX0_multiply_34 ?_
      refine lv_topi (fun v53 ev53 => ?_)
      refine lv_if_eq (tgt := 45) hx hb dX0_multiply_35 (by decide) (fun c54 => ?_) (fun c54 => ?_)
      · refine lv_iconst (v := 1) hx hb dX0_multiply_45 (by decide) ?_
        refine lv_goto (tgt := 50) hx hb dX0_multiply_46 (by decide) ?_
        refine lv_istore (lv' := [(4, .int 1), (3, .int 1), (2, .int v2), (0, .int x), (1, .int y)]) hx hb dX0_multiply_50 hl (by decide) rfl (fun ls hl => ?_)
        refine lv_iload_n hx hb dX0_multiply_52 rfl (lv_at hl 1 rfl) ?_
        refine lv_if_eq (tgt := 74) hx hb dX0_multiply_53 (by decide) (fun c9 => absurd c9 (by decide)) (fun _ => ?_)
        refine lv_iload hx hb dX0_multiply_56 (lv_at hl 0 rfl) ?_
        refine lv_if_eq (tgt := 66) hx hb dX0_multiply_58 (by decide) (fun c9 => absurd c9 (by decide)) (fun _ => ?_)
        refine lv_ldc hx hb cx.2.2.2.1 (cx.2.2.2.2.1 _ cs_X0_47) dX0_multiply_61 ?_
        refine lv_goto (tgt := 73) hx hb dX0_multiply_63 (by decide) ?_
        have hw : Wd G A [] s.heap _ _ := hw.sub [] rfl rfl
        exact r_iret cx hr hlk () (by subst ev1 ev2 ev3 ev11 ev53; rw [x_mul_eq, if_neg c4, if_pos c12, if_pos c54]) hw (Nat.le_of_ble_eq_true rfl) (Nat.le_of_ble_eq_true rfl) dX0_multiply_73
      · refine lv_iload_n hx hb dX0_multiply_38 rfl (lv_at hl 3 rfl) ?_
        refine lv_ldc hx hb cx.2.2.2.1 (cx.2.2.2.2.1 _ cs_X0_58) dX0_multiply_39 ?_
        refine lv_iand hx hb dX0_multiply_41 ?_
        refine lv_topi (fun v55 ev55 => ?_)
        refine lv_if_ne (tgt := 49) hx hb dX0_multiply_42 (by decide) (fun c56 => ?_) (fun c56 => ?_)
        · refine lv_iconst (v := 0) hx hb dX0_multiply_49 (by decide) ?_
          refine lv_istore (lv' := [(4, .int 0), (3, .int 1), (2, .int v2), (0, .int x), (1, .int y)]) hx hb dX0_multiply_50 hl (by decide) rfl (fun ls hl => ?_)
          refine lv_iload_n hx hb dX0_multiply_52 rfl (lv_at hl 1 rfl) ?_
          refine lv_if_eq (tgt := 74) hx hb dX0_multiply_53 (by decide) (fun c9 => absurd c9 (by decide)) (fun _ => ?_)
          refine lv_iload hx hb dX0_multiply_56 (lv_at hl 0 rfl) ?_
          refine lv_if_eq (tgt := 66) hx hb dX0_multiply_58 (by decide) (fun _ => ?_) (fun c9 => absurd (by decide) c9)
          refine lv_iload_n hx hb dX0_multiply_66 rfl (lv_at hl 2 rfl) ?_
          refine lv_bipush (v := 31) hx hb dX0_multiply_67 (by decide) ?_
          refine lv_ishl hx hb dX0_multiply_69 ?_
          refine lv_topi (fun v57 ev57 => ?_)
          refine lv_ldc hx hb cx.2.2.2.1 (cx.2.2.2.2.1 _ cs_X0_71) dX0_multiply_70 ?_
          refine lv_ior hx hb dX0_multiply_72 ?_
          refine lv_topi (fun v58 ev58 => ?_)
          have hw : Wd G A [] s.heap _ _ := hw.sub [] rfl rfl
          exact r_iret cx hr hlk () (by subst ev1 ev2 ev3 ev11 ev53 ev55 ev57 ev58; rw [x_mul_eq, if_neg c4, if_pos c12, if_neg c54, if_neg c56]) hw (Nat.le_of_ble_eq_true rfl) (Nat.le_of_ble_eq_true rfl) dX0_multiply_73
        · refine lv_iconst (v := 1) hx hb dX0_multiply_45 (by decide) ?_
          refine lv_goto (tgt := 50) hx hb dX0_multiply_46 (by decide) ?_
          refine lv_istore (lv' := [(4, .int 1), (3, .int 1), (2, .int v2), (0, .int x), (1, .int y)]) hx hb dX0_multiply_50 hl (by decide) rfl (fun ls hl => ?_)
          refine lv_iload_n hx hb dX0_multiply_52 rfl (lv_at hl 1 rfl) ?_
          refine lv_if_eq (tgt := 74) hx hb dX0_multiply_53 (by decide) (fun c9 => absurd c9 (by decide)) (fun _ => ?_)
          refine lv_iload hx hb dX0_multiply_56 (lv_at hl 0 rfl) ?_
          refine lv_if_eq (tgt := 66) hx hb dX0_multiply_58 (by decide) (fun c9 => absurd c9 (by decide)) (fun _ => ?_)
          refine lv_ldc hx hb cx.2.2.2.1 (cx.2.2.2.2.1 _ cs_X0_47) dX0_multiply_61 ?_
          refine lv_goto (tgt := 73) hx hb dX0_multiply_63 (by decide) ?_
          have hw : Wd G A [] s.heap _ _ := hw.sub [] rfl rfl
          exact r_iret cx hr hlk () (by subst ev1 ev2 ev3 ev11 ev53 ev55; rw [x_mul_eq, if_neg c4, if_pos c12, if_neg c54, if_pos c56]) hw (Nat.le_of_ble_eq_true rfl) (Nat.le_of_ble_eq_true rfl) dX0_multiply_73

theorem x_div_j1_ex : ∃ f : Int32 → Int32, ∀ (x : Int32), f x = (((x_nlz64 (x_wholeOf x)) - (3 : Int32))) := ⟨fun (x : Int32) => (((x_nlz64 (x_wholeOf x)) - (3 : Int32))), fun _ => rfl⟩
noncomputable def x_div_j1 : Int32 → Int32 := Classical.choose x_div_j1_ex
theorem x_div_j1_eq (x : Int32) : x_div_j1 x = (((x_nlz64 (x_wholeOf x)) - (3 : Int32))) := Classical.choose_spec x_div_j1_ex x
theorem x_div_j2_ex : ∃ f : Int32 → Int64, ∀ (x : Int32), f x = (((x_wholeOf x) <<< ((x_div_j1 x).toInt64 &&& 63))) := ⟨fun (x : Int32) => (((x_wholeOf x) <<< ((x_div_j1 x).toInt64 &&& 63))), fun _ => rfl⟩
noncomputable def x_div_j2 : Int32 → Int64 := Classical.choose x_div_j2_ex
theorem x_div_j2_eq (x : Int32) : x_div_j2 x = (((x_wholeOf x) <<< ((x_div_j1 x).toInt64 &&& 63))) := Classical.choose_spec x_div_j2_ex x
theorem x_div_j3_ex : ∃ f : Int32 → Int32 → Int64, ∀ (x : Int32) (y : Int32), f x y = (if (lg_cmp ((x_div_j2 x) - (x_div_j2 x) / (x_wholeOf y) * (x_wholeOf y)) (0 : Int64)) = (0 : Int32) then (0 : Int64) else (1 : Int64)) := ⟨fun (x : Int32) (y : Int32) => (if (lg_cmp ((x_div_j2 x) - (x_div_j2 x) / (x_wholeOf y) * (x_wholeOf y)) (0 : Int64)) = (0 : Int32) then (0 : Int64) else (1 : Int64)), fun _ _ => rfl⟩
noncomputable def x_div_j3 : Int32 → Int32 → Int64 := Classical.choose x_div_j3_ex
theorem x_div_j3_eq (x : Int32) (y : Int32) : x_div_j3 x y = (if (lg_cmp ((x_div_j2 x) - (x_div_j2 x) / (x_wholeOf y) * (x_wholeOf y)) (0 : Int64)) = (0 : Int32) then (0 : Int64) else (1 : Int64)) := Classical.choose_spec x_div_j3_ex x y
theorem x_div_ex : ∃ f : Int32 → Int32 → Int32, ∀ (x : Int32) (y : Int32), f x y = (if (x &&& (2147483647 : Int32)) = (2139095040 : Int32) then (if (y &&& (2147483647 : Int32)) = (2139095040 : Int32) then (2143289344) else (((((x ^^^ y).toUInt32 >>> ((31 : Int32).toUInt32 &&& Int32.toUInt32 31)).toInt32 <<< ((31 : Int32) &&& 31)) ||| (2139095040 : Int32)))) else (if (y &&& (2147483647 : Int32)) = (2139095040 : Int32) then ((((x ^^^ y).toUInt32 >>> ((31 : Int32).toUInt32 &&& Int32.toUInt32 31)).toInt32 <<< ((31 : Int32) &&& 31))) else (if (lg_cmp (x_wholeOf y) (0 : Int64)) = (0 : Int32) then (if (lg_cmp (x_wholeOf x) (0 : Int64)) = (0 : Int32) then (2143289344) else (((((x ^^^ y).toUInt32 >>> ((31 : Int32).toUInt32 &&& Int32.toUInt32 31)).toInt32 <<< ((31 : Int32) &&& 31)) ||| (2139095040 : Int32)))) else (if (lg_cmp (x_wholeOf x) (0 : Int64)) = (0 : Int32) then ((((x ^^^ y).toUInt32 >>> ((31 : Int32).toUInt32 &&& Int32.toUInt32 31)).toInt32 <<< ((31 : Int32) &&& 31))) else ((x_pack ((x ^^^ y).toUInt32 >>> ((31 : Int32).toUInt32 &&& Int32.toUInt32 31)).toInt32 (((x_div_j2 x) / (x_wholeOf y)) ||| (x_div_j3 x y)) (((x_lastBitOf x) - (x_lastBitOf y)) - (x_div_j1 x)))))))) := ⟨fun (x : Int32) (y : Int32) => (if (x &&& (2147483647 : Int32)) = (2139095040 : Int32) then (if (y &&& (2147483647 : Int32)) = (2139095040 : Int32) then (2143289344) else (((((x ^^^ y).toUInt32 >>> ((31 : Int32).toUInt32 &&& Int32.toUInt32 31)).toInt32 <<< ((31 : Int32) &&& 31)) ||| (2139095040 : Int32)))) else (if (y &&& (2147483647 : Int32)) = (2139095040 : Int32) then ((((x ^^^ y).toUInt32 >>> ((31 : Int32).toUInt32 &&& Int32.toUInt32 31)).toInt32 <<< ((31 : Int32) &&& 31))) else (if (lg_cmp (x_wholeOf y) (0 : Int64)) = (0 : Int32) then (if (lg_cmp (x_wholeOf x) (0 : Int64)) = (0 : Int32) then (2143289344) else (((((x ^^^ y).toUInt32 >>> ((31 : Int32).toUInt32 &&& Int32.toUInt32 31)).toInt32 <<< ((31 : Int32) &&& 31)) ||| (2139095040 : Int32)))) else (if (lg_cmp (x_wholeOf x) (0 : Int64)) = (0 : Int32) then ((((x ^^^ y).toUInt32 >>> ((31 : Int32).toUInt32 &&& Int32.toUInt32 31)).toInt32 <<< ((31 : Int32) &&& 31))) else ((x_pack ((x ^^^ y).toUInt32 >>> ((31 : Int32).toUInt32 &&& Int32.toUInt32 31)).toInt32 (((x_div_j2 x) / (x_wholeOf y)) ||| (x_div_j3 x y)) (((x_lastBitOf x) - (x_lastBitOf y)) - (x_div_j1 x)))))))), fun _ _ => rfl⟩
noncomputable def x_div : Int32 → Int32 → Int32 := Classical.choose x_div_ex
theorem x_div_eq (x : Int32) (y : Int32) : x_div x y = (if (x &&& (2147483647 : Int32)) = (2139095040 : Int32) then (if (y &&& (2147483647 : Int32)) = (2139095040 : Int32) then (2143289344) else (((((x ^^^ y).toUInt32 >>> ((31 : Int32).toUInt32 &&& Int32.toUInt32 31)).toInt32 <<< ((31 : Int32) &&& 31)) ||| (2139095040 : Int32)))) else (if (y &&& (2147483647 : Int32)) = (2139095040 : Int32) then ((((x ^^^ y).toUInt32 >>> ((31 : Int32).toUInt32 &&& Int32.toUInt32 31)).toInt32 <<< ((31 : Int32) &&& 31))) else (if (lg_cmp (x_wholeOf y) (0 : Int64)) = (0 : Int32) then (if (lg_cmp (x_wholeOf x) (0 : Int64)) = (0 : Int32) then (2143289344) else (((((x ^^^ y).toUInt32 >>> ((31 : Int32).toUInt32 &&& Int32.toUInt32 31)).toInt32 <<< ((31 : Int32) &&& 31)) ||| (2139095040 : Int32)))) else (if (lg_cmp (x_wholeOf x) (0 : Int64)) = (0 : Int32) then ((((x ^^^ y).toUInt32 >>> ((31 : Int32).toUInt32 &&& Int32.toUInt32 31)).toInt32 <<< ((31 : Int32) &&& 31))) else ((x_pack ((x ^^^ y).toUInt32 >>> ((31 : Int32).toUInt32 &&& Int32.toUInt32 31)).toInt32 (((x_div_j2 x) / (x_wholeOf y)) ||| (x_div_j3 x y)) (((x_lastBitOf x) - (x_lastBitOf y)) - (x_div_j1 x)))))))) := Classical.choose_spec x_div_ex x y
set_option maxHeartbeats 4000000 in
set_option maxRecDepth 100000 in
theorem f_div (l : Launch) (G : Gt) (x : Int32) (y : Int32) : Mt l yX0_divide cX0_divide 14 (some .int) ({ frames := 3, cells := 0, slots := 0, locals := 75 } : Room) G [.int x, .int y] [] (qI G (fun (r : Int32) (w : Unit) => r = x_div x y) (fun w => [])) := by
  refine Mt.of (own := RX0) (cc := cX0_divide) (by decide) rfl (Nat.le_of_ble_eq_true rfl) ?_
  intro p e s m below meth c A ls cx hr hlk hmn hA hl hw
  have hx := cx.1
  have hb := cx.2.1
  have hl : lv_has ls 14 [(0, .int x), (1, .int y)] := hl
  refine lv_iload_n hx hb dX0_divide_0 rfl (lv_at hl 0 rfl) ?_
  refine lv_iload_n hx hb dX0_divide_1 rfl (lv_at hl 1 rfl) ?_
  refine lv_ixor hx hb dX0_divide_2 ?_
  refine lv_topi (fun v1 ev1 => ?_)
  refine lv_bipush (v := 31) hx hb dX0_divide_3 (by decide) ?_
  refine lv_iushr hx hb dX0_divide_5 rfl ?_
  refine lv_topi (fun v2 ev2 => ?_)
  refine lv_istore_n (lv' := [(2, .int v2), (0, .int x), (1, .int y)]) hx hb dX0_divide_6 rfl hl (by decide) rfl (fun ls hl => ?_)
  refine lv_iload_n hx hb dX0_divide_7 rfl (lv_at hl 1 rfl) ?_
  refine lv_ldc hx hb cx.2.2.2.1 (cx.2.2.2.2.1 _ cs_X0_58) dX0_divide_8 ?_
  refine lv_iand hx hb dX0_divide_10 ?_
  refine lv_topi (fun v3 ev3 => ?_)
  refine lv_ldc hx hb cx.2.2.2.1 (cx.2.2.2.2.1 _ cs_X0_71) dX0_divide_11 ?_
  refine lv_icmp_ne (tgt := 20) hx hb dX0_divide_13 (by decide) (fun c4 => ?_) (fun c4 => ?_)
  · refine lv_iconst (v := 0) hx hb dX0_divide_20 (by decide) ?_
    refine lv_istore_n (lv' := [(3, .int 0), (2, .int v2), (0, .int x), (1, .int y)]) hx hb dX0_divide_21 rfl hl (by decide) rfl (fun ls hl => ?_)
    refine lv_iload_n hx hb dX0_divide_22 rfl (lv_at hl 3 rfl) ?_
    refine lv_ldc hx hb cx.2.2.2.1 (cx.2.2.2.2.1 _ cs_X0_58) dX0_divide_23 ?_
    refine lv_iand hx hb dX0_divide_25 ?_
    refine lv_topi (fun v5 ev5 => ?_)
    refine lv_ldc hx hb cx.2.2.2.1 (cx.2.2.2.2.1 _ cs_X0_71) dX0_divide_26 ?_
    refine lv_icmp_ne (tgt := 35) hx hb dX0_divide_28 (by decide) (fun c6 => ?_) (fun c6 => ?_)
    · refine lv_iconst (v := 0) hx hb dX0_divide_35 (by decide) ?_
      refine lv_istore (lv' := [(4, .int 0), (3, .int 0), (2, .int v2), (0, .int x), (1, .int y)]) hx hb dX0_divide_36 hl (by decide) rfl (fun ls hl => ?_)
      refine lv_iload_n hx hb dX0_divide_38 rfl (lv_at hl 3 rfl) ?_
      refine r_callS0L (As := [.int x]) (rest := []) cx hw hA (f_wholeOf l G x) ml_X0_67 st_X0_wholeOf in_X0 co_X0_wholeOf hd_X0_wholeOf rfl ⟨Nat.le_of_ble_eq_true rfl, Nat.le_of_ble_eq_true rfl⟩ hl.1 rfl (Nat.le_of_ble_eq_true rfl) dX0_divide_39 ⟨Nat.le_of_ble_eq_true rfl, Nat.le_of_ble_eq_true rfl⟩ (fun r8 H locs hr8 hw => ?_)
      refine lv_lstore (lv' := [(5, .long r8), (4, .int 0), (3, .int 0), (2, .int v2), (0, .int x), (1, .int y)]) hx hb dX0_divide_42 hl (by decide) rfl (fun ls hl => ?_)
      refine lv_iload_n hx hb dX0_divide_44 rfl (lv_at hl 5 rfl) ?_
      refine r_callS0L (As := [.int y]) (rest := []) cx hw hA (f_wholeOf l G y) ml_X0_67 st_X0_wholeOf in_X0 co_X0_wholeOf hd_X0_wholeOf rfl ⟨Nat.le_of_ble_eq_true rfl, Nat.le_of_ble_eq_true rfl⟩ hl.1 rfl (Nat.le_of_ble_eq_true rfl) dX0_divide_45 ⟨Nat.le_of_ble_eq_true rfl, Nat.le_of_ble_eq_true rfl⟩ (fun r10 H locs hr10 hw => ?_)
      refine lv_lstore (lv' := [(7, .long r10), (5, .long r8), (4, .int 0), (3, .int 0), (2, .int v2), (0, .int x), (1, .int y)]) hx hb dX0_divide_48 hl (by decide) rfl (fun ls hl => ?_)
      refine lv_iload_n hx hb dX0_divide_50 rfl (lv_at hl 3 rfl) ?_
      refine lv_if_eq (tgt := 72) hx hb dX0_divide_51 (by decide) (fun _ => ?_) (fun c9 => absurd (by decide) c9)
      refine lv_iload hx hb dX0_divide_72 (lv_at hl 2 rfl) ?_
      refine lv_if_eq (tgt := 82) hx hb dX0_divide_74 (by decide) (fun _ => ?_) (fun c9 => absurd (by decide) c9)
      refine lv_lload hx hb dX0_divide_82 (lv_at hl 0 rfl) ?_
      refine lv_lconst (v := 0) hx hb dX0_divide_84 (by decide) ?_
      refine W.lcmp hx hb dX0_divide_85 ?_
      refine lv_topi (fun v11 ev11 => ?_)
      refine lv_if_ne (tgt := 109) hx hb dX0_divide_86 (by decide) (fun c12 => ?_) (fun c12 => ?_)
      · refine lv_lload hx hb dX0_divide_109 (lv_at hl 1 rfl) ?_
        refine lv_lconst (v := 0) hx hb dX0_divide_111 (by decide) ?_
        refine W.lcmp hx hb dX0_divide_112 ?_
        refine lv_topi (fun v13 ev13 => ?_)
        refine lv_if_ne (tgt := 121) hx hb dX0_divide_113 (by decide) (fun c14 => ?_) (fun c14 => ?_)
        · refine lv_lload hx hb dX0_divide_121 (lv_at hl 1 rfl) ?_
          refine r_callS0I (As := [.long r8]) (rest := []) cx hw hA (f_nlz64 l G r8) ml_X0_77 st_J13_numberOfLeadingZeros_95d88 in_J13 co_J13_numberOfLeadingZeros_95d88 hd_J13_numberOfLeadingZeros_95d88 rfl ⟨Nat.le_of_ble_eq_true rfl, Nat.le_of_ble_eq_true rfl⟩ hl.1 rfl (Nat.le_of_ble_eq_true rfl) dX0_divide_123 ⟨Nat.le_of_ble_eq_true rfl, Nat.le_of_ble_eq_true rfl⟩ (fun r16 H locs hr16 hw => ?_)
          refine lv_iconst (v := 3) hx hb dX0_divide_126 (by decide) ?_
          refine jn1 (E := (x_div_j1 x)) (pcJ := 130) (nL := 14) (lv := fun j1 => [(7, .long r10), (5, .long r8), (2, .int v2), (0, .int x), (1, .int y), (9, .int j1)]) (sk := fun j1 => []) (fun K1 => ?_) ?_
          · refine lv_isub hx hb dX0_divide_127 ?_
            refine lv_topi (fun v17 ev17 => ?_)
            refine lv_istore (lv' := [(9, .int v17), (7, .long r10), (5, .long r8), (4, .int 0), (3, .int 0), (2, .int v2), (0, .int x), (1, .int y)]) hx hb dX0_divide_128 hl (by decide) rfl (fun ls hl => ?_)
            exact K1 v17 ls (by subst ev1 ev2 ev3 ev5 hr8 hr10 ev11 ev13 hr16 ev17; rw [x_div_j1_eq]) (lv_sub hl [1, 2, 5, 6, 7, 0] rfl)
          · intro j1 ls ej1 hl
            refine lv_lload hx hb dX0_divide_130 (lv_at hl 1 rfl) ?_
            refine lv_iload hx hb dX0_divide_132 (lv_at hl 5 rfl) ?_
            refine jn1 (E := (x_div_j2 x)) (pcJ := 137) (nL := 14) (lv := fun j2 => [(7, .long r10), (2, .int v2), (0, .int x), (1, .int y), (9, .int j1), (5, .long j2)]) (sk := fun j2 => []) (fun K2 => ?_) ?_
            · refine lv_lshl hx hb dX0_divide_134 rfl ?_
              refine lv_topl (fun v18 ev18 => ?_)
              refine lv_lstore (lv' := [(5, .long v18), (7, .long r10), (2, .int v2), (0, .int x), (1, .int y), (9, .int j1)]) hx hb dX0_divide_135 hl (by decide) rfl (fun ls hl => ?_)
              exact K2 v18 ls (by subst ev1 ev2 ev3 ev5 hr8 hr10 ev11 ev13 hr16 ej1 ev18; rw [x_div_j2_eq]) (lv_sub hl [1, 2, 3, 4, 5, 0] rfl)
            · intro j2 ls ej2 hl
              refine lv_lload hx hb dX0_divide_137 (lv_at hl 5 rfl) ?_
              refine lv_lload hx hb dX0_divide_139 (lv_at hl 0 rfl) ?_
              refine lv_ldiv hx hb dX0_divide_141 (lg_nz (fun h9 => c12 (ev11.trans h9))) ?_
              refine lv_topl (fun v19 ev19 => ?_)
              refine lv_lstore (lv' := [(10, .long v19), (7, .long r10), (2, .int v2), (0, .int x), (1, .int y), (9, .int j1), (5, .long j2)]) hx hb dX0_divide_142 hl (by decide) rfl (fun ls hl => ?_)
              refine lv_lload hx hb dX0_divide_144 (lv_at hl 6 rfl) ?_
              refine lv_lload hx hb dX0_divide_146 (lv_at hl 1 rfl) ?_
              refine lv_lrem hx hb dX0_divide_148 (lg_nz (fun h9 => c12 (ev11.trans h9))) ?_
              refine lv_topl (fun v20 ev20 => ?_)
              refine jn1 (E := (x_div_j3 x y)) (pcJ := 161) (nL := 14) (lv := fun j3 => [(10, .long v19), (7, .long r10), (2, .int v2), (0, .int x), (1, .int y), (9, .int j1), (5, .long j2), (12, .long j3)]) (sk := fun j3 => []) (fun K3 => ?_) ?_
              · refine lv_lconst (v := 0) hx hb dX0_divide_149 (by decide) ?_
                refine W.lcmp hx hb dX0_divide_150 ?_
                refine lv_topi (fun v21 ev21 => ?_)
                refine lv_if_ne (tgt := 158) hx hb dX0_divide_151 (by decide) (fun c22 => ?_) (fun c22 => ?_)
                · refine lv_lconst (v := 1) hx hb dX0_divide_158 (by decide) ?_
                  refine lv_lstore (lv' := [(12, .long 1), (10, .long v19), (7, .long r10), (2, .int v2), (0, .int x), (1, .int y), (9, .int j1), (5, .long j2)]) hx hb dX0_divide_159 hl (by decide) rfl (fun ls hl => ?_)
                  exact K3 (1 : Int64) ls (by subst ev1 ev2 ev3 ev5 hr8 hr10 ev11 ev13 hr16 ej1 ej2 ev19 ev20 ev21; rw [x_div_j3_eq, if_neg c22]) (lv_sub hl [1, 2, 3, 4, 5, 6, 7, 0] rfl)
                · refine lv_lconst (v := 0) hx hb dX0_divide_154 (by decide) ?_
                  refine lv_goto (tgt := 159) hx hb dX0_divide_155 (by decide) ?_
                  refine lv_lstore (lv' := [(12, .long 0), (10, .long v19), (7, .long r10), (2, .int v2), (0, .int x), (1, .int y), (9, .int j1), (5, .long j2)]) hx hb dX0_divide_159 hl (by decide) rfl (fun ls hl => ?_)
                  exact K3 (0 : Int64) ls (by subst ev1 ev2 ev3 ev5 hr8 hr10 ev11 ev13 hr16 ej1 ej2 ev19 ev20 ev21; rw [x_div_j3_eq, if_pos c22]) (lv_sub hl [1, 2, 3, 4, 5, 6, 7, 0] rfl)
              · intro j3 ls ej3 hl
                refine lv_iload_n hx hb dX0_divide_161 rfl (lv_at hl 2 rfl) ?_
                refine lv_lload hx hb dX0_divide_162 (lv_at hl 0 rfl) ?_
                refine lv_lload hx hb dX0_divide_164 (lv_at hl 7 rfl) ?_
                refine lv_lor hx hb dX0_divide_166 ?_
                refine lv_topl (fun v23 ev23 => ?_)
                refine lv_iload_n hx hb dX0_divide_167 rfl (lv_at hl 3 rfl) ?_
                refine r_callS0I (As := [.int x]) (rest := [.long v23, .int v2]) cx hw hA (f_lastBitOf l G x) ml_X0_63 st_X0_lastBitOf in_X0 co_X0_lastBitOf hd_X0_lastBitOf rfl ⟨Nat.le_of_ble_eq_true rfl, Nat.le_of_ble_eq_true rfl⟩ hl.1 rfl (Nat.le_of_ble_eq_true rfl) dX0_divide_168 ⟨Nat.le_of_ble_eq_true rfl, Nat.le_of_ble_eq_true rfl⟩ (fun r25 H locs hr25 hw => ?_)
                refine lv_iload_n hx hb dX0_divide_171 rfl (lv_at hl 4 rfl) ?_
                refine r_callS0I (As := [.int y]) (rest := [.int r25, .long v23, .int v2]) cx hw hA (f_lastBitOf l G y) ml_X0_63 st_X0_lastBitOf in_X0 co_X0_lastBitOf hd_X0_lastBitOf rfl ⟨Nat.le_of_ble_eq_true rfl, Nat.le_of_ble_eq_true rfl⟩ hl.1 rfl (Nat.le_of_ble_eq_true rfl) dX0_divide_172 ⟨Nat.le_of_ble_eq_true rfl, Nat.le_of_ble_eq_true rfl⟩ (fun r27 H locs hr27 hw => ?_)
                refine lv_isub hx hb dX0_divide_175 ?_
                refine lv_topi (fun v28 ev28 => ?_)
                refine lv_iload hx hb dX0_divide_176 (lv_at hl 5 rfl) ?_
                refine lv_isub hx hb dX0_divide_178 ?_
                refine lv_topi (fun v29 ev29 => ?_)
                refine r_callS0I (As := [.int v2, .long v23, .int v29]) (rest := []) cx hw hA (f_pack l G v2 v23 v29) ml_X0_59 st_X0_pack in_X0 co_X0_pack hd_X0_pack rfl ⟨Nat.le_of_ble_eq_true rfl, Nat.le_of_ble_eq_true rfl⟩ hl.1 rfl (Nat.le_of_ble_eq_true rfl) dX0_divide_179 ⟨Nat.le_of_ble_eq_true rfl, Nat.le_of_ble_eq_true rfl⟩ (fun r31 H locs hr31 hw => ?_)
                have hw : Wd G A [] s.heap _ _ := hw.sub [] rfl rfl
                exact r_iret cx hr hlk () (by subst ev1 ev2 ev3 ev5 hr8 hr10 ev11 ev13 hr16 ej1 ej2 ev19 ev20 ej3 ev23 hr25 hr27 ev28 ev29 hr31; rw [x_div_eq, if_neg c4, if_neg c6, if_neg c12, if_neg c14]) hw (Nat.le_of_ble_eq_true rfl) (Nat.le_of_ble_eq_true rfl) dX0_divide_182
        · refine lv_iload_n hx hb dX0_divide_116 rfl (lv_at hl 4 rfl) ?_
          refine lv_bipush (v := 31) hx hb dX0_divide_117 (by decide) ?_
          refine lv_ishl hx hb dX0_divide_119 ?_
          refine lv_topi (fun v32 ev32 => ?_)
          have hw : Wd G A [] s.heap _ _ := hw.sub [] rfl rfl
          exact r_iret cx hr hlk () (by subst ev1 ev2 ev3 ev5 hr8 hr10 ev11 ev13 ev32; rw [x_div_eq, if_neg c4, if_neg c6, if_neg c12, if_pos c14]) hw (Nat.le_of_ble_eq_true rfl) (Nat.le_of_ble_eq_true rfl) dX0_divide_120
      · refine lv_lload hx hb dX0_divide_89 (lv_at hl 1 rfl) ?_
        refine lv_lconst (v := 0) hx hb dX0_divide_91 (by decide) ?_
        refine W.lcmp hx hb dX0_divide_92 ?_
        refine lv_topi (fun v33 ev33 => ?_)
        refine lv_if_ne (tgt := 101) hx hb dX0_divide_93 (by decide) (fun c34 => ?_) (fun c34 => ?_)
        · refine lv_iload_n hx hb dX0_divide_101 rfl (lv_at hl 4 rfl) ?_
          refine lv_bipush (v := 31) hx hb dX0_divide_102 (by decide) ?_
          refine lv_ishl hx hb dX0_divide_104 ?_
          refine lv_topi (fun v35 ev35 => ?_)
          refine lv_ldc hx hb cx.2.2.2.1 (cx.2.2.2.2.1 _ cs_X0_71) dX0_divide_105 ?_
          refine lv_ior hx hb dX0_divide_107 ?_
          refine lv_topi (fun v36 ev36 => ?_)
          have hw : Wd G A [] s.heap _ _ := hw.sub [] rfl rfl
          exact r_iret cx hr hlk () (by subst ev1 ev2 ev3 ev5 hr8 hr10 ev11 ev33 ev35 ev36; rw [x_div_eq, if_neg c4, if_neg c6, if_pos c12, if_neg c34]) hw (Nat.le_of_ble_eq_true rfl) (Nat.le_of_ble_eq_true rfl) dX0_divide_108
        · refine lv_ldc hx hb cx.2.2.2.1 (cx.2.2.2.2.1 _ cs_X0_47) dX0_divide_96 ?_
          refine lv_goto (tgt := 108) hx hb dX0_divide_98 (by decide) ?_
          have hw : Wd G A [] s.heap _ _ := hw.sub [] rfl rfl
          exact r_iret cx hr hlk () (by subst ev1 ev2 ev3 ev5 hr8 hr10 ev11 ev33; rw [x_div_eq, if_neg c4, if_neg c6, if_pos c12, if_pos c34]) hw (Nat.le_of_ble_eq_true rfl) (Nat.le_of_ble_eq_true rfl) dX0_divide_108
    · refine lv_iconst (v := 1) hx hb dX0_divide_31 (by decide) ?_
      refine lv_goto (tgt := 36) hx hb dX0_divide_32 (by decide) ?_
      refine lv_istore (lv' := [(4, .int 1), (3, .int 0), (2, .int v2), (0, .int x), (1, .int y)]) hx hb dX0_divide_36 hl (by decide) rfl (fun ls hl => ?_)
      refine lv_iload_n hx hb dX0_divide_38 rfl (lv_at hl 3 rfl) ?_
      refine r_callS0L (As := [.int x]) (rest := []) cx hw hA (f_wholeOf l G x) ml_X0_67 st_X0_wholeOf in_X0 co_X0_wholeOf hd_X0_wholeOf rfl ⟨Nat.le_of_ble_eq_true rfl, Nat.le_of_ble_eq_true rfl⟩ hl.1 rfl (Nat.le_of_ble_eq_true rfl) dX0_divide_39 ⟨Nat.le_of_ble_eq_true rfl, Nat.le_of_ble_eq_true rfl⟩ (fun r38 H locs hr38 hw => ?_)
      refine lv_lstore (lv' := [(5, .long r38), (4, .int 1), (3, .int 0), (2, .int v2), (0, .int x), (1, .int y)]) hx hb dX0_divide_42 hl (by decide) rfl (fun ls hl => ?_)
      refine lv_iload_n hx hb dX0_divide_44 rfl (lv_at hl 5 rfl) ?_
      refine r_callS0L (As := [.int y]) (rest := []) cx hw hA (f_wholeOf l G y) ml_X0_67 st_X0_wholeOf in_X0 co_X0_wholeOf hd_X0_wholeOf rfl ⟨Nat.le_of_ble_eq_true rfl, Nat.le_of_ble_eq_true rfl⟩ hl.1 rfl (Nat.le_of_ble_eq_true rfl) dX0_divide_45 ⟨Nat.le_of_ble_eq_true rfl, Nat.le_of_ble_eq_true rfl⟩ (fun r40 H locs hr40 hw => ?_)
      refine lv_lstore (lv' := [(7, .long r40), (5, .long r38), (4, .int 1), (3, .int 0), (2, .int v2), (0, .int x), (1, .int y)]) hx hb dX0_divide_48 hl (by decide) rfl (fun ls hl => ?_)
      refine lv_iload_n hx hb dX0_divide_50 rfl (lv_at hl 3 rfl) ?_
      refine lv_if_eq (tgt := 72) hx hb dX0_divide_51 (by decide) (fun _ => ?_) (fun c9 => absurd (by decide) c9)
      refine lv_iload hx hb dX0_divide_72 (lv_at hl 2 rfl) ?_
      refine lv_if_eq (tgt := 82) hx hb dX0_divide_74 (by decide) (fun c9 => absurd c9 (by decide)) (fun _ => ?_)
      refine lv_iload_n hx hb dX0_divide_77 rfl (lv_at hl 4 rfl) ?_
      refine lv_bipush (v := 31) hx hb dX0_divide_78 (by decide) ?_
      refine lv_ishl hx hb dX0_divide_80 ?_
      refine lv_topi (fun v41 ev41 => ?_)
      have hw : Wd G A [] s.heap _ _ := hw.sub [] rfl rfl
      exact r_iret cx hr hlk () (by subst ev1 ev2 ev3 ev5 hr38 hr40 ev41; rw [x_div_eq, if_neg c4, if_pos c6]) hw (Nat.le_of_ble_eq_true rfl) (Nat.le_of_ble_eq_true rfl) dX0_divide_81
  · refine lv_iconst (v := 1) hx hb dX0_divide_16 (by decide) ?_
    refine lv_goto (tgt := 21) hx hb dX0_divide_17 (by decide) ?_
    refine lv_istore_n (lv' := [(3, .int 1), (2, .int v2), (0, .int x), (1, .int y)]) hx hb dX0_divide_21 rfl hl (by decide) rfl (fun ls hl => ?_)
    refine lv_iload_n hx hb dX0_divide_22 rfl (lv_at hl 3 rfl) ?_
    refine lv_ldc hx hb cx.2.2.2.1 (cx.2.2.2.2.1 _ cs_X0_58) dX0_divide_23 ?_
    refine lv_iand hx hb dX0_divide_25 ?_
    refine lv_topi (fun v42 ev42 => ?_)
    refine lv_ldc hx hb cx.2.2.2.1 (cx.2.2.2.2.1 _ cs_X0_71) dX0_divide_26 ?_
    refine lv_icmp_ne (tgt := 35) hx hb dX0_divide_28 (by decide) (fun c43 => ?_) (fun c43 => ?_)
    · refine lv_iconst (v := 0) hx hb dX0_divide_35 (by decide) ?_
      refine lv_istore (lv' := [(4, .int 0), (3, .int 1), (2, .int v2), (0, .int x), (1, .int y)]) hx hb dX0_divide_36 hl (by decide) rfl (fun ls hl => ?_)
      refine lv_iload_n hx hb dX0_divide_38 rfl (lv_at hl 3 rfl) ?_
      refine r_callS0L (As := [.int x]) (rest := []) cx hw hA (f_wholeOf l G x) ml_X0_67 st_X0_wholeOf in_X0 co_X0_wholeOf hd_X0_wholeOf rfl ⟨Nat.le_of_ble_eq_true rfl, Nat.le_of_ble_eq_true rfl⟩ hl.1 rfl (Nat.le_of_ble_eq_true rfl) dX0_divide_39 ⟨Nat.le_of_ble_eq_true rfl, Nat.le_of_ble_eq_true rfl⟩ (fun r45 H locs hr45 hw => ?_)
      refine lv_lstore (lv' := [(5, .long r45), (4, .int 0), (3, .int 1), (2, .int v2), (0, .int x), (1, .int y)]) hx hb dX0_divide_42 hl (by decide) rfl (fun ls hl => ?_)
      refine lv_iload_n hx hb dX0_divide_44 rfl (lv_at hl 5 rfl) ?_
      refine r_callS0L (As := [.int y]) (rest := []) cx hw hA (f_wholeOf l G y) ml_X0_67 st_X0_wholeOf in_X0 co_X0_wholeOf hd_X0_wholeOf rfl ⟨Nat.le_of_ble_eq_true rfl, Nat.le_of_ble_eq_true rfl⟩ hl.1 rfl (Nat.le_of_ble_eq_true rfl) dX0_divide_45 ⟨Nat.le_of_ble_eq_true rfl, Nat.le_of_ble_eq_true rfl⟩ (fun r47 H locs hr47 hw => ?_)
      refine lv_lstore (lv' := [(7, .long r47), (5, .long r45), (4, .int 0), (3, .int 1), (2, .int v2), (0, .int x), (1, .int y)]) hx hb dX0_divide_48 hl (by decide) rfl (fun ls hl => ?_)
      refine lv_iload_n hx hb dX0_divide_50 rfl (lv_at hl 3 rfl) ?_
      refine lv_if_eq (tgt := 72) hx hb dX0_divide_51 (by decide) (fun c9 => absurd c9 (by decide)) (fun _ => ?_)
      refine lv_iload hx hb dX0_divide_54 (lv_at hl 2 rfl) ?_
      refine lv_if_eq (tgt := 64) hx hb dX0_divide_56 (by decide) (fun _ => ?_) (fun c9 => absurd (by decide) c9)
      refine lv_iload_n hx hb dX0_divide_64 rfl (lv_at hl 4 rfl) ?_
      refine lv_bipush (v := 31) hx hb dX0_divide_65 (by decide) ?_
      refine lv_ishl hx hb dX0_divide_67 ?_
      refine lv_topi (fun v48 ev48 => ?_)
      refine lv_ldc hx hb cx.2.2.2.1 (cx.2.2.2.2.1 _ cs_X0_71) dX0_divide_68 ?_
      refine lv_ior hx hb dX0_divide_70 ?_
      refine lv_topi (fun v49 ev49 => ?_)
      have hw : Wd G A [] s.heap _ _ := hw.sub [] rfl rfl
      exact r_iret cx hr hlk () (by subst ev1 ev2 ev3 ev42 hr45 hr47 ev48 ev49; rw [x_div_eq, if_pos c4, if_neg c43]) hw (Nat.le_of_ble_eq_true rfl) (Nat.le_of_ble_eq_true rfl) dX0_divide_71
    · refine lv_iconst (v := 1) hx hb dX0_divide_31 (by decide) ?_
      refine lv_goto (tgt := 36) hx hb dX0_divide_32 (by decide) ?_
      refine lv_istore (lv' := [(4, .int 1), (3, .int 1), (2, .int v2), (0, .int x), (1, .int y)]) hx hb dX0_divide_36 hl (by decide) rfl (fun ls hl => ?_)
      refine lv_iload_n hx hb dX0_divide_38 rfl (lv_at hl 3 rfl) ?_
      refine r_callS0L (As := [.int x]) (rest := []) cx hw hA (f_wholeOf l G x) ml_X0_67 st_X0_wholeOf in_X0 co_X0_wholeOf hd_X0_wholeOf rfl ⟨Nat.le_of_ble_eq_true rfl, Nat.le_of_ble_eq_true rfl⟩ hl.1 rfl (Nat.le_of_ble_eq_true rfl) dX0_divide_39 ⟨Nat.le_of_ble_eq_true rfl, Nat.le_of_ble_eq_true rfl⟩ (fun r51 H locs hr51 hw => ?_)
      refine lv_lstore (lv' := [(5, .long r51), (4, .int 1), (3, .int 1), (2, .int v2), (0, .int x), (1, .int y)]) hx hb dX0_divide_42 hl (by decide) rfl (fun ls hl => ?_)
      refine lv_iload_n hx hb dX0_divide_44 rfl (lv_at hl 5 rfl) ?_
      refine r_callS0L (As := [.int y]) (rest := []) cx hw hA (f_wholeOf l G y) ml_X0_67 st_X0_wholeOf in_X0 co_X0_wholeOf hd_X0_wholeOf rfl ⟨Nat.le_of_ble_eq_true rfl, Nat.le_of_ble_eq_true rfl⟩ hl.1 rfl (Nat.le_of_ble_eq_true rfl) dX0_divide_45 ⟨Nat.le_of_ble_eq_true rfl, Nat.le_of_ble_eq_true rfl⟩ (fun r53 H locs hr53 hw => ?_)
      refine lv_lstore (lv' := [(7, .long r53), (5, .long r51), (4, .int 1), (3, .int 1), (2, .int v2), (0, .int x), (1, .int y)]) hx hb dX0_divide_48 hl (by decide) rfl (fun ls hl => ?_)
      refine lv_iload_n hx hb dX0_divide_50 rfl (lv_at hl 3 rfl) ?_
      refine lv_if_eq (tgt := 72) hx hb dX0_divide_51 (by decide) (fun c9 => absurd c9 (by decide)) (fun _ => ?_)
      refine lv_iload hx hb dX0_divide_54 (lv_at hl 2 rfl) ?_
      refine lv_if_eq (tgt := 64) hx hb dX0_divide_56 (by decide) (fun c9 => absurd c9 (by decide)) (fun _ => ?_)
      refine lv_ldc hx hb cx.2.2.2.1 (cx.2.2.2.2.1 _ cs_X0_47) dX0_divide_59 ?_
      refine lv_goto (tgt := 71) hx hb dX0_divide_61 (by decide) ?_
      have hw : Wd G A [] s.heap _ _ := hw.sub [] rfl rfl
      exact r_iret cx hr hlk () (by subst ev1 ev2 ev3 ev42 hr51 hr53; rw [x_div_eq, if_pos c4, if_pos c43]) hw (Nat.le_of_ble_eq_true rfl) (Nat.le_of_ble_eq_true rfl) dX0_divide_71

theorem x_cut_ex : ∃ f : Int32 → Int32, ∀ (k : Int32), f k = (if (x_isNan k) = (0 : Int32) then (if (x_lastBitOf k) ≤ (7 : Int32) then (if (-24 : Int32) ≤ (x_lastBitOf k) then (if (x_lastBitOf k) < (0 : Int32) then (if (0 : Int32) ≤ k then (((x_wholeOf k) >>> ((-(x_lastBitOf k)).toInt64 &&& 63)).toInt32) else ((-((x_wholeOf k) >>> ((-(x_lastBitOf k)).toInt64 &&& 63)).toInt32))) else (if (0 : Int32) ≤ k then (((x_wholeOf k) <<< ((x_lastBitOf k).toInt64 &&& 63)).toInt32) else ((-((x_wholeOf k) <<< ((x_lastBitOf k).toInt64 &&& 63)).toInt32)))) else (0)) else (if (0 : Int32) ≤ k then (2147483647) else (-2147483648))) else (0)) := ⟨fun (k : Int32) => (if (x_isNan k) = (0 : Int32) then (if (x_lastBitOf k) ≤ (7 : Int32) then (if (-24 : Int32) ≤ (x_lastBitOf k) then (if (x_lastBitOf k) < (0 : Int32) then (if (0 : Int32) ≤ k then (((x_wholeOf k) >>> ((-(x_lastBitOf k)).toInt64 &&& 63)).toInt32) else ((-((x_wholeOf k) >>> ((-(x_lastBitOf k)).toInt64 &&& 63)).toInt32))) else (if (0 : Int32) ≤ k then (((x_wholeOf k) <<< ((x_lastBitOf k).toInt64 &&& 63)).toInt32) else ((-((x_wholeOf k) <<< ((x_lastBitOf k).toInt64 &&& 63)).toInt32)))) else (0)) else (if (0 : Int32) ≤ k then (2147483647) else (-2147483648))) else (0)), fun _ => rfl⟩
noncomputable def x_cut : Int32 → Int32 := Classical.choose x_cut_ex
theorem x_cut_eq (k : Int32) : x_cut k = (if (x_isNan k) = (0 : Int32) then (if (x_lastBitOf k) ≤ (7 : Int32) then (if (-24 : Int32) ≤ (x_lastBitOf k) then (if (x_lastBitOf k) < (0 : Int32) then (if (0 : Int32) ≤ k then (((x_wholeOf k) >>> ((-(x_lastBitOf k)).toInt64 &&& 63)).toInt32) else ((-((x_wholeOf k) >>> ((-(x_lastBitOf k)).toInt64 &&& 63)).toInt32))) else (if (0 : Int32) ≤ k then (((x_wholeOf k) <<< ((x_lastBitOf k).toInt64 &&& 63)).toInt32) else ((-((x_wholeOf k) <<< ((x_lastBitOf k).toInt64 &&& 63)).toInt32)))) else (0)) else (if (0 : Int32) ≤ k then (2147483647) else (-2147483648))) else (0)) := Classical.choose_spec x_cut_ex k
set_option maxHeartbeats 4000000 in
set_option maxRecDepth 100000 in
theorem f_cut (l : Launch) (G : Gt) (k : Int32) : Mt l yX0_cut cX0_cut 5 (some .int) ({ frames := 1, cells := 0, slots := 0, locals := 21 } : Room) G [.long (x_make 1 k)] [] (qI G (fun (r : Int32) (w : Unit) => r = x_cut k) (fun w => [])) := by
  refine Mt.of (own := RX0) (cc := cX0_cut) (by decide) rfl (Nat.le_of_ble_eq_true rfl) ?_
  intro p e s m below meth c A ls cx hr hlk hmn hA hl hw
  have hx := cx.1
  have hb := cx.2.1
  have hl : lv_has ls 5 [(0, .long (x_make 1 k))] := hl
  refine lv_lload_n hx hb dX0_cut_0 rfl (lv_at hl 0 rfl) ?_
  refine r_callS0I (As := [.long (x_make 1 k)]) (rest := []) cx hw hA (f_bitsF l G k) ml_X0_26 st_X0_bits in_X0 co_X0_bits hd_X0_bits rfl ⟨Nat.le_of_ble_eq_true rfl, Nat.le_of_ble_eq_true rfl⟩ hl.1 rfl (Nat.le_of_ble_eq_true rfl) dX0_cut_1 ⟨Nat.le_of_ble_eq_true rfl, Nat.le_of_ble_eq_true rfl⟩ (fun r2 H locs hr2 hw => ?_)
  have h9 := Eq.symm hr2
  subst h9
  refine lv_istore_n (lv' := [(2, .int k), (0, .long (x_make 1 k))]) hx hb dX0_cut_4 rfl hl (by decide) rfl (fun ls hl => ?_)
  refine lv_lload_n hx hb dX0_cut_5 rfl (lv_at hl 1 rfl) ?_
  refine r_callS0I (As := [.long (x_make 1 k)]) (rest := []) cx hw hA (f_kindF l G k) ml_X0_23 st_X0_kind in_X0 co_X0_kind hd_X0_kind rfl ⟨Nat.le_of_ble_eq_true rfl, Nat.le_of_ble_eq_true rfl⟩ hl.1 rfl (Nat.le_of_ble_eq_true rfl) dX0_cut_6 ⟨Nat.le_of_ble_eq_true rfl, Nat.le_of_ble_eq_true rfl⟩ (fun r4 H locs hr4 hw => ?_)
  subst hr4
  refine lv_iconst (v := 1) hx hb dX0_cut_9 (by decide) ?_
  refine lv_icmp_eq (tgt := 15) hx hb dX0_cut_10 (by decide) (fun _ => ?_) (fun c9 => absurd (by decide) c9)
  refine lv_iload_n hx hb dX0_cut_15 rfl (lv_at hl 0 rfl) ?_
  refine r_callS0I (As := [.int k]) (rest := []) cx hw hA (f_isNan l G k) ml_X0_36 st_X0_isNan in_X0 co_X0_isNan hd_X0_isNan rfl ⟨Nat.le_of_ble_eq_true rfl, Nat.le_of_ble_eq_true rfl⟩ hl.1 rfl (Nat.le_of_ble_eq_true rfl) dX0_cut_16 ⟨Nat.le_of_ble_eq_true rfl, Nat.le_of_ble_eq_true rfl⟩ (fun r6 H locs hr6 hw => ?_)
  refine lv_if_eq (tgt := 24) hx hb dX0_cut_19 (by decide) (fun c7 => ?_) (fun c7 => ?_)
  · refine lv_iload_n hx hb dX0_cut_24 rfl (lv_at hl 0 rfl) ?_
    refine r_callS0I (As := [.int k]) (rest := []) cx hw hA (f_lastBitOf l G k) ml_X0_63 st_X0_lastBitOf in_X0 co_X0_lastBitOf hd_X0_lastBitOf rfl ⟨Nat.le_of_ble_eq_true rfl, Nat.le_of_ble_eq_true rfl⟩ hl.1 rfl (Nat.le_of_ble_eq_true rfl) dX0_cut_25 ⟨Nat.le_of_ble_eq_true rfl, Nat.le_of_ble_eq_true rfl⟩ (fun r9 H locs hr9 hw => ?_)
    refine lv_istore_n (lv' := [(3, .int r9), (2, .int k), (0, .long (x_make 1 k))]) hx hb dX0_cut_28 rfl hl (by decide) rfl (fun ls hl => ?_)
    refine lv_iload_n hx hb dX0_cut_29 rfl (lv_at hl 0 rfl) ?_
    refine lv_bipush (v := 7) hx hb dX0_cut_30 (by decide) ?_
    refine lv_icmp_le (tgt := 47) hx hb dX0_cut_32 (by decide) (fun c10 => ?_) (fun c10 => ?_)
    · refine lv_iload_n hx hb dX0_cut_47 rfl (lv_at hl 0 rfl) ?_
      refine lv_bipush (v := (-24)) hx hb dX0_cut_48 (by decide) ?_
      refine lv_icmp_ge (tgt := 55) hx hb dX0_cut_50 (by decide) (fun c11 => ?_) (fun c11 => ?_)
      · refine lv_iload_n hx hb dX0_cut_55 rfl (lv_at hl 0 rfl) ?_
        refine lv_if_lt (tgt := 68) hx hb dX0_cut_56 (by decide) (fun c12 => ?_) (fun c12 => ?_)
        · refine lv_iload_n hx hb dX0_cut_68 rfl (lv_at hl 1 rfl) ?_
          refine r_callS0L (As := [.int k]) (rest := []) cx hw hA (f_wholeOf l G k) ml_X0_67 st_X0_wholeOf in_X0 co_X0_wholeOf hd_X0_wholeOf rfl ⟨Nat.le_of_ble_eq_true rfl, Nat.le_of_ble_eq_true rfl⟩ hl.1 rfl (Nat.le_of_ble_eq_true rfl) dX0_cut_69 ⟨Nat.le_of_ble_eq_true rfl, Nat.le_of_ble_eq_true rfl⟩ (fun r14 H locs hr14 hw => ?_)
          refine lv_iload_n hx hb dX0_cut_72 rfl (lv_at hl 0 rfl) ?_
          refine lv_ineg hx hb dX0_cut_73 ?_
          refine lv_topi (fun v15 ev15 => ?_)
          refine lv_lshr hx hb dX0_cut_74 rfl ?_
          refine lv_topl (fun v16 ev16 => ?_)
          refine lv_l2i hx hb dX0_cut_75 rfl ?_
          refine lv_topi (fun v17 ev17 => ?_)
          refine lv_istore (lv' := [(4, .int v17), (3, .int r9), (2, .int k), (0, .long (x_make 1 k))]) hx hb dX0_cut_76 hl (by decide) rfl (fun ls hl => ?_)
          refine lv_iload_n hx hb dX0_cut_78 rfl (lv_at hl 2 rfl) ?_
          refine lv_if_ge (tgt := 88) hx hb dX0_cut_79 (by decide) (fun c18 => ?_) (fun c18 => ?_)
          · refine lv_iload hx hb dX0_cut_88 (lv_at hl 0 rfl) ?_
            have hw : Wd G A [] s.heap _ _ := hw.sub [] rfl rfl
            exact r_iret cx hr hlk () (by subst hr6 hr9 hr14 ev15 ev16 ev17; rw [x_cut_eq, if_pos c7, if_pos c10, if_pos c11, if_pos c12, if_pos c18]) hw (Nat.le_of_ble_eq_true rfl) (Nat.le_of_ble_eq_true rfl) dX0_cut_90
          · refine lv_iload hx hb dX0_cut_82 (lv_at hl 0 rfl) ?_
            refine lv_ineg hx hb dX0_cut_84 ?_
            refine lv_topi (fun v19 ev19 => ?_)
            refine lv_goto (tgt := 90) hx hb dX0_cut_85 (by decide) ?_
            have hw : Wd G A [] s.heap _ _ := hw.sub [] rfl rfl
            exact r_iret cx hr hlk () (by subst hr6 hr9 hr14 ev15 ev16 ev17 ev19; rw [x_cut_eq, if_pos c7, if_pos c10, if_pos c11, if_pos c12, if_neg c18]) hw (Nat.le_of_ble_eq_true rfl) (Nat.le_of_ble_eq_true rfl) dX0_cut_90
        · refine lv_iload_n hx hb dX0_cut_59 rfl (lv_at hl 1 rfl) ?_
          refine r_callS0L (As := [.int k]) (rest := []) cx hw hA (f_wholeOf l G k) ml_X0_67 st_X0_wholeOf in_X0 co_X0_wholeOf hd_X0_wholeOf rfl ⟨Nat.le_of_ble_eq_true rfl, Nat.le_of_ble_eq_true rfl⟩ hl.1 rfl (Nat.le_of_ble_eq_true rfl) dX0_cut_60 ⟨Nat.le_of_ble_eq_true rfl, Nat.le_of_ble_eq_true rfl⟩ (fun r21 H locs hr21 hw => ?_)
          refine lv_iload_n hx hb dX0_cut_63 rfl (lv_at hl 0 rfl) ?_
          refine lv_lshl hx hb dX0_cut_64 rfl ?_
          refine lv_topl (fun v22 ev22 => ?_)
          refine lv_goto (tgt := 75) hx hb dX0_cut_65 (by decide) ?_
          refine lv_l2i hx hb dX0_cut_75 rfl ?_
          refine lv_topi (fun v23 ev23 => ?_)
          refine lv_istore (lv' := [(4, .int v23), (3, .int r9), (2, .int k), (0, .long (x_make 1 k))]) hx hb dX0_cut_76 hl (by decide) rfl (fun ls hl => ?_)
          refine lv_iload_n hx hb dX0_cut_78 rfl (lv_at hl 2 rfl) ?_
          refine lv_if_ge (tgt := 88) hx hb dX0_cut_79 (by decide) (fun c24 => ?_) (fun c24 => ?_)
          · refine lv_iload hx hb dX0_cut_88 (lv_at hl 0 rfl) ?_
            have hw : Wd G A [] s.heap _ _ := hw.sub [] rfl rfl
            exact r_iret cx hr hlk () (by subst hr6 hr9 hr21 ev22 ev23; rw [x_cut_eq, if_pos c7, if_pos c10, if_pos c11, if_neg c12, if_pos c24]) hw (Nat.le_of_ble_eq_true rfl) (Nat.le_of_ble_eq_true rfl) dX0_cut_90
          · refine lv_iload hx hb dX0_cut_82 (lv_at hl 0 rfl) ?_
            refine lv_ineg hx hb dX0_cut_84 ?_
            refine lv_topi (fun v25 ev25 => ?_)
            refine lv_goto (tgt := 90) hx hb dX0_cut_85 (by decide) ?_
            have hw : Wd G A [] s.heap _ _ := hw.sub [] rfl rfl
            exact r_iret cx hr hlk () (by subst hr6 hr9 hr21 ev22 ev23 ev25; rw [x_cut_eq, if_pos c7, if_pos c10, if_pos c11, if_neg c12, if_neg c24]) hw (Nat.le_of_ble_eq_true rfl) (Nat.le_of_ble_eq_true rfl) dX0_cut_90
      · refine lv_iconst (v := 0) hx hb dX0_cut_53 (by decide) ?_
        have hw : Wd G A [] s.heap _ _ := hw.sub [] rfl rfl
        exact r_iret cx hr hlk () (by subst hr6 hr9; rw [x_cut_eq, if_pos c7, if_pos c10, if_neg c11]) hw (Nat.le_of_ble_eq_true rfl) (Nat.le_of_ble_eq_true rfl) dX0_cut_54
    · refine lv_iload_n hx hb dX0_cut_35 rfl (lv_at hl 1 rfl) ?_
      refine lv_if_ge (tgt := 44) hx hb dX0_cut_36 (by decide) (fun c26 => ?_) (fun c26 => ?_)
      · refine lv_ldc hx hb cx.2.2.2.1 (cx.2.2.2.2.1 _ cs_X0_58) dX0_cut_44 ?_
        have hw : Wd G A [] s.heap _ _ := hw.sub [] rfl rfl
        exact r_iret cx hr hlk () (by subst hr6 hr9; rw [x_cut_eq, if_pos c7, if_neg c10, if_pos c26]) hw (Nat.le_of_ble_eq_true rfl) (Nat.le_of_ble_eq_true rfl) dX0_cut_46
      · refine lv_ldc hx hb cx.2.2.2.1 (cx.2.2.2.2.1 _ cs_X0_51) dX0_cut_39 ?_
        refine lv_goto (tgt := 46) hx hb dX0_cut_41 (by decide) ?_
        have hw : Wd G A [] s.heap _ _ := hw.sub [] rfl rfl
        exact r_iret cx hr hlk () (by subst hr6 hr9; rw [x_cut_eq, if_pos c7, if_neg c10, if_neg c26]) hw (Nat.le_of_ble_eq_true rfl) (Nat.le_of_ble_eq_true rfl) dX0_cut_46
  · refine lv_iconst (v := 0) hx hb dX0_cut_22 (by decide) ?_
    have hw : Wd G A [] s.heap _ _ := hw.sub [] rfl rfl
    exact r_iret cx hr hlk () (by subst hr6; rw [x_cut_eq, if_neg c7]) hw (Nat.le_of_ble_eq_true rfl) (Nat.le_of_ble_eq_true rfl) dX0_cut_23
