theorem x_pack_j1_ex : ∃ f : Int64 → Int32 → Int32, ∀ (wd : Int64) (qe : Int32), f wd qe = ((if ((qe + ((64 : Int32) - (x_nlz64 wd))) - (24 : Int32)) < (-149 : Int32) then (-149 : Int32) else ((qe + ((64 : Int32) - (x_nlz64 wd))) - (24 : Int32)))) := ⟨fun (wd : Int64) (qe : Int32) => ((if ((qe + ((64 : Int32) - (x_nlz64 wd))) - (24 : Int32)) < (-149 : Int32) then (-149 : Int32) else ((qe + ((64 : Int32) - (x_nlz64 wd))) - (24 : Int32)))), fun _ _ => rfl⟩
noncomputable def x_pack_j1 : Int64 → Int32 → Int32 := Classical.choose x_pack_j1_ex
theorem x_pack_j1_eq (wd : Int64) (qe : Int32) : x_pack_j1 wd qe = ((if ((qe + ((64 : Int32) - (x_nlz64 wd))) - (24 : Int32)) < (-149 : Int32) then (-149 : Int32) else ((qe + ((64 : Int32) - (x_nlz64 wd))) - (24 : Int32)))) := Classical.choose_spec x_pack_j1_ex wd qe
theorem x_pack_j2_ex : ∃ f : Int64 → Int32 → Int32, ∀ (wd : Int64) (qe : Int32), f wd qe = (((x_pack_j1 wd qe) - qe)) := ⟨fun (wd : Int64) (qe : Int32) => (((x_pack_j1 wd qe) - qe)), fun _ _ => rfl⟩
noncomputable def x_pack_j2 : Int64 → Int32 → Int32 := Classical.choose x_pack_j2_ex
theorem x_pack_j2_eq (wd : Int64) (qe : Int32) : x_pack_j2 wd qe = (((x_pack_j1 wd qe) - qe)) := Classical.choose_spec x_pack_j2_ex wd qe
theorem x_pack_j3_ex : ∃ f : Int64 → Int32 → Int64, ∀ (wd : Int64) (qe : Int32), f wd qe = (if (0 : Int32) < (x_pack_j2 wd qe) then (if (62 : Int32) < (x_pack_j2 wd qe) then (0 : Int64) else (if (0 : Int32) < (lg_cmp (wd - ((wd >>> ((x_pack_j2 wd qe).toInt64 &&& 63)) <<< ((x_pack_j2 wd qe).toInt64 &&& 63))) ((1 : Int64) <<< (((x_pack_j2 wd qe) - (1 : Int32)).toInt64 &&& 63))) then (((wd >>> ((x_pack_j2 wd qe).toInt64 &&& 63)) + (1 : Int64))) else (if (lg_cmp (wd - ((wd >>> ((x_pack_j2 wd qe).toInt64 &&& 63)) <<< ((x_pack_j2 wd qe).toInt64 &&& 63))) ((1 : Int64) <<< (((x_pack_j2 wd qe) - (1 : Int32)).toInt64 &&& 63))) = (0 : Int32) then (if (lg_cmp ((wd >>> ((x_pack_j2 wd qe).toInt64 &&& 63)) &&& (1 : Int64)) (1 : Int64)) = (0 : Int32) then (((wd >>> ((x_pack_j2 wd qe).toInt64 &&& 63)) + (1 : Int64))) else (((wd >>> ((x_pack_j2 wd qe).toInt64 &&& 63)) + (0 : Int64)))) else (((wd >>> ((x_pack_j2 wd qe).toInt64 &&& 63)) + (0 : Int64)))))) else ((wd <<< ((-(x_pack_j2 wd qe)).toInt64 &&& 63)))) := ⟨fun (wd : Int64) (qe : Int32) => (if (0 : Int32) < (x_pack_j2 wd qe) then (if (62 : Int32) < (x_pack_j2 wd qe) then (0 : Int64) else (if (0 : Int32) < (lg_cmp (wd - ((wd >>> ((x_pack_j2 wd qe).toInt64 &&& 63)) <<< ((x_pack_j2 wd qe).toInt64 &&& 63))) ((1 : Int64) <<< (((x_pack_j2 wd qe) - (1 : Int32)).toInt64 &&& 63))) then (((wd >>> ((x_pack_j2 wd qe).toInt64 &&& 63)) + (1 : Int64))) else (if (lg_cmp (wd - ((wd >>> ((x_pack_j2 wd qe).toInt64 &&& 63)) <<< ((x_pack_j2 wd qe).toInt64 &&& 63))) ((1 : Int64) <<< (((x_pack_j2 wd qe) - (1 : Int32)).toInt64 &&& 63))) = (0 : Int32) then (if (lg_cmp ((wd >>> ((x_pack_j2 wd qe).toInt64 &&& 63)) &&& (1 : Int64)) (1 : Int64)) = (0 : Int32) then (((wd >>> ((x_pack_j2 wd qe).toInt64 &&& 63)) + (1 : Int64))) else (((wd >>> ((x_pack_j2 wd qe).toInt64 &&& 63)) + (0 : Int64)))) else (((wd >>> ((x_pack_j2 wd qe).toInt64 &&& 63)) + (0 : Int64)))))) else ((wd <<< ((-(x_pack_j2 wd qe)).toInt64 &&& 63)))), fun _ _ => rfl⟩
noncomputable def x_pack_j3 : Int64 → Int32 → Int64 := Classical.choose x_pack_j3_ex
theorem x_pack_j3_eq (wd : Int64) (qe : Int32) : x_pack_j3 wd qe = (if (0 : Int32) < (x_pack_j2 wd qe) then (if (62 : Int32) < (x_pack_j2 wd qe) then (0 : Int64) else (if (0 : Int32) < (lg_cmp (wd - ((wd >>> ((x_pack_j2 wd qe).toInt64 &&& 63)) <<< ((x_pack_j2 wd qe).toInt64 &&& 63))) ((1 : Int64) <<< (((x_pack_j2 wd qe) - (1 : Int32)).toInt64 &&& 63))) then (((wd >>> ((x_pack_j2 wd qe).toInt64 &&& 63)) + (1 : Int64))) else (if (lg_cmp (wd - ((wd >>> ((x_pack_j2 wd qe).toInt64 &&& 63)) <<< ((x_pack_j2 wd qe).toInt64 &&& 63))) ((1 : Int64) <<< (((x_pack_j2 wd qe) - (1 : Int32)).toInt64 &&& 63))) = (0 : Int32) then (if (lg_cmp ((wd >>> ((x_pack_j2 wd qe).toInt64 &&& 63)) &&& (1 : Int64)) (1 : Int64)) = (0 : Int32) then (((wd >>> ((x_pack_j2 wd qe).toInt64 &&& 63)) + (1 : Int64))) else (((wd >>> ((x_pack_j2 wd qe).toInt64 &&& 63)) + (0 : Int64)))) else (((wd >>> ((x_pack_j2 wd qe).toInt64 &&& 63)) + (0 : Int64)))))) else ((wd <<< ((-(x_pack_j2 wd qe)).toInt64 &&& 63)))) := Classical.choose_spec x_pack_j3_ex wd qe
theorem x_pack_j4a_ex : ∃ f : Int64 → Int32 → Int64, ∀ (wd : Int64) (qe : Int32), f wd qe = (if (lg_cmp (x_pack_j3 wd qe) (16777216 : Int64)) < (0 : Int32) then ((x_pack_j3 wd qe)) else (((x_pack_j3 wd qe) >>> ((1 : Int32).toInt64 &&& 63)))) := ⟨fun (wd : Int64) (qe : Int32) => (if (lg_cmp (x_pack_j3 wd qe) (16777216 : Int64)) < (0 : Int32) then ((x_pack_j3 wd qe)) else (((x_pack_j3 wd qe) >>> ((1 : Int32).toInt64 &&& 63)))), fun _ _ => rfl⟩
noncomputable def x_pack_j4a : Int64 → Int32 → Int64 := Classical.choose x_pack_j4a_ex
theorem x_pack_j4a_eq (wd : Int64) (qe : Int32) : x_pack_j4a wd qe = (if (lg_cmp (x_pack_j3 wd qe) (16777216 : Int64)) < (0 : Int32) then ((x_pack_j3 wd qe)) else (((x_pack_j3 wd qe) >>> ((1 : Int32).toInt64 &&& 63)))) := Classical.choose_spec x_pack_j4a_ex wd qe
theorem x_pack_j4b_ex : ∃ f : Int64 → Int32 → Int32, ∀ (wd : Int64) (qe : Int32), f wd qe = (if (lg_cmp (x_pack_j3 wd qe) (16777216 : Int64)) < (0 : Int32) then ((x_pack_j1 wd qe)) else (((x_pack_j1 wd qe) + 1))) := ⟨fun (wd : Int64) (qe : Int32) => (if (lg_cmp (x_pack_j3 wd qe) (16777216 : Int64)) < (0 : Int32) then ((x_pack_j1 wd qe)) else (((x_pack_j1 wd qe) + 1))), fun _ _ => rfl⟩
noncomputable def x_pack_j4b : Int64 → Int32 → Int32 := Classical.choose x_pack_j4b_ex
theorem x_pack_j4b_eq (wd : Int64) (qe : Int32) : x_pack_j4b wd qe = (if (lg_cmp (x_pack_j3 wd qe) (16777216 : Int64)) < (0 : Int32) then ((x_pack_j1 wd qe)) else (((x_pack_j1 wd qe) + 1))) := Classical.choose_spec x_pack_j4b_ex wd qe
theorem x_pack_j5_ex : ∃ f : Int64 → Int32 → Int32, ∀ (wd : Int64) (qe : Int32), f wd qe = (if (0 : Int32) ≤ (lg_cmp (x_pack_j4a wd qe) (8388608 : Int64)) then (((x_pack_j4b wd qe) + (150 : Int32))) else (0 : Int32)) := ⟨fun (wd : Int64) (qe : Int32) => (if (0 : Int32) ≤ (lg_cmp (x_pack_j4a wd qe) (8388608 : Int64)) then (((x_pack_j4b wd qe) + (150 : Int32))) else (0 : Int32)), fun _ _ => rfl⟩
noncomputable def x_pack_j5 : Int64 → Int32 → Int32 := Classical.choose x_pack_j5_ex
theorem x_pack_j5_eq (wd : Int64) (qe : Int32) : x_pack_j5 wd qe = (if (0 : Int32) ≤ (lg_cmp (x_pack_j4a wd qe) (8388608 : Int64)) then (((x_pack_j4b wd qe) + (150 : Int32))) else (0 : Int32)) := Classical.choose_spec x_pack_j5_ex wd qe
theorem x_pack_ex : ∃ f : Int32 → Int64 → Int32 → Int32, ∀ (sg : Int32) (wd : Int64) (qe : Int32), f sg wd qe = (if (lg_cmp wd (0 : Int64)) = (0 : Int32) then ((sg <<< ((31 : Int32) &&& 31))) else (if ((x_pack_j4b wd qe) + (150 : Int32)) < (255 : Int32) then ((((sg <<< ((31 : Int32) &&& 31)) ||| ((x_pack_j5 wd qe) <<< ((23 : Int32) &&& 31))) ||| ((x_pack_j4a wd qe).toInt32 &&& (8388607 : Int32)))) else (((sg <<< ((31 : Int32) &&& 31)) ||| (2139095040 : Int32))))) := ⟨fun (sg : Int32) (wd : Int64) (qe : Int32) => (if (lg_cmp wd (0 : Int64)) = (0 : Int32) then ((sg <<< ((31 : Int32) &&& 31))) else (if ((x_pack_j4b wd qe) + (150 : Int32)) < (255 : Int32) then ((((sg <<< ((31 : Int32) &&& 31)) ||| ((x_pack_j5 wd qe) <<< ((23 : Int32) &&& 31))) ||| ((x_pack_j4a wd qe).toInt32 &&& (8388607 : Int32)))) else (((sg <<< ((31 : Int32) &&& 31)) ||| (2139095040 : Int32))))), fun _ _ _ => rfl⟩
noncomputable def x_pack : Int32 → Int64 → Int32 → Int32 := Classical.choose x_pack_ex
theorem x_pack_eq (sg : Int32) (wd : Int64) (qe : Int32) : x_pack sg wd qe = (if (lg_cmp wd (0 : Int64)) = (0 : Int32) then ((sg <<< ((31 : Int32) &&& 31))) else (if ((x_pack_j4b wd qe) + (150 : Int32)) < (255 : Int32) then ((((sg <<< ((31 : Int32) &&& 31)) ||| ((x_pack_j5 wd qe) <<< ((23 : Int32) &&& 31))) ||| ((x_pack_j4a wd qe).toInt32 &&& (8388607 : Int32)))) else (((sg <<< ((31 : Int32) &&& 31)) ||| (2139095040 : Int32))))) := Classical.choose_spec x_pack_ex sg wd qe
set_option maxHeartbeats 4000000 in
set_option maxRecDepth 100000 in
theorem f_pack (l : Launch) (G : Gt) (sg : Int32) (wd : Int64) (qe : Int32) : Mt l yX0_pack cX0_pack 13 (some .int) ({ frames := 2, cells := 0, slots := 0, locals := 43 } : Room) G [.int sg, .long wd, .int qe] [] (qI G (fun (r : Int32) (w : Unit) => r = x_pack sg wd qe) (fun w => [])) := by
  refine Mt.of (own := RX0) (cc := cX0_pack) (by decide) rfl (Nat.le_of_ble_eq_true rfl) ?_
  intro p e s m below meth c A ls cx hr hlk hmn hA hl hw
  have hx := cx.1
  have hb := cx.2.1
  have hl : lv_has ls 13 [(0, .int sg), (1, .long wd), (3, .int qe)] := hl
  refine lv_lload_n hx hb dX0_pack_0 rfl (lv_at hl 1 rfl) ?_
  refine lv_lconst (v := 0) hx hb dX0_pack_1 (by decide) ?_
  refine W.lcmp hx hb dX0_pack_2 ?_
  refine lv_topi (fun v1 ev1 => ?_)
  refine lv_if_ne (tgt := 11) hx hb dX0_pack_3 (by decide) (fun c2 => ?_) (fun c2 => ?_)
  · refine lv_bipush (v := 64) hx hb dX0_pack_11 (by decide) ?_
    refine lv_lload_n hx hb dX0_pack_13 rfl (lv_at hl 1 rfl) ?_
    refine r_callS0I (As := [.long wd]) (rest := [.int 64]) cx hw hA (f_nlz64 l G wd) ml_X0_77 st_J13_numberOfLeadingZeros_95d88 in_J13 co_J13_numberOfLeadingZeros_95d88 hd_J13_numberOfLeadingZeros_95d88 rfl ⟨Nat.le_of_ble_eq_true rfl, Nat.le_of_ble_eq_true rfl⟩ hl.1 rfl (Nat.le_of_ble_eq_true rfl) dX0_pack_14 ⟨Nat.le_of_ble_eq_true rfl, Nat.le_of_ble_eq_true rfl⟩ (fun r4 H locs hr4 hw => ?_)
    refine lv_isub hx hb dX0_pack_17 ?_
    refine lv_topi (fun v5 ev5 => ?_)
    refine lv_istore (lv' := [(4, .int v5), (0, .int sg), (1, .long wd), (3, .int qe)]) hx hb dX0_pack_18 hl (by decide) rfl (fun ls hl => ?_)
    refine lv_iload_n hx hb dX0_pack_20 rfl (lv_at hl 3 rfl) ?_
    refine lv_iload hx hb dX0_pack_21 (lv_at hl 0 rfl) ?_
    refine lv_iadd hx hb dX0_pack_23 ?_
    refine lv_topi (fun v6 ev6 => ?_)
    refine lv_bipush (v := 24) hx hb dX0_pack_24 (by decide) ?_
    refine lv_isub hx hb dX0_pack_26 ?_
    refine lv_topi (fun v7 ev7 => ?_)
    refine lv_sipush (v := (-149)) hx hb dX0_pack_27 (by decide) ?_
    refine r_mmax cx ml_X0_82 hl.1 (Nat.le_of_ble_eq_true rfl) (Nat.le_of_ble_eq_true rfl) (Nat.le_of_ble_eq_true rfl) (Nat.le_of_ble_eq_true rfl) rfl dX0_pack_30 ?_
    refine lv_topi (fun v8 ev8 => ?_)
    refine jn1 (E := (x_pack_j1 wd qe)) (pcJ := 35) (nL := 13) (lv := fun j1 => [(0, .int sg), (1, .long wd), (3, .int qe), (5, .int j1)]) (sk := fun j1 => []) (fun K1 => ?_) ?_
    · refine lv_istore (lv' := [(5, .int v8), (4, .int v5), (0, .int sg), (1, .long wd), (3, .int qe)]) hx hb dX0_pack_33 hl (by decide) rfl (fun ls hl => ?_)
      exact K1 v8 ls (by subst ev1 hr4 ev5 ev6 ev7 ev8; rw [x_pack_j1_eq]) (lv_sub hl [2, 3, 4, 0] rfl)
    · intro j1 ls ej1 hl
      refine lv_iload hx hb dX0_pack_35 (lv_at hl 3 rfl) ?_
      refine lv_iload_n hx hb dX0_pack_37 rfl (lv_at hl 2 rfl) ?_
      refine jn1 (E := (x_pack_j2 wd qe)) (pcJ := 41) (nL := 13) (lv := fun j2 => [(0, .int sg), (1, .long wd), (3, .int qe), (5, .int j1), (6, .int j2)]) (sk := fun j2 => []) (fun K2 => ?_) ?_
      · refine lv_isub hx hb dX0_pack_38 ?_
        refine lv_topi (fun v9 ev9 => ?_)
        refine lv_istore (lv' := [(6, .int v9), (0, .int sg), (1, .long wd), (3, .int qe), (5, .int j1)]) hx hb dX0_pack_39 hl (by decide) rfl (fun ls hl => ?_)
        exact K2 v9 ls (by subst ev1 hr4 ev5 ev6 ev7 ev8 ej1 ev9; rw [x_pack_j2_eq]) (lv_sub hl [1, 2, 3, 4, 0] rfl)
      · intro j2 ls ej2 hl
        refine lv_lconst (v := 0) hx hb dX0_pack_41 (by decide) ?_
        refine lv_lstore (lv' := [(7, .long 0), (0, .int sg), (1, .long wd), (3, .int qe), (5, .int j1), (6, .int j2)]) hx hb dX0_pack_42 hl (by decide) rfl (fun ls hl => ?_)
        refine jn1 (E := (x_pack_j3 wd qe)) (pcJ := 124) (nL := 13) (lv := fun j3 => [(0, .int sg), (1, .long wd), (3, .int qe), (5, .int j1), (7, .long j3)]) (sk := fun j3 => []) (fun K3 => ?_) ?_
        · refine lv_iload hx hb dX0_pack_44 (lv_at hl 5 rfl) ?_
          refine lv_if_gt (tgt := 59) hx hb dX0_pack_46 (by decide) (fun c10 => ?_) (fun c10 => ?_)
          · refine lv_iload hx hb dX0_pack_59 (lv_at hl 5 rfl) ?_
            refine lv_bipush (v := 62) hx hb dX0_pack_61 (by decide) ?_
            refine lv_icmp_gt (tgt := 124) hx hb dX0_pack_63 (by decide) (fun c11 => ?_) (fun c11 => ?_)
            · exact K3 (0 : Int64) ls (by subst ev1 hr4 ev5 ev6 ev7 ev8 ej1 ej2; rw [x_pack_j3_eq, if_pos c10, if_pos c11]) (lv_sub hl [1, 2, 3, 4, 0] rfl)
            · refine lv_lload_n hx hb dX0_pack_66 rfl (lv_at hl 2 rfl) ?_
              refine lv_iload hx hb dX0_pack_67 (lv_at hl 5 rfl) ?_
              refine lv_lshr hx hb dX0_pack_69 rfl ?_
              refine lv_topl (fun v12 ev12 => ?_)
              refine lv_lstore (lv' := [(7, .long v12), (0, .int sg), (1, .long wd), (3, .int qe), (5, .int j1), (6, .int j2)]) hx hb dX0_pack_70 hl (by decide) rfl (fun ls hl => ?_)
              refine lv_lload_n hx hb dX0_pack_72 rfl (lv_at hl 2 rfl) ?_
              refine lv_lload hx hb dX0_pack_73 (lv_at hl 0 rfl) ?_
              refine lv_iload hx hb dX0_pack_75 (lv_at hl 5 rfl) ?_
              refine lv_lshl hx hb dX0_pack_77 rfl ?_
              refine lv_topl (fun v13 ev13 => ?_)
              refine lv_lsub hx hb dX0_pack_78 ?_
              refine lv_topl (fun v14 ev14 => ?_)
              refine lv_lstore (lv' := [(9, .long v14), (7, .long v12), (0, .int sg), (1, .long wd), (3, .int qe), (5, .int j1), (6, .int j2)]) hx hb dX0_pack_79 hl (by decide) rfl (fun ls hl => ?_)
              refine lv_lconst (v := 1) hx hb dX0_pack_81 (by decide) ?_
              refine lv_iload hx hb dX0_pack_82 (lv_at hl 6 rfl) ?_
              refine lv_iconst (v := 1) hx hb dX0_pack_84 (by decide) ?_
              refine lv_isub hx hb dX0_pack_85 ?_
              refine lv_topi (fun v15 ev15 => ?_)
              refine lv_lshl hx hb dX0_pack_86 rfl ?_
              refine lv_topl (fun v16 ev16 => ?_)
              refine lv_lstore (lv' := [(11, .long v16), (9, .long v14), (7, .long v12), (0, .int sg), (1, .long wd), (3, .int qe), (5, .int j1), (6, .int j2)]) hx hb dX0_pack_87 hl (by decide) rfl (fun ls hl => ?_)
              refine lv_lload hx hb dX0_pack_89 (lv_at hl 2 rfl) ?_
              refine lv_lload hx hb dX0_pack_91 (lv_at hl 1 rfl) ?_
              refine lv_lload hx hb dX0_pack_93 (lv_at hl 0 rfl) ?_
              refine W.lcmp hx hb dX0_pack_95 ?_
              refine lv_topi (fun v17 ev17 => ?_)
              refine lv_if_gt (tgt := 116) hx hb dX0_pack_96 (by decide) (fun c18 => ?_) (fun c18 => ?_)
              · refine lv_lconst (v := 1) hx hb dX0_pack_116 (by decide) ?_
                refine lv_goto (tgt := 121) hx hb dX0_pack_117 (by decide) ?_
                refine lv_ladd hx hb dX0_pack_121 ?_
                refine lv_topl (fun v19 ev19 => ?_)
                refine lv_lstore (lv' := [(7, .long v19), (11, .long v16), (9, .long v14), (0, .int sg), (1, .long wd), (3, .int qe), (5, .int j1), (6, .int j2)]) hx hb dX0_pack_122 hl (by decide) rfl (fun ls hl => ?_)
                exact K3 v19 ls (by subst ev1 hr4 ev5 ev6 ev7 ev8 ej1 ej2 ev12 ev13 ev14 ev15 ev16 ev17 ev19; rw [x_pack_j3_eq, if_pos c10, if_neg c11, if_pos c18]) (lv_sub hl [3, 4, 5, 6, 0] rfl)
              · refine lv_lload hx hb dX0_pack_99 (lv_at hl 1 rfl) ?_
                refine lv_lload hx hb dX0_pack_101 (lv_at hl 0 rfl) ?_
                refine W.lcmp hx hb dX0_pack_103 ?_
                refine lv_topi (fun v20 ev20 => ?_)
                refine lv_if_ne (tgt := 120) hx hb dX0_pack_104 (by decide) (fun c21 => ?_) (fun c21 => ?_)
                · refine lv_lconst (v := 0) hx hb dX0_pack_120 (by decide) ?_
                  refine lv_ladd hx hb dX0_pack_121 ?_
                  refine lv_topl (fun v22 ev22 => ?_)
                  refine lv_lstore (lv' := [(7, .long v22), (11, .long v16), (9, .long v14), (0, .int sg), (1, .long wd), (3, .int qe), (5, .int j1), (6, .int j2)]) hx hb dX0_pack_122 hl (by decide) rfl (fun ls hl => ?_)
                  exact K3 v22 ls (by subst ev1 hr4 ev5 ev6 ev7 ev8 ej1 ej2 ev12 ev13 ev14 ev15 ev16 ev17 ev20 ev22; rw [x_pack_j3_eq, if_pos c10, if_neg c11, if_neg c18, if_neg c21]) (lv_sub hl [3, 4, 5, 6, 0] rfl)
                · refine lv_lload hx hb dX0_pack_107 (lv_at hl 2 rfl) ?_
                  refine lv_lconst (v := 1) hx hb dX0_pack_109 (by decide) ?_
                  refine lv_land hx hb dX0_pack_110 ?_
                  refine lv_topl (fun v23 ev23 => ?_)
                  refine lv_lconst (v := 1) hx hb dX0_pack_111 (by decide) ?_
                  refine W.lcmp hx hb dX0_pack_112 ?_
                  refine lv_topi (fun v24 ev24 => ?_)
                  refine lv_if_ne (tgt := 120) hx hb dX0_pack_113 (by decide) (fun c25 => ?_) (fun c25 => ?_)
                  · refine lv_lconst (v := 0) hx hb dX0_pack_120 (by decide) ?_
                    refine lv_ladd hx hb dX0_pack_121 ?_
                    refine lv_topl (fun v26 ev26 => ?_)
                    refine lv_lstore (lv' := [(7, .long v26), (11, .long v16), (9, .long v14), (0, .int sg), (1, .long wd), (3, .int qe), (5, .int j1), (6, .int j2)]) hx hb dX0_pack_122 hl (by decide) rfl (fun ls hl => ?_)
                    exact K3 v26 ls (by subst ev1 hr4 ev5 ev6 ev7 ev8 ej1 ej2 ev12 ev13 ev14 ev15 ev16 ev17 ev20 ev23 ev24 ev26; rw [x_pack_j3_eq, if_pos c10, if_neg c11, if_neg c18, if_pos c21, if_neg c25]) (lv_sub hl [3, 4, 5, 6, 0] rfl)
                  · refine lv_lconst (v := 1) hx hb dX0_pack_116 (by decide) ?_
                    refine lv_goto (tgt := 121) hx hb dX0_pack_117 (by decide) ?_
                    refine lv_ladd hx hb dX0_pack_121 ?_
                    refine lv_topl (fun v27 ev27 => ?_)
                    refine lv_lstore (lv' := [(7, .long v27), (11, .long v16), (9, .long v14), (0, .int sg), (1, .long wd), (3, .int qe), (5, .int j1), (6, .int j2)]) hx hb dX0_pack_122 hl (by decide) rfl (fun ls hl => ?_)
                    exact K3 v27 ls (by subst ev1 hr4 ev5 ev6 ev7 ev8 ej1 ej2 ev12 ev13 ev14 ev15 ev16 ev17 ev20 ev23 ev24 ev27; rw [x_pack_j3_eq, if_pos c10, if_neg c11, if_neg c18, if_pos c21, if_pos c25]) (lv_sub hl [3, 4, 5, 6, 0] rfl)
          · refine lv_lload_n hx hb dX0_pack_49 rfl (lv_at hl 2 rfl) ?_
            refine lv_iload hx hb dX0_pack_50 (lv_at hl 5 rfl) ?_
            refine lv_ineg hx hb dX0_pack_52 ?_
            refine lv_topi (fun v28 ev28 => ?_)
            refine lv_lshl hx hb dX0_pack_53 rfl ?_
            refine lv_topl (fun v29 ev29 => ?_)
            refine lv_lstore (lv' := [(7, .long v29), (0, .int sg), (1, .long wd), (3, .int qe), (5, .int j1), (6, .int j2)]) hx hb dX0_pack_54 hl (by decide) rfl (fun ls hl => ?_)
            refine lv_goto (tgt := 124) hx hb dX0_pack_56 (by decide) ?_
            exact K3 v29 ls (by subst ev1 hr4 ev5 ev6 ev7 ev8 ej1 ej2 ev28 ev29; rw [x_pack_j3_eq, if_neg c10]) (lv_sub hl [1, 2, 3, 4, 0] rfl)
        · intro j3 ls ej3 hl
          refine jn2 (E1 := (x_pack_j4a wd qe)) (E2 := (x_pack_j4b wd qe)) (pcJ := 142) (nL := 13) (lv := fun j4a j4b => [(0, .int sg), (1, .long wd), (3, .int qe), (7, .long j4a), (5, .int j4b)]) (sk := fun j4a j4b => []) (fun K4 => ?_) ?_
          · refine lv_lload hx hb dX0_pack_124 (lv_at hl 4 rfl) ?_
            refine lv_ldc2 hx hb cx.2.2.2.1 (cx.2.2.2.2.1 _ cs_X0_87) dX0_pack_126 ?_
            refine W.lcmp hx hb dX0_pack_129 ?_
            refine lv_topi (fun v30 ev30 => ?_)
            refine lv_if_lt (tgt := 142) hx hb dX0_pack_130 (by decide) (fun c31 => ?_) (fun c31 => ?_)
            · exact K4 j3 j1 ls (by subst ev1 hr4 ev5 ev6 ev7 ev8 ej1 ej2 ej3 ev30; rw [x_pack_j4a_eq, if_pos c31]) (by subst ev1 hr4 ev5 ev6 ev7 ev8 ej1 ej2 ej3 ev30; rw [x_pack_j4b_eq, if_pos c31]) (lv_sub hl [0, 1, 2, 4, 3] rfl)
            · refine lv_lload hx hb dX0_pack_133 (lv_at hl 4 rfl) ?_
              refine lv_iconst (v := 1) hx hb dX0_pack_135 (by decide) ?_
              refine lv_lshr hx hb dX0_pack_136 rfl ?_
              refine lv_topl (fun v32 ev32 => ?_)
              refine lv_lstore (lv' := [(7, .long v32), (0, .int sg), (1, .long wd), (3, .int qe), (5, .int j1)]) hx hb dX0_pack_137 hl (by decide) rfl (fun ls hl => ?_)
              obtain ⟨v33, ev33⟩ : ∃ y : Int32, y = j1 + 1 := ⟨_, rfl⟩
              refine lv_iinc (v := v33) (lv' := [(5, .int v33), (7, .long v32), (0, .int sg), (1, .long wd), (3, .int qe)]) hx hb dX0_pack_139 hl (k := 4) rfl (by rw [ev33]; rfl) (by decide) rfl (fun ls hl => ?_)
              exact K4 v32 v33 ls (by subst ev1 hr4 ev5 ev6 ev7 ev8 ej1 ej2 ej3 ev30 ev32 ev33; rw [x_pack_j4a_eq, if_neg c31]) (by subst ev1 hr4 ev5 ev6 ev7 ev8 ej1 ej2 ej3 ev30 ev32 ev33; rw [x_pack_j4b_eq, if_neg c31]) (lv_sub hl [2, 3, 4, 1, 0] rfl)
          · intro j4a j4b ls ej4a ej4b hl
            refine lv_iload hx hb dX0_pack_142 (lv_at hl 4 rfl) ?_
            refine lv_sipush (v := 150) hx hb dX0_pack_144 (by decide) ?_
            refine lv_iadd hx hb dX0_pack_147 ?_
            refine lv_topi (fun v34 ev34 => ?_)
            refine lv_sipush (v := 255) hx hb dX0_pack_148 (by decide) ?_
            refine lv_icmp_lt (tgt := 162) hx hb dX0_pack_151 (by decide) (fun c35 => ?_) (fun c35 => ?_)
            · refine jn1 (E := (x_pack_j5 wd qe)) (pcJ := 181) (nL := 13) (lv := fun j5 => [(0, .int sg), (7, .long j4a)]) (sk := fun j5 => [.int j5]) (fun K5 => ?_) ?_
              · refine lv_lload hx hb dX0_pack_162 (lv_at hl 3 rfl) ?_
                refine lv_ldc2 hx hb cx.2.2.2.1 (cx.2.2.2.2.1 _ cs_X0_89) dX0_pack_164 ?_
                refine W.lcmp hx hb dX0_pack_167 ?_
                refine lv_topi (fun v36 ev36 => ?_)
                refine lv_if_ge (tgt := 175) hx hb dX0_pack_168 (by decide) (fun c37 => ?_) (fun c37 => ?_)
                · refine lv_iload hx hb dX0_pack_175 (lv_at hl 4 rfl) ?_
                  refine lv_sipush (v := 150) hx hb dX0_pack_177 (by decide) ?_
                  refine lv_iadd hx hb dX0_pack_180 ?_
                  refine lv_topi (fun v38 ev38 => ?_)
                  exact K5 v38 ls (by subst ev1 hr4 ev5 ev6 ev7 ev8 ej1 ej2 ej3 ej4a ej4b ev34 ev36 ev38; rw [x_pack_j5_eq, if_pos c37]) (lv_sub hl [0, 3] rfl)
                · refine lv_iconst (v := 0) hx hb dX0_pack_171 (by decide) ?_
                  refine lv_goto (tgt := 181) hx hb dX0_pack_172 (by decide) ?_
                  exact K5 (0 : Int32) ls (by subst ev1 hr4 ev5 ev6 ev7 ev8 ej1 ej2 ej3 ej4a ej4b ev34 ev36; rw [x_pack_j5_eq, if_neg c37]) (lv_sub hl [0, 3] rfl)
              · intro j5 ls ej5 hl
                refine lv_istore (lv' := [(9, .int j5), (0, .int sg), (7, .long j4a)]) hx hb dX0_pack_181 hl (by decide) rfl (fun ls hl => ?_)
                refine lv_iload_n hx hb dX0_pack_183 rfl (lv_at hl 1 rfl) ?_
                refine lv_bipush (v := 31) hx hb dX0_pack_184 (by decide) ?_
                refine lv_ishl hx hb dX0_pack_186 ?_
                refine lv_topi (fun v39 ev39 => ?_)
                refine lv_iload hx hb dX0_pack_187 (lv_at hl 0 rfl) ?_
                refine lv_bipush (v := 23) hx hb dX0_pack_189 (by decide) ?_
                refine lv_ishl hx hb dX0_pack_191 ?_
                refine lv_topi (fun v40 ev40 => ?_)
                refine lv_ior hx hb dX0_pack_192 ?_
                refine lv_topi (fun v41 ev41 => ?_)
                refine lv_lload hx hb dX0_pack_193 (lv_at hl 2 rfl) ?_
                refine lv_l2i hx hb dX0_pack_195 rfl ?_
                refine lv_topi (fun v42 ev42 => ?_)
                refine lv_ldc hx hb cx.2.2.2.1 (cx.2.2.2.2.1 _ cs_X0_75) dX0_pack_196 ?_
                refine lv_iand hx hb dX0_pack_198 ?_
                refine lv_topi (fun v43 ev43 => ?_)
                refine lv_ior hx hb dX0_pack_199 ?_
                refine lv_topi (fun v44 ev44 => ?_)
                have hw : Wd G A [] s.heap _ _ := hw.sub [] rfl rfl
                exact r_iret cx hr hlk () (by subst ev1 hr4 ev5 ev6 ev7 ev8 ej1 ej2 ej3 ej4a ej4b ev34 ej5 ev39 ev40 ev41 ev42 ev43 ev44; rw [x_pack_eq, if_neg c2, if_pos c35]) hw (Nat.le_of_ble_eq_true rfl) (Nat.le_of_ble_eq_true rfl) dX0_pack_200
            · refine lv_iload_n hx hb dX0_pack_154 rfl (lv_at hl 0 rfl) ?_
              refine lv_bipush (v := 31) hx hb dX0_pack_155 (by decide) ?_
              refine lv_ishl hx hb dX0_pack_157 ?_
              refine lv_topi (fun v45 ev45 => ?_)
              refine lv_ldc hx hb cx.2.2.2.1 (cx.2.2.2.2.1 _ cs_X0_71) dX0_pack_158 ?_
              refine lv_ior hx hb dX0_pack_160 ?_
              refine lv_topi (fun v46 ev46 => ?_)
              have hw : Wd G A [] s.heap _ _ := hw.sub [] rfl rfl
              exact r_iret cx hr hlk () (by subst ev1 hr4 ev5 ev6 ev7 ev8 ej1 ej2 ej3 ej4a ej4b ev34 ev45 ev46; rw [x_pack_eq, if_neg c2, if_neg c35]) hw (Nat.le_of_ble_eq_true rfl) (Nat.le_of_ble_eq_true rfl) dX0_pack_161
  · refine lv_iload_n hx hb dX0_pack_6 rfl (lv_at hl 0 rfl) ?_
    refine lv_bipush (v := 31) hx hb dX0_pack_7 (by decide) ?_
    refine lv_ishl hx hb dX0_pack_9 ?_
    refine lv_topi (fun v47 ev47 => ?_)
    have hw : Wd G A [] s.heap _ _ := hw.sub [] rfl rfl
    exact r_iret cx hr hlk () (by subst ev1 ev47; rw [x_pack_eq, if_pos c2]) hw (Nat.le_of_ble_eq_true rfl) (Nat.le_of_ble_eq_true rfl) dX0_pack_10
