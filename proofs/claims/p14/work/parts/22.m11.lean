theorem p_X12_runItem_ex : ∃ f : Int32 → Mem → Option (Int32 × Mem), ∀ (a1 : Int32) (μ : Mem), f a1 μ = gd (inb a1 960) (bv (μ.1 51 a1.toNatClampNeg) (fun v1 => gd (inb a1 960) ((if (μ.1 46 a1.toNatClampNeg) = (6 : Int32) then bd (p_X12_valueOf v1 μ) (fun r5 μ4 => bd (p_X12_num r5 μ4) (fun r7 μ6 => gd (inb r7 100000) (gd (inb r7 100000) ((if (s_X12_isTrue (μ6.1 30 r7.toNatClampNeg) (μ6.1 31 r7.toNatClampNeg)) = (0 : Int32) then gd (inb a1 960) (some (((μ6.1 49 a1.toNatClampNeg) + (1 : Int32)), μ6)) else some ((a1 + (1 : Int32)), μ6)))))) else (if (μ.1 46 a1.toNatClampNeg) = (7 : Int32) then bd (p_X12_valueOf v1 μ) (fun r11 μ10 => bd (p_X12_num r11 μ10) (fun r13 μ12 => bw (p_X12_show r13 μ12) (fun μ14 => some ((a1 + (1 : Int32)), μ14)))) else (if (μ.1 46 a1.toNatClampNeg) = (8 : Int32) then bd (p_X12_itemValue a1 v1 μ) (fun r18 μ17 => bw (p_X12_hold a1 r18 μ17) (fun μ19 => some ((a1 + (1 : Int32)), μ19))) else (if (μ.1 46 a1.toNatClampNeg) = (9 : Int32) then bd (p_X12_itemValue a1 v1 μ) (fun r23 μ22 => bw (p_X12_hold a1 r23 μ22) (fun μ24 => some ((a1 + (1 : Int32)), μ24))) else (if (μ.1 46 a1.toNatClampNeg) = (10 : Int32) then bd (p_X12_itemValue a1 v1 μ) (fun r28 μ27 => bw (p_X12_hold a1 r28 μ27) (fun μ29 => some ((a1 + (1 : Int32)), μ29))) else (if (μ.1 46 a1.toNatClampNeg) = (11 : Int32) then bd (p_X12_runCall a1 μ) (fun r33 μ32 => some (r33, μ32)) else (if (μ.1 46 a1.toNatClampNeg) = (12 : Int32) then bv (sF μ 0 68 (4 : Int32)) (fun μ35 => some (a1, μ35)) else (if (μ.1 46 a1.toNatClampNeg) = (13 : Int32) then gd (inb a1 960) (bd (p_X12_valueOf v1 μ) (fun r38 μ37 => bw (p_X12_hold (μ.1 48 a1.toNatClampNeg) r38 μ37) (fun μ39 => gd (inb a1 960) (gd (inb (μ39.1 48 a1.toNatClampNeg) 960) (some (((μ39.1 50 (μ39.1 48 a1.toNatClampNeg).toNatClampNeg) + (1 : Int32)), μ39)))))) else (if (μ.1 46 a1.toNatClampNeg) = (14 : Int32) then gd (inb a1 960) (bd (p_X12_valueOf v1 μ) (fun r43 μ42 => bw (p_X12_hold (μ.1 48 a1.toNatClampNeg) r43 μ42) (fun μ44 => gd (inb a1 960) (gd (inb (μ44.1 48 a1.toNatClampNeg) 960) (some (((μ44.1 50 (μ44.1 48 a1.toNatClampNeg).toNatClampNeg) + (1 : Int32)), μ44)))))) else bd (p_X12_itemValue a1 v1 μ) (fun r47 μ46 => bw (p_X12_hold a1 r47 μ46) (fun μ48 => some ((a1 + (1 : Int32)), μ48))))))))))))))) := ⟨fun (a1 : Int32) (μ : Mem) => gd (inb a1 960) (bv (μ.1 51 a1.toNatClampNeg) (fun v1 => gd (inb a1 960) ((if (μ.1 46 a1.toNatClampNeg) = (6 : Int32) then bd (p_X12_valueOf v1 μ) (fun r5 μ4 => bd (p_X12_num r5 μ4) (fun r7 μ6 => gd (inb r7 100000) (gd (inb r7 100000) ((if (s_X12_isTrue (μ6.1 30 r7.toNatClampNeg) (μ6.1 31 r7.toNatClampNeg)) = (0 : Int32) then gd (inb a1 960) (some (((μ6.1 49 a1.toNatClampNeg) + (1 : Int32)), μ6)) else some ((a1 + (1 : Int32)), μ6)))))) else (if (μ.1 46 a1.toNatClampNeg) = (7 : Int32) then bd (p_X12_valueOf v1 μ) (fun r11 μ10 => bd (p_X12_num r11 μ10) (fun r13 μ12 => bw (p_X12_show r13 μ12) (fun μ14 => some ((a1 + (1 : Int32)), μ14)))) else (if (μ.1 46 a1.toNatClampNeg) = (8 : Int32) then bd (p_X12_itemValue a1 v1 μ) (fun r18 μ17 => bw (p_X12_hold a1 r18 μ17) (fun μ19 => some ((a1 + (1 : Int32)), μ19))) else (if (μ.1 46 a1.toNatClampNeg) = (9 : Int32) then bd (p_X12_itemValue a1 v1 μ) (fun r23 μ22 => bw (p_X12_hold a1 r23 μ22) (fun μ24 => some ((a1 + (1 : Int32)), μ24))) else (if (μ.1 46 a1.toNatClampNeg) = (10 : Int32) then bd (p_X12_itemValue a1 v1 μ) (fun r28 μ27 => bw (p_X12_hold a1 r28 μ27) (fun μ29 => some ((a1 + (1 : Int32)), μ29))) else (if (μ.1 46 a1.toNatClampNeg) = (11 : Int32) then bd (p_X12_runCall a1 μ) (fun r33 μ32 => some (r33, μ32)) else (if (μ.1 46 a1.toNatClampNeg) = (12 : Int32) then bv (sF μ 0 68 (4 : Int32)) (fun μ35 => some (a1, μ35)) else (if (μ.1 46 a1.toNatClampNeg) = (13 : Int32) then gd (inb a1 960) (bd (p_X12_valueOf v1 μ) (fun r38 μ37 => bw (p_X12_hold (μ.1 48 a1.toNatClampNeg) r38 μ37) (fun μ39 => gd (inb a1 960) (gd (inb (μ39.1 48 a1.toNatClampNeg) 960) (some (((μ39.1 50 (μ39.1 48 a1.toNatClampNeg).toNatClampNeg) + (1 : Int32)), μ39)))))) else (if (μ.1 46 a1.toNatClampNeg) = (14 : Int32) then gd (inb a1 960) (bd (p_X12_valueOf v1 μ) (fun r43 μ42 => bw (p_X12_hold (μ.1 48 a1.toNatClampNeg) r43 μ42) (fun μ44 => gd (inb a1 960) (gd (inb (μ44.1 48 a1.toNatClampNeg) 960) (some (((μ44.1 50 (μ44.1 48 a1.toNatClampNeg).toNatClampNeg) + (1 : Int32)), μ44)))))) else bd (p_X12_itemValue a1 v1 μ) (fun r47 μ46 => bw (p_X12_hold a1 r47 μ46) (fun μ48 => some ((a1 + (1 : Int32)), μ48))))))))))))))), fun _ _ => rfl⟩
noncomputable def p_X12_runItem : Int32 → Mem → Option (Int32 × Mem) := Classical.choose p_X12_runItem_ex
theorem p_X12_runItem_eq (a1 : Int32) (μ : Mem) : p_X12_runItem a1 μ = gd (inb a1 960) (bv (μ.1 51 a1.toNatClampNeg) (fun v1 => gd (inb a1 960) ((if (μ.1 46 a1.toNatClampNeg) = (6 : Int32) then bd (p_X12_valueOf v1 μ) (fun r5 μ4 => bd (p_X12_num r5 μ4) (fun r7 μ6 => gd (inb r7 100000) (gd (inb r7 100000) ((if (s_X12_isTrue (μ6.1 30 r7.toNatClampNeg) (μ6.1 31 r7.toNatClampNeg)) = (0 : Int32) then gd (inb a1 960) (some (((μ6.1 49 a1.toNatClampNeg) + (1 : Int32)), μ6)) else some ((a1 + (1 : Int32)), μ6)))))) else (if (μ.1 46 a1.toNatClampNeg) = (7 : Int32) then bd (p_X12_valueOf v1 μ) (fun r11 μ10 => bd (p_X12_num r11 μ10) (fun r13 μ12 => bw (p_X12_show r13 μ12) (fun μ14 => some ((a1 + (1 : Int32)), μ14)))) else (if (μ.1 46 a1.toNatClampNeg) = (8 : Int32) then bd (p_X12_itemValue a1 v1 μ) (fun r18 μ17 => bw (p_X12_hold a1 r18 μ17) (fun μ19 => some ((a1 + (1 : Int32)), μ19))) else (if (μ.1 46 a1.toNatClampNeg) = (9 : Int32) then bd (p_X12_itemValue a1 v1 μ) (fun r23 μ22 => bw (p_X12_hold a1 r23 μ22) (fun μ24 => some ((a1 + (1 : Int32)), μ24))) else (if (μ.1 46 a1.toNatClampNeg) = (10 : Int32) then bd (p_X12_itemValue a1 v1 μ) (fun r28 μ27 => bw (p_X12_hold a1 r28 μ27) (fun μ29 => some ((a1 + (1 : Int32)), μ29))) else (if (μ.1 46 a1.toNatClampNeg) = (11 : Int32) then bd (p_X12_runCall a1 μ) (fun r33 μ32 => some (r33, μ32)) else (if (μ.1 46 a1.toNatClampNeg) = (12 : Int32) then bv (sF μ 0 68 (4 : Int32)) (fun μ35 => some (a1, μ35)) else (if (μ.1 46 a1.toNatClampNeg) = (13 : Int32) then gd (inb a1 960) (bd (p_X12_valueOf v1 μ) (fun r38 μ37 => bw (p_X12_hold (μ.1 48 a1.toNatClampNeg) r38 μ37) (fun μ39 => gd (inb a1 960) (gd (inb (μ39.1 48 a1.toNatClampNeg) 960) (some (((μ39.1 50 (μ39.1 48 a1.toNatClampNeg).toNatClampNeg) + (1 : Int32)), μ39)))))) else (if (μ.1 46 a1.toNatClampNeg) = (14 : Int32) then gd (inb a1 960) (bd (p_X12_valueOf v1 μ) (fun r43 μ42 => bw (p_X12_hold (μ.1 48 a1.toNatClampNeg) r43 μ42) (fun μ44 => gd (inb a1 960) (gd (inb (μ44.1 48 a1.toNatClampNeg) 960) (some (((μ44.1 50 (μ44.1 48 a1.toNatClampNeg).toNatClampNeg) + (1 : Int32)), μ44)))))) else bd (p_X12_itemValue a1 v1 μ) (fun r47 μ46 => bw (p_X12_hold a1 r47 μ46) (fun μ48 => some ((a1 + (1 : Int32)), μ48))))))))))))))) := Classical.choose_spec p_X12_runItem_ex a1 μ
set_option maxHeartbeats 4000000 in
set_option maxRecDepth 100000 in
theorem t_X12_runItem (l : Launch) (G : Gt) (ad : Nat → Nat) (a1 : Int32) (μ : Mem) {r : Int32} {μz : Mem} (h : p_X12_runItem a1 μ = some (r, μz)) : Mt l yX12_runItem cX12_runItem 4 (some .int) ({ frames := 6, cells := 0, slots := 0, locals := 141 } : Room) G [.ref (ad 0), .int a1] (wd 1 G ad μ) (eI 1 G ad r μz) := by
  refine Bk.mt (by decide) rfl (Nat.le_of_ble_eq_true rfl) ?_
  intro p e s m below meth c A ls H locs cx hr hlk hA hl hw
  have hx := cx.1
  have hb := cx.2.1
  have hl : lv_has ls 4 [(0, .ref (ad 0)), (1, .int a1)] := hl
  rw [p_X12_runItem_eq] at h
  refine lv_aload_n hx hb dX12_runItem_0 rfl (lv_at hl 0 rfl) ?_
  refine g_get cx hw inX12 (ci := 11) rfl 83 (by decide) rfl (v := .ref (ad 51)) shm_0 rfl fl_X12_169 dX12_runItem_1 ?_
  refine lv_iload_n hx hb dX12_runItem_4 rfl (lv_at hl 1 rfl) ?_
  refine g_iald cx hw shm_51 h dX12_runItem_5 (fun h => ?_)
  obtain ⟨v1, ev1, h⟩ := bv_ex h
  refine lv_topi (fun y9 z9 => ?_)
  obtain rfl : v1 = y9 := ev1.trans z9.symm
  refine lv_istore_n (lv' := [(2, .int v1), (0, .ref (ad 0)), (1, .int a1)]) hx hb dX12_runItem_6 rfl hl (by decide) rfl (fun ls hl => ?_)
  refine lv_aload_n hx hb dX12_runItem_7 rfl (lv_at hl 1 rfl) ?_
  refine g_get cx hw inX12 (ci := 11) rfl 78 (by decide) rfl (v := .ref (ad 46)) shm_0 rfl fl_X12_154 dX12_runItem_8 ?_
  refine lv_iload_n hx hb dX12_runItem_11 rfl (lv_at hl 2 rfl) ?_
  refine g_iald cx hw shm_46 h dX12_runItem_12 (fun h => ?_)
  refine lv_topi (fun v2 ev2 => ?_)
  by_cases c3 : (μ.1 46 a1.toNatClampNeg) = (6 : Int32)
  · rw [if_pos c3] at h
    have z9 := ev2.trans c3
    subst z9
    refine lv_tableIn (tgt := 64) hx hb dX12_runItem_13 (by decide +kernel) (by decide +kernel) rfl (by decide) ?_
    refine lv_aload_n hx hb dX12_runItem_64 rfl (lv_at hl 1 rfl) ?_
    refine lv_aload_n hx hb dX12_runItem_65 rfl (lv_at hl 1 rfl) ?_
    refine lv_iload_n hx hb dX12_runItem_66 rfl (lv_at hl 0 rfl) ?_
    obtain ⟨r5, μ4, gr5, h⟩ := bd_some h
    refine g_callVI (As := [.int v1]) (rest := [.ref (ad 0)]) cx hw hA (t_X12_valueOf l G ad v1 μ gr5) shm_0 rfl ml_X12_821 im_X12_valueOf se_X12_valueOf in_X12 co_X12_valueOf rfl hd_X12_valueOf rfl ⟨(Nat.le_of_ble_eq_true rfl), (Nat.le_of_ble_eq_true rfl)⟩ hl.1 rfl (Nat.le_of_ble_eq_true rfl) dX12_runItem_67 ⟨rfl, rfl⟩ (fun H locs hw => ?_)
    obtain ⟨r7, μ6, gr7, h⟩ := bd_some h
    refine g_callVI (As := [.int r5]) (rest := []) cx hw hA (t_X12_num l G ad r5 μ4 gr7) shm_0 rfl ml_X12_597 im_X12_num se_X12_num in_X12 co_X12_num rfl hd_X12_num rfl ⟨(Nat.le_of_ble_eq_true rfl), (Nat.le_of_ble_eq_true rfl)⟩ hl.1 rfl (Nat.le_of_ble_eq_true rfl) dX12_runItem_70 ⟨rfl, rfl⟩ (fun H locs hw => ?_)
    refine lv_istore_n (lv' := [(3, .int r7), (2, .int v1), (0, .ref (ad 0)), (1, .int a1)]) hx hb dX12_runItem_73 rfl hl (by decide) rfl (fun ls hl => ?_)
    refine lv_aload_n hx hb dX12_runItem_74 rfl (lv_at hl 2 rfl) ?_
    refine g_get cx hw inX12 (ci := 11) rfl 51 (by decide) rfl (v := .ref (ad 30)) shm_0 rfl fl_X12_106 dX12_runItem_75 ?_
    refine lv_iload_n hx hb dX12_runItem_78 rfl (lv_at hl 0 rfl) ?_
    refine g_iald cx hw shm_30 h dX12_runItem_79 (fun h => ?_)
    refine lv_aload_n hx hb dX12_runItem_80 rfl (lv_at hl 2 rfl) ?_
    refine g_get cx hw inX12 (ci := 11) rfl 52 (by decide) rfl (v := .ref (ad 31)) shm_0 rfl fl_X12_109 dX12_runItem_81 ?_
    refine lv_iload_n hx hb dX12_runItem_84 rfl (lv_at hl 0 rfl) ?_
    refine g_iald cx hw shm_31 h dX12_runItem_85 (fun h => ?_)
    refine s_callI (As := [.int (μ6.1 30 r7.toNatClampNeg), .int (μ6.1 31 r7.toNatClampNeg)]) (rest := []) cx hw hA (t_X12_isTrue l G (μ6.1 30 r7.toNatClampNeg) (μ6.1 31 r7.toNatClampNeg)) ml_X12_603 st_X12_isTrue in_X12 co_X12_isTrue hd_X12_isTrue rfl ⟨(Nat.le_of_ble_eq_true rfl), (Nat.le_of_ble_eq_true rfl)⟩ hl.1 rfl (Nat.le_of_ble_eq_true rfl) dX12_runItem_86 rfl (fun H locs hw => ?_)
    refine lv_if_eq (tgt := 98) hx hb dX12_runItem_89 (by decide) (fun c8 => ?_) (fun c8 => ?_)
    · rw [if_pos c8] at h
      refine lv_aload_n hx hb dX12_runItem_98 rfl (lv_at hl 2 rfl) ?_
      refine g_get cx hw inX12 (ci := 11) rfl 81 (by decide) rfl (v := .ref (ad 49)) shm_0 rfl fl_X12_163 dX12_runItem_99 ?_
      refine lv_iload_n hx hb dX12_runItem_102 rfl (lv_at hl 3 rfl) ?_
      refine g_iald cx hw shm_49 h dX12_runItem_103 (fun h => ?_)
      refine lv_iconst (v := 1) hx hb dX12_runItem_104 (by decide) ?_
      refine lv_iadd hx hb dX12_runItem_105 ?_
      exact g_iret cx hr hlk hw h dX12_runItem_106
    · rw [if_neg c8] at h
      refine lv_iload_n hx hb dX12_runItem_92 rfl (lv_at hl 3 rfl) ?_
      refine lv_iconst (v := 1) hx hb dX12_runItem_93 (by decide) ?_
      refine lv_iadd hx hb dX12_runItem_94 ?_
      refine lv_goto (tgt := 106) hx hb dX12_runItem_95 (by decide) ?_
      exact g_iret cx hr hlk hw h dX12_runItem_106
  rw [if_neg c3] at h
  by_cases c9 : (μ.1 46 a1.toNatClampNeg) = (7 : Int32)
  · rw [if_pos c9] at h
    have z9 := ev2.trans c9
    subst z9
    refine lv_tableIn (tgt := 149) hx hb dX12_runItem_13 (by decide +kernel) (by decide +kernel) rfl (by decide) ?_
    refine lv_aload_n hx hb dX12_runItem_149 rfl (lv_at hl 1 rfl) ?_
    refine lv_aload_n hx hb dX12_runItem_150 rfl (lv_at hl 1 rfl) ?_
    refine lv_aload_n hx hb dX12_runItem_151 rfl (lv_at hl 1 rfl) ?_
    refine lv_iload_n hx hb dX12_runItem_152 rfl (lv_at hl 0 rfl) ?_
    obtain ⟨r11, μ10, gr11, h⟩ := bd_some h
    refine g_callVI (As := [.int v1]) (rest := [.ref (ad 0), .ref (ad 0)]) cx hw hA (t_X12_valueOf l G ad v1 μ gr11) shm_0 rfl ml_X12_821 im_X12_valueOf se_X12_valueOf in_X12 co_X12_valueOf rfl hd_X12_valueOf rfl ⟨(Nat.le_of_ble_eq_true rfl), (Nat.le_of_ble_eq_true rfl)⟩ hl.1 rfl (Nat.le_of_ble_eq_true rfl) dX12_runItem_153 ⟨rfl, rfl⟩ (fun H locs hw => ?_)
    obtain ⟨r13, μ12, gr13, h⟩ := bd_some h
    refine g_callVI (As := [.int r11]) (rest := [.ref (ad 0)]) cx hw hA (t_X12_num l G ad r11 μ10 gr13) shm_0 rfl ml_X12_597 im_X12_num se_X12_num in_X12 co_X12_num rfl hd_X12_num rfl ⟨(Nat.le_of_ble_eq_true rfl), (Nat.le_of_ble_eq_true rfl)⟩ hl.1 rfl (Nat.le_of_ble_eq_true rfl) dX12_runItem_156 ⟨rfl, rfl⟩ (fun H locs hw => ?_)
    obtain ⟨μ14, gμ14, h⟩ := bw_some h
    refine g_callVV (As := [.int r13]) (rest := []) cx hw hA (t_X12_show l G ad r13 μ12 gμ14) shm_0 rfl ml_X12_652 im_X12_show se_X12_show in_X12 co_X12_show rfl hd_X12_show rfl ⟨(Nat.le_of_ble_eq_true rfl), (Nat.le_of_ble_eq_true rfl)⟩ hl.1 rfl (Nat.le_of_ble_eq_true rfl) dX12_runItem_159 ⟨rfl, rfl⟩ (fun H locs hw => ?_)
    refine lv_iload_n hx hb dX12_runItem_162 rfl (lv_at hl 2 rfl) ?_
    refine lv_iconst (v := 1) hx hb dX12_runItem_163 (by decide) ?_
    refine lv_iadd hx hb dX12_runItem_164 ?_
    exact g_iret cx hr hlk hw h dX12_runItem_165
  rw [if_neg c9] at h
  by_cases c16 : (μ.1 46 a1.toNatClampNeg) = (8 : Int32)
  · rw [if_pos c16] at h
    have z9 := ev2.trans c16
    subst z9
    refine lv_tableIn (tgt := 166) hx hb dX12_runItem_13 (by decide +kernel) (by decide +kernel) rfl (by decide) ?_
    refine lv_aload_n hx hb dX12_runItem_166 rfl (lv_at hl 1 rfl) ?_
    refine lv_iload_n hx hb dX12_runItem_167 rfl (lv_at hl 2 rfl) ?_
    refine lv_aload_n hx hb dX12_runItem_168 rfl (lv_at hl 1 rfl) ?_
    refine lv_iload_n hx hb dX12_runItem_169 rfl (lv_at hl 2 rfl) ?_
    refine lv_iload_n hx hb dX12_runItem_170 rfl (lv_at hl 0 rfl) ?_
    obtain ⟨r18, μ17, gr18, h⟩ := bd_some h
    refine g_callVI (As := [.int a1, .int v1]) (rest := [.int a1, .ref (ad 0)]) cx hw hA (t_X12_itemValue l G ad a1 v1 μ gr18) shm_0 rfl ml_X12_830 im_X12_itemValue se_X12_itemValue in_X12 co_X12_itemValue rfl hd_X12_itemValue rfl ⟨(Nat.le_of_ble_eq_true rfl), (Nat.le_of_ble_eq_true rfl)⟩ hl.1 rfl (Nat.le_of_ble_eq_true rfl) dX12_runItem_171 ⟨rfl, rfl⟩ (fun H locs hw => ?_)
    obtain ⟨μ19, gμ19, h⟩ := bw_some h
    refine g_callVV (As := [.int a1, .int r18]) (rest := []) cx hw hA (t_X12_hold l G ad a1 r18 μ17 gμ19) shm_0 rfl ml_X12_824 im_X12_hold se_X12_hold in_X12 co_X12_hold rfl hd_X12_hold rfl ⟨(Nat.le_of_ble_eq_true rfl), (Nat.le_of_ble_eq_true rfl)⟩ hl.1 rfl (Nat.le_of_ble_eq_true rfl) dX12_runItem_174 ⟨rfl, rfl⟩ (fun H locs hw => ?_)
    refine lv_iload_n hx hb dX12_runItem_177 rfl (lv_at hl 2 rfl) ?_
    refine lv_iconst (v := 1) hx hb dX12_runItem_178 (by decide) ?_
    refine lv_iadd hx hb dX12_runItem_179 ?_
    exact g_iret cx hr hlk hw h dX12_runItem_180
  rw [if_neg c16] at h
  by_cases c21 : (μ.1 46 a1.toNatClampNeg) = (9 : Int32)
  · rw [if_pos c21] at h
    have z9 := ev2.trans c21
    subst z9
    refine lv_tableIn (tgt := 166) hx hb dX12_runItem_13 (by decide +kernel) (by decide +kernel) rfl (by decide) ?_
    refine lv_aload_n hx hb dX12_runItem_166 rfl (lv_at hl 1 rfl) ?_
    refine lv_iload_n hx hb dX12_runItem_167 rfl (lv_at hl 2 rfl) ?_
    refine lv_aload_n hx hb dX12_runItem_168 rfl (lv_at hl 1 rfl) ?_
    refine lv_iload_n hx hb dX12_runItem_169 rfl (lv_at hl 2 rfl) ?_
    refine lv_iload_n hx hb dX12_runItem_170 rfl (lv_at hl 0 rfl) ?_
    obtain ⟨r23, μ22, gr23, h⟩ := bd_some h
    refine g_callVI (As := [.int a1, .int v1]) (rest := [.int a1, .ref (ad 0)]) cx hw hA (t_X12_itemValue l G ad a1 v1 μ gr23) shm_0 rfl ml_X12_830 im_X12_itemValue se_X12_itemValue in_X12 co_X12_itemValue rfl hd_X12_itemValue rfl ⟨(Nat.le_of_ble_eq_true rfl), (Nat.le_of_ble_eq_true rfl)⟩ hl.1 rfl (Nat.le_of_ble_eq_true rfl) dX12_runItem_171 ⟨rfl, rfl⟩ (fun H locs hw => ?_)
    obtain ⟨μ24, gμ24, h⟩ := bw_some h
    refine g_callVV (As := [.int a1, .int r23]) (rest := []) cx hw hA (t_X12_hold l G ad a1 r23 μ22 gμ24) shm_0 rfl ml_X12_824 im_X12_hold se_X12_hold in_X12 co_X12_hold rfl hd_X12_hold rfl ⟨(Nat.le_of_ble_eq_true rfl), (Nat.le_of_ble_eq_true rfl)⟩ hl.1 rfl (Nat.le_of_ble_eq_true rfl) dX12_runItem_174 ⟨rfl, rfl⟩ (fun H locs hw => ?_)
    refine lv_iload_n hx hb dX12_runItem_177 rfl (lv_at hl 2 rfl) ?_
    refine lv_iconst (v := 1) hx hb dX12_runItem_178 (by decide) ?_
    refine lv_iadd hx hb dX12_runItem_179 ?_
    exact g_iret cx hr hlk hw h dX12_runItem_180
  rw [if_neg c21] at h
  by_cases c26 : (μ.1 46 a1.toNatClampNeg) = (10 : Int32)
  · rw [if_pos c26] at h
    have z9 := ev2.trans c26
    subst z9
    refine lv_tableIn (tgt := 166) hx hb dX12_runItem_13 (by decide +kernel) (by decide +kernel) rfl (by decide) ?_
    refine lv_aload_n hx hb dX12_runItem_166 rfl (lv_at hl 1 rfl) ?_
    refine lv_iload_n hx hb dX12_runItem_167 rfl (lv_at hl 2 rfl) ?_
    refine lv_aload_n hx hb dX12_runItem_168 rfl (lv_at hl 1 rfl) ?_
    refine lv_iload_n hx hb dX12_runItem_169 rfl (lv_at hl 2 rfl) ?_
    refine lv_iload_n hx hb dX12_runItem_170 rfl (lv_at hl 0 rfl) ?_
    obtain ⟨r28, μ27, gr28, h⟩ := bd_some h
    refine g_callVI (As := [.int a1, .int v1]) (rest := [.int a1, .ref (ad 0)]) cx hw hA (t_X12_itemValue l G ad a1 v1 μ gr28) shm_0 rfl ml_X12_830 im_X12_itemValue se_X12_itemValue in_X12 co_X12_itemValue rfl hd_X12_itemValue rfl ⟨(Nat.le_of_ble_eq_true rfl), (Nat.le_of_ble_eq_true rfl)⟩ hl.1 rfl (Nat.le_of_ble_eq_true rfl) dX12_runItem_171 ⟨rfl, rfl⟩ (fun H locs hw => ?_)
    obtain ⟨μ29, gμ29, h⟩ := bw_some h
    refine g_callVV (As := [.int a1, .int r28]) (rest := []) cx hw hA (t_X12_hold l G ad a1 r28 μ27 gμ29) shm_0 rfl ml_X12_824 im_X12_hold se_X12_hold in_X12 co_X12_hold rfl hd_X12_hold rfl ⟨(Nat.le_of_ble_eq_true rfl), (Nat.le_of_ble_eq_true rfl)⟩ hl.1 rfl (Nat.le_of_ble_eq_true rfl) dX12_runItem_174 ⟨rfl, rfl⟩ (fun H locs hw => ?_)
    refine lv_iload_n hx hb dX12_runItem_177 rfl (lv_at hl 2 rfl) ?_
    refine lv_iconst (v := 1) hx hb dX12_runItem_178 (by decide) ?_
    refine lv_iadd hx hb dX12_runItem_179 ?_
    exact g_iret cx hr hlk hw h dX12_runItem_180
  rw [if_neg c26] at h
  by_cases c31 : (μ.1 46 a1.toNatClampNeg) = (11 : Int32)
  · rw [if_pos c31] at h
    have z9 := ev2.trans c31
    subst z9
    refine lv_tableIn (tgt := 136) hx hb dX12_runItem_13 (by decide +kernel) (by decide +kernel) rfl (by decide) ?_
    refine lv_aload_n hx hb dX12_runItem_136 rfl (lv_at hl 1 rfl) ?_
    refine lv_iload_n hx hb dX12_runItem_137 rfl (lv_at hl 2 rfl) ?_
    obtain ⟨r33, μ32, gr33, h⟩ := bd_some h
    refine g_callVI (As := [.int a1]) (rest := []) cx hw hA (t_X12_runCall l G ad a1 μ gr33) shm_0 rfl ml_X12_827 im_X12_runCall se_X12_runCall in_X12 co_X12_runCall rfl hd_X12_runCall rfl ⟨(Nat.le_of_ble_eq_true rfl), (Nat.le_of_ble_eq_true rfl)⟩ hl.1 rfl (Nat.le_of_ble_eq_true rfl) dX12_runItem_138 ⟨rfl, rfl⟩ (fun H locs hw => ?_)
    exact g_iret cx hr hlk hw h dX12_runItem_141
  rw [if_neg c31] at h
  by_cases c34 : (μ.1 46 a1.toNatClampNeg) = (12 : Int32)
  · rw [if_pos c34] at h
    have z9 := ev2.trans c34
    subst z9
    refine lv_tableIn (tgt := 142) hx hb dX12_runItem_13 (by decide +kernel) (by decide +kernel) rfl (by decide) ?_
    refine lv_aload_n hx hb dX12_runItem_142 rfl (lv_at hl 1 rfl) ?_
    refine lv_iconst (v := 4) hx hb dX12_runItem_143 (by decide) ?_
    refine g_put cx hw inX12 (ci := 11) rfl tyX12_ok nmX12 68 (by decide) rfl rfl rfl rfl shm_0 h fl_X12_557 dX12_runItem_144 (fun μ35 H locs h hw => ?_)
    refine lv_iload_n hx hb dX12_runItem_147 rfl (lv_at hl 2 rfl) ?_
    exact g_iret cx hr hlk hw h dX12_runItem_148
  rw [if_neg c34] at h
  by_cases c36 : (μ.1 46 a1.toNatClampNeg) = (13 : Int32)
  · rw [if_pos c36] at h
    have z9 := ev2.trans c36
    subst z9
    refine lv_tableIn (tgt := 107) hx hb dX12_runItem_13 (by decide +kernel) (by decide +kernel) rfl (by decide) ?_
    refine lv_aload_n hx hb dX12_runItem_107 rfl (lv_at hl 1 rfl) ?_
    refine lv_aload_n hx hb dX12_runItem_108 rfl (lv_at hl 1 rfl) ?_
    refine g_get cx hw inX12 (ci := 11) rfl 80 (by decide) rfl (v := .ref (ad 48)) shm_0 rfl fl_X12_160 dX12_runItem_109 ?_
    refine lv_iload_n hx hb dX12_runItem_112 rfl (lv_at hl 2 rfl) ?_
    refine g_iald cx hw shm_48 h dX12_runItem_113 (fun h => ?_)
    refine lv_aload_n hx hb dX12_runItem_114 rfl (lv_at hl 1 rfl) ?_
    refine lv_iload_n hx hb dX12_runItem_115 rfl (lv_at hl 0 rfl) ?_
    obtain ⟨r38, μ37, gr38, h⟩ := bd_some h
    refine g_callVI (As := [.int v1]) (rest := [.int (μ.1 48 a1.toNatClampNeg), .ref (ad 0)]) cx hw hA (t_X12_valueOf l G ad v1 μ gr38) shm_0 rfl ml_X12_821 im_X12_valueOf se_X12_valueOf in_X12 co_X12_valueOf rfl hd_X12_valueOf rfl ⟨(Nat.le_of_ble_eq_true rfl), (Nat.le_of_ble_eq_true rfl)⟩ hl.1 rfl (Nat.le_of_ble_eq_true rfl) dX12_runItem_116 ⟨rfl, rfl⟩ (fun H locs hw => ?_)
    obtain ⟨μ39, gμ39, h⟩ := bw_some h
    refine g_callVV (As := [.int (μ.1 48 a1.toNatClampNeg), .int r38]) (rest := []) cx hw hA (t_X12_hold l G ad (μ.1 48 a1.toNatClampNeg) r38 μ37 gμ39) shm_0 rfl ml_X12_824 im_X12_hold se_X12_hold in_X12 co_X12_hold rfl hd_X12_hold rfl ⟨(Nat.le_of_ble_eq_true rfl), (Nat.le_of_ble_eq_true rfl)⟩ hl.1 rfl (Nat.le_of_ble_eq_true rfl) dX12_runItem_119 ⟨rfl, rfl⟩ (fun H locs hw => ?_)
    refine lv_aload_n hx hb dX12_runItem_122 rfl (lv_at hl 1 rfl) ?_
    refine g_get cx hw inX12 (ci := 11) rfl 82 (by decide) rfl (v := .ref (ad 50)) shm_0 rfl fl_X12_166 dX12_runItem_123 ?_
    refine lv_aload_n hx hb dX12_runItem_126 rfl (lv_at hl 1 rfl) ?_
    refine g_get cx hw inX12 (ci := 11) rfl 80 (by decide) rfl (v := .ref (ad 48)) shm_0 rfl fl_X12_160 dX12_runItem_127 ?_
    refine lv_iload_n hx hb dX12_runItem_130 rfl (lv_at hl 2 rfl) ?_
    refine g_iald cx hw shm_48 h dX12_runItem_131 (fun h => ?_)
    refine g_iald cx hw shm_50 h dX12_runItem_132 (fun h => ?_)
    refine lv_iconst (v := 1) hx hb dX12_runItem_133 (by decide) ?_
    refine lv_iadd hx hb dX12_runItem_134 ?_
    exact g_iret cx hr hlk hw h dX12_runItem_135
  rw [if_neg c36] at h
  by_cases c41 : (μ.1 46 a1.toNatClampNeg) = (14 : Int32)
  · rw [if_pos c41] at h
    have z9 := ev2.trans c41
    subst z9
    refine lv_tableIn (tgt := 107) hx hb dX12_runItem_13 (by decide +kernel) (by decide +kernel) rfl (by decide) ?_
    refine lv_aload_n hx hb dX12_runItem_107 rfl (lv_at hl 1 rfl) ?_
    refine lv_aload_n hx hb dX12_runItem_108 rfl (lv_at hl 1 rfl) ?_
    refine g_get cx hw inX12 (ci := 11) rfl 80 (by decide) rfl (v := .ref (ad 48)) shm_0 rfl fl_X12_160 dX12_runItem_109 ?_
    refine lv_iload_n hx hb dX12_runItem_112 rfl (lv_at hl 2 rfl) ?_
    refine g_iald cx hw shm_48 h dX12_runItem_113 (fun h => ?_)
    refine lv_aload_n hx hb dX12_runItem_114 rfl (lv_at hl 1 rfl) ?_
    refine lv_iload_n hx hb dX12_runItem_115 rfl (lv_at hl 0 rfl) ?_
    obtain ⟨r43, μ42, gr43, h⟩ := bd_some h
    refine g_callVI (As := [.int v1]) (rest := [.int (μ.1 48 a1.toNatClampNeg), .ref (ad 0)]) cx hw hA (t_X12_valueOf l G ad v1 μ gr43) shm_0 rfl ml_X12_821 im_X12_valueOf se_X12_valueOf in_X12 co_X12_valueOf rfl hd_X12_valueOf rfl ⟨(Nat.le_of_ble_eq_true rfl), (Nat.le_of_ble_eq_true rfl)⟩ hl.1 rfl (Nat.le_of_ble_eq_true rfl) dX12_runItem_116 ⟨rfl, rfl⟩ (fun H locs hw => ?_)
    obtain ⟨μ44, gμ44, h⟩ := bw_some h
    refine g_callVV (As := [.int (μ.1 48 a1.toNatClampNeg), .int r43]) (rest := []) cx hw hA (t_X12_hold l G ad (μ.1 48 a1.toNatClampNeg) r43 μ42 gμ44) shm_0 rfl ml_X12_824 im_X12_hold se_X12_hold in_X12 co_X12_hold rfl hd_X12_hold rfl ⟨(Nat.le_of_ble_eq_true rfl), (Nat.le_of_ble_eq_true rfl)⟩ hl.1 rfl (Nat.le_of_ble_eq_true rfl) dX12_runItem_119 ⟨rfl, rfl⟩ (fun H locs hw => ?_)
    refine lv_aload_n hx hb dX12_runItem_122 rfl (lv_at hl 1 rfl) ?_
    refine g_get cx hw inX12 (ci := 11) rfl 82 (by decide) rfl (v := .ref (ad 50)) shm_0 rfl fl_X12_166 dX12_runItem_123 ?_
    refine lv_aload_n hx hb dX12_runItem_126 rfl (lv_at hl 1 rfl) ?_
    refine g_get cx hw inX12 (ci := 11) rfl 80 (by decide) rfl (v := .ref (ad 48)) shm_0 rfl fl_X12_160 dX12_runItem_127 ?_
    refine lv_iload_n hx hb dX12_runItem_130 rfl (lv_at hl 2 rfl) ?_
    refine g_iald cx hw shm_48 h dX12_runItem_131 (fun h => ?_)
    refine g_iald cx hw shm_50 h dX12_runItem_132 (fun h => ?_)
    refine lv_iconst (v := 1) hx hb dX12_runItem_133 (by decide) ?_
    refine lv_iadd hx hb dX12_runItem_134 ?_
    exact g_iret cx hr hlk hw h dX12_runItem_135
  rw [if_neg c41] at h
  rw [ev2]
  refine lv_tableOut (tgt := 166) hx hb dX12_runItem_13 (sw_out (L := [(6 : Int32), (7 : Int32), (8 : Int32), (9 : Int32), (10 : Int32), (11 : Int32), (12 : Int32), (13 : Int32), (14 : Int32)]) (by decide +kernel) (by simp only [List.forall_mem_cons]; exact ⟨c3, c9, c16, c21, c26, c31, c34, c36, c41, fun _ q => absurd q List.not_mem_nil⟩)) (by decide) ?_
  refine lv_aload_n hx hb dX12_runItem_166 rfl (lv_at hl 1 rfl) ?_
  refine lv_iload_n hx hb dX12_runItem_167 rfl (lv_at hl 2 rfl) ?_
  refine lv_aload_n hx hb dX12_runItem_168 rfl (lv_at hl 1 rfl) ?_
  refine lv_iload_n hx hb dX12_runItem_169 rfl (lv_at hl 2 rfl) ?_
  refine lv_iload_n hx hb dX12_runItem_170 rfl (lv_at hl 0 rfl) ?_
  obtain ⟨r47, μ46, gr47, h⟩ := bd_some h
  refine g_callVI (As := [.int a1, .int v1]) (rest := [.int a1, .ref (ad 0)]) cx hw hA (t_X12_itemValue l G ad a1 v1 μ gr47) shm_0 rfl ml_X12_830 im_X12_itemValue se_X12_itemValue in_X12 co_X12_itemValue rfl hd_X12_itemValue rfl ⟨(Nat.le_of_ble_eq_true rfl), (Nat.le_of_ble_eq_true rfl)⟩ hl.1 rfl (Nat.le_of_ble_eq_true rfl) dX12_runItem_171 ⟨rfl, rfl⟩ (fun H locs hw => ?_)
  obtain ⟨μ48, gμ48, h⟩ := bw_some h
  refine g_callVV (As := [.int a1, .int r47]) (rest := []) cx hw hA (t_X12_hold l G ad a1 r47 μ46 gμ48) shm_0 rfl ml_X12_824 im_X12_hold se_X12_hold in_X12 co_X12_hold rfl hd_X12_hold rfl ⟨(Nat.le_of_ble_eq_true rfl), (Nat.le_of_ble_eq_true rfl)⟩ hl.1 rfl (Nat.le_of_ble_eq_true rfl) dX12_runItem_174 ⟨rfl, rfl⟩ (fun H locs hw => ?_)
  refine lv_iload_n hx hb dX12_runItem_177 rfl (lv_at hl 2 rfl) ?_
  refine lv_iconst (v := 1) hx hb dX12_runItem_178 (by decide) ?_
  refine lv_iadd hx hb dX12_runItem_179 ?_
  exact g_iret cx hr hlk hw h dX12_runItem_180

theorem p_X12_runResidue_b59_ex : ∃ f : Nat → Int32 → Int32 → Mem → Option Mem, (∀ (a1 : Int32) (a2 : Int32) (μ : Mem), f  0 a1 a2 μ = none) ∧ (∀ (n : Nat) (a1 : Int32) (a2 : Int32) (μ : Mem), f  (n + 1) a1 a2 μ = (if a2 = (-1 : Int32) then bw (p_X12_endRun a1 μ) (fun μ14 => some μ14) else (if (μ.1 0 68) = (0 : Int32) then gd (inb ((μ.1 0 76) - (1 : Int32)) 31) (bv (μ.1 78 ((μ.1 0 76) - (1 : Int32)).toNatClampNeg) (fun v19 => gd (inb v19 25) ((if (μ.1 63 v19.toNatClampNeg) ≤ a2 then gd (inb v19 25) (bd (p_X12_valueOf (μ.1 64 v19.toNatClampNeg) μ) (fun r22 μ21 => gd (inb ((μ21.1 0 76) - (1 : Int32)) 31) (bv (μ21.1 77 ((μ21.1 0 76) - (1 : Int32)).toNatClampNeg) (fun v23 => bv (sF μ21 0 76 ((μ21.1 0 76) - (1 : Int32))) (fun μ24 => bv (sF μ24 0 126 ((μ24.1 0 126) - (320 : Int32))) (fun μ25 => (if v23 = (-1 : Int32) then f n r22 v23 μ25 else bw (p_X12_hold v23 r22 μ25) (fun μ27 => bv (v23 + 1) (fun v29 => f n r22 v29 μ27))))))))) else bd (p_X12_runItem a2 μ) (fun r31 μ30 => f n a1 r31 μ30))))) else bw (p_X12_endRun a1 μ) (fun μ17 => some μ17)))) := ⟨fun n => Nat.rec (fun (a1 : Int32) (a2 : Int32) (μ : Mem) => none) (fun _ ih => fun (a1 : Int32) (a2 : Int32) (μ : Mem) => (if a2 = (-1 : Int32) then bw (p_X12_endRun a1 μ) (fun μ14 => some μ14) else (if (μ.1 0 68) = (0 : Int32) then gd (inb ((μ.1 0 76) - (1 : Int32)) 31) (bv (μ.1 78 ((μ.1 0 76) - (1 : Int32)).toNatClampNeg) (fun v19 => gd (inb v19 25) ((if (μ.1 63 v19.toNatClampNeg) ≤ a2 then gd (inb v19 25) (bd (p_X12_valueOf (μ.1 64 v19.toNatClampNeg) μ) (fun r22 μ21 => gd (inb ((μ21.1 0 76) - (1 : Int32)) 31) (bv (μ21.1 77 ((μ21.1 0 76) - (1 : Int32)).toNatClampNeg) (fun v23 => bv (sF μ21 0 76 ((μ21.1 0 76) - (1 : Int32))) (fun μ24 => bv (sF μ24 0 126 ((μ24.1 0 126) - (320 : Int32))) (fun μ25 => (if v23 = (-1 : Int32) then ih r22 v23 μ25 else bw (p_X12_hold v23 r22 μ25) (fun μ27 => bv (v23 + 1) (fun v29 => ih r22 v29 μ27))))))))) else bd (p_X12_runItem a2 μ) (fun r31 μ30 => ih a1 r31 μ30))))) else bw (p_X12_endRun a1 μ) (fun μ17 => some μ17)))) n, fun  _ _ _ => rfl, fun  _ _ _ _ => rfl⟩
noncomputable def p_X12_runResidue_b59 : Nat → Int32 → Int32 → Mem → Option Mem := Classical.choose p_X12_runResidue_b59_ex
theorem p_X12_runResidue_b59_z (a1 : Int32) (a2 : Int32) (μ : Mem) : p_X12_runResidue_b59  0 a1 a2 μ = none := (Classical.choose_spec p_X12_runResidue_b59_ex).1  a1 a2 μ
theorem p_X12_runResidue_b59_s (n : Nat) (a1 : Int32) (a2 : Int32) (μ : Mem) : p_X12_runResidue_b59  (n + 1) a1 a2 μ = (if a2 = (-1 : Int32) then bw (p_X12_endRun a1 μ) (fun μ14 => some μ14) else (if (μ.1 0 68) = (0 : Int32) then gd (inb ((μ.1 0 76) - (1 : Int32)) 31) (bv (μ.1 78 ((μ.1 0 76) - (1 : Int32)).toNatClampNeg) (fun v19 => gd (inb v19 25) ((if (μ.1 63 v19.toNatClampNeg) ≤ a2 then gd (inb v19 25) (bd (p_X12_valueOf (μ.1 64 v19.toNatClampNeg) μ) (fun r22 μ21 => gd (inb ((μ21.1 0 76) - (1 : Int32)) 31) (bv (μ21.1 77 ((μ21.1 0 76) - (1 : Int32)).toNatClampNeg) (fun v23 => bv (sF μ21 0 76 ((μ21.1 0 76) - (1 : Int32))) (fun μ24 => bv (sF μ24 0 126 ((μ24.1 0 126) - (320 : Int32))) (fun μ25 => (if v23 = (-1 : Int32) then p_X12_runResidue_b59  n r22 v23 μ25 else bw (p_X12_hold v23 r22 μ25) (fun μ27 => bv (v23 + 1) (fun v29 => p_X12_runResidue_b59  n r22 v29 μ27))))))))) else bd (p_X12_runItem a2 μ) (fun r31 μ30 => p_X12_runResidue_b59  n a1 r31 μ30))))) else bw (p_X12_endRun a1 μ) (fun μ17 => some μ17))) := (Classical.choose_spec p_X12_runResidue_b59_ex).2  n a1 a2 μ
set_option maxHeartbeats 4000000 in
set_option maxRecDepth 100000 in
theorem t_X12_runResidue_b59 (l : Launch) (G : Gt) (ad : Nat → Nat) (av : List Value) {μz : Mem} : ∀ (n : Nat) (a1 : Int32) (a2 : Int32) (μ : Mem), p_X12_runResidue_b59  n a1 a2 μ = some μz → Bk l cX12_runResidue 4 RX12 none ({ frames := 7, cells := 0, slots := 0, locals := 164 } : Room) G av (eV 1 G ad μz) (wd 1 G ad μ) 59 [(0, .ref (ad 0)), (1, .int a1), (2, .int a2)] [] := by
  intro n
  induction n with
  | zero => intro a1 a2 μ h; rw [p_X12_runResidue_b59_z] at h; cases h
  | succ n ih =>
    intro a1 a2 μ h p e s m below meth c A ls H locs cx hr hlk hA hl hw
    have hx := cx.1
    have hb := cx.2.1
    rw [p_X12_runResidue_b59_s] at h
    refine lv_iload_n hx hb dX12_runResidue_59 rfl (lv_at hl 2 rfl) ?_
    refine lv_iconst (v := (-1)) hx hb dX12_runResidue_60 (by decide) ?_
    refine lv_icmp_eq (tgt := 167) hx hb dX12_runResidue_61 (by decide) (fun c13 => ?_) (fun c13 => ?_)
    · rw [if_pos c13] at h
      refine lv_aload_n hx hb dX12_runResidue_167 rfl (lv_at hl 0 rfl) ?_
      refine lv_iload_n hx hb dX12_runResidue_168 rfl (lv_at hl 1 rfl) ?_
      obtain ⟨μ14, gμ14, h⟩ := bw_some h
      refine g_callVV (As := [.int a1]) (rest := []) cx hw hA (t_X12_endRun l G ad a1 μ gμ14) shm_0 rfl ml_X12_809 im_X12_endRun se_X12_endRun in_X12 co_X12_endRun rfl hd_X12_endRun rfl ⟨(Nat.le_of_ble_eq_true rfl), (Nat.le_of_ble_eq_true rfl)⟩ hl.1 rfl (Nat.le_of_ble_eq_true rfl) dX12_runResidue_169 ⟨rfl, rfl⟩ (fun H locs hw => ?_)
      exact g_vret cx hr hlk hw h dX12_runResidue_172
    · rw [if_neg c13] at h
      refine lv_aload_n hx hb dX12_runResidue_64 rfl (lv_at hl 0 rfl) ?_
      refine g_get cx hw inX12 (ci := 11) rfl 68 (by decide) rfl (v := .int (μ.1 0 68)) shm_0 rfl fl_X12_557 dX12_runResidue_65 ?_
      refine lv_if_ne (tgt := 167) hx hb dX12_runResidue_68 (by decide) (fun c16 => ?_) (fun c16 => ?_)
      · rw [if_neg c16] at h
        refine lv_aload_n hx hb dX12_runResidue_167 rfl (lv_at hl 0 rfl) ?_
        refine lv_iload_n hx hb dX12_runResidue_168 rfl (lv_at hl 1 rfl) ?_
        obtain ⟨μ17, gμ17, h⟩ := bw_some h
        refine g_callVV (As := [.int a1]) (rest := []) cx hw hA (t_X12_endRun l G ad a1 μ gμ17) shm_0 rfl ml_X12_809 im_X12_endRun se_X12_endRun in_X12 co_X12_endRun rfl hd_X12_endRun rfl ⟨(Nat.le_of_ble_eq_true rfl), (Nat.le_of_ble_eq_true rfl)⟩ hl.1 rfl (Nat.le_of_ble_eq_true rfl) dX12_runResidue_169 ⟨rfl, rfl⟩ (fun H locs hw => ?_)
        exact g_vret cx hr hlk hw h dX12_runResidue_172
      · rw [if_pos c16] at h
        refine lv_aload_n hx hb dX12_runResidue_71 rfl (lv_at hl 0 rfl) ?_
        refine g_get cx hw inX12 (ci := 11) rfl 125 (by decide) rfl (v := .ref (ad 78)) shm_0 rfl fl_X12_250 dX12_runResidue_72 ?_
        refine lv_aload_n hx hb dX12_runResidue_75 rfl (lv_at hl 0 rfl) ?_
        refine g_get cx hw inX12 (ci := 11) rfl 76 (by decide) rfl (v := .int (μ.1 0 76)) shm_0 rfl fl_X12_661 dX12_runResidue_76 ?_
        refine lv_iconst (v := 1) hx hb dX12_runResidue_79 (by decide) ?_
        refine lv_isub hx hb dX12_runResidue_80 ?_
        refine g_iald cx hw shm_78 h dX12_runResidue_81 (fun h => ?_)
        obtain ⟨v19, ev19, h⟩ := bv_ex h
        refine lv_topi (fun y9 z9 => ?_)
        obtain rfl : v19 = y9 := ev19.trans z9.symm
        refine lv_istore_n (lv' := [(3, .int v19), (0, .ref (ad 0)), (1, .int a1), (2, .int a2)]) hx hb dX12_runResidue_82 rfl hl (by decide) rfl (fun ls hl => ?_)
        refine lv_iload_n hx hb dX12_runResidue_83 rfl (lv_at hl 3 rfl) ?_
        refine lv_aload_n hx hb dX12_runResidue_84 rfl (lv_at hl 1 rfl) ?_
        refine g_get cx hw inX12 (ci := 11) rfl 106 (by decide) rfl (v := .ref (ad 63)) shm_0 rfl fl_X12_205 dX12_runResidue_85 ?_
        refine lv_iload_n hx hb dX12_runResidue_88 rfl (lv_at hl 0 rfl) ?_
        refine g_iald cx hw shm_63 h dX12_runResidue_89 (fun h => ?_)
        refine lv_icmp_ge (tgt := 102) hx hb dX12_runResidue_90 (by decide) (fun c20 => ?_) (fun c20 => ?_)
        · rw [if_pos c20] at h
          refine lv_aload_n hx hb dX12_runResidue_102 rfl (lv_at hl 1 rfl) ?_
          refine lv_aload_n hx hb dX12_runResidue_103 rfl (lv_at hl 1 rfl) ?_
          refine g_get cx hw inX12 (ci := 11) rfl 107 (by decide) rfl (v := .ref (ad 64)) shm_0 rfl fl_X12_208 dX12_runResidue_104 ?_
          refine lv_iload_n hx hb dX12_runResidue_107 rfl (lv_at hl 0 rfl) ?_
          refine g_iald cx hw shm_64 h dX12_runResidue_108 (fun h => ?_)
          obtain ⟨r22, μ21, gr22, h⟩ := bd_some h
          refine g_callVI (As := [.int (μ.1 64 v19.toNatClampNeg)]) (rest := []) cx hw hA (t_X12_valueOf l G ad (μ.1 64 v19.toNatClampNeg) μ gr22) shm_0 rfl ml_X12_821 im_X12_valueOf se_X12_valueOf in_X12 co_X12_valueOf rfl hd_X12_valueOf rfl ⟨(Nat.le_of_ble_eq_true rfl), (Nat.le_of_ble_eq_true rfl)⟩ hl.1 rfl (Nat.le_of_ble_eq_true rfl) dX12_runResidue_109 ⟨rfl, rfl⟩ (fun H locs hw => ?_)
          refine lv_istore_n (lv' := [(1, .int r22), (3, .int v19), (0, .ref (ad 0)), (2, .int a2)]) hx hb dX12_runResidue_112 rfl hl (by decide) rfl (fun ls hl => ?_)
          refine lv_aload_n hx hb dX12_runResidue_113 rfl (lv_at hl 2 rfl) ?_
          refine g_get cx hw inX12 (ci := 11) rfl 124 (by decide) rfl (v := .ref (ad 77)) shm_0 rfl fl_X12_247 dX12_runResidue_114 ?_
          refine lv_aload_n hx hb dX12_runResidue_117 rfl (lv_at hl 2 rfl) ?_
          refine g_get cx hw inX12 (ci := 11) rfl 76 (by decide) rfl (v := .int (μ21.1 0 76)) shm_0 rfl fl_X12_661 dX12_runResidue_118 ?_
          refine lv_iconst (v := 1) hx hb dX12_runResidue_121 (by decide) ?_
          refine lv_isub hx hb dX12_runResidue_122 ?_
          refine g_iald cx hw shm_77 h dX12_runResidue_123 (fun h => ?_)
          obtain ⟨v23, ev23, h⟩ := bv_ex h
          refine lv_topi (fun y9 z9 => ?_)
          obtain rfl : v23 = y9 := ev23.trans z9.symm
          refine lv_istore_n (lv' := [(2, .int v23), (1, .int r22), (3, .int v19), (0, .ref (ad 0))]) hx hb dX12_runResidue_124 rfl hl (by decide) rfl (fun ls hl => ?_)
          refine lv_aload_n hx hb dX12_runResidue_125 rfl (lv_at hl 3 rfl) ?_
          refine lv_dup hx hb dX12_runResidue_126 rfl ?_
          refine g_get cx hw inX12 (ci := 11) rfl 76 (by decide) rfl (v := .int (μ21.1 0 76)) shm_0 rfl fl_X12_661 dX12_runResidue_127 ?_
          refine lv_iconst (v := 1) hx hb dX12_runResidue_130 (by decide) ?_
          refine lv_isub hx hb dX12_runResidue_131 ?_
          refine g_put cx hw inX12 (ci := 11) rfl tyX12_ok nmX12 76 (by decide) rfl rfl rfl rfl shm_0 h fl_X12_661 dX12_runResidue_132 (fun μ24 H locs h hw => ?_)
          refine lv_aload_n hx hb dX12_runResidue_135 rfl (lv_at hl 3 rfl) ?_
          refine lv_dup hx hb dX12_runResidue_136 rfl ?_
          refine g_get cx hw inX12 (ci := 11) rfl 126 (by decide) rfl (v := .int (μ24.1 0 126)) shm_0 rfl fl_X12_812 dX12_runResidue_137 ?_
          refine lv_sipush (v := 320) hx hb dX12_runResidue_140 (by decide) ?_
          refine lv_isub hx hb dX12_runResidue_143 ?_
          refine g_put cx hw inX12 (ci := 11) rfl tyX12_ok nmX12 126 (by decide) rfl rfl rfl rfl shm_0 h fl_X12_812 dX12_runResidue_144 (fun μ25 H locs h hw => ?_)
          refine lv_iload_n hx hb dX12_runResidue_147 rfl (lv_at hl 0 rfl) ?_
          refine lv_iconst (v := (-1)) hx hb dX12_runResidue_148 (by decide) ?_
          refine lv_icmp_ne (tgt := 155) hx hb dX12_runResidue_149 (by decide) (fun c26 => ?_) (fun c26 => ?_)
          · rw [if_neg c26] at h
            refine lv_aload_n hx hb dX12_runResidue_155 rfl (lv_at hl 3 rfl) ?_
            refine lv_iload_n hx hb dX12_runResidue_156 rfl (lv_at hl 0 rfl) ?_
            refine lv_iload_n hx hb dX12_runResidue_157 rfl (lv_at hl 1 rfl) ?_
            obtain ⟨μ27, gμ27, h⟩ := bw_some h
            refine g_callVV (As := [.int v23, .int r22]) (rest := []) cx hw hA (t_X12_hold l G ad v23 r22 μ25 gμ27) shm_0 rfl ml_X12_824 im_X12_hold se_X12_hold in_X12 co_X12_hold rfl hd_X12_hold rfl ⟨(Nat.le_of_ble_eq_true rfl), (Nat.le_of_ble_eq_true rfl)⟩ hl.1 rfl (Nat.le_of_ble_eq_true rfl) dX12_runResidue_158 ⟨rfl, rfl⟩ (fun H locs hw => ?_)
            obtain ⟨v29, ev29, h⟩ := bv_ex h
            refine lv_iinc (v := v29) (lv' := [(2, .int v29), (1, .int r22), (3, .int v19), (0, .ref (ad 0))]) hx hb dX12_runResidue_161 hl (k := 0) rfl (by rw [ev29]; rfl) (by decide) rfl (fun ls hl => ?_)
            refine lv_goto (tgt := 59) hx hb dX12_runResidue_164 (by decide) ?_
            exact ih r22 v29 μ27 h p e s m below meth c A ls H locs cx hr hlk hA (lv_sub hl [3, 1, 0] rfl) hw
          · rw [if_pos c26] at h
            refine lv_goto (tgt := 59) hx hb dX12_runResidue_152 (by decide) ?_
            exact ih r22 v23 μ25 h p e s m below meth c A ls H locs cx hr hlk hA (lv_sub hl [3, 1, 0] rfl) hw
        · rw [if_neg c20] at h
          refine lv_aload_n hx hb dX12_runResidue_93 rfl (lv_at hl 1 rfl) ?_
          refine lv_iload_n hx hb dX12_runResidue_94 rfl (lv_at hl 3 rfl) ?_
          obtain ⟨r31, μ30, gr31, h⟩ := bd_some h
          refine g_callVI (As := [.int a2]) (rest := []) cx hw hA (t_X12_runItem l G ad a2 μ gr31) shm_0 rfl ml_X12_818 im_X12_runItem se_X12_runItem in_X12 co_X12_runItem rfl hd_X12_runItem rfl ⟨(Nat.le_of_ble_eq_true rfl), (Nat.le_of_ble_eq_true rfl)⟩ hl.1 rfl (Nat.le_of_ble_eq_true rfl) dX12_runResidue_95 ⟨rfl, rfl⟩ (fun H locs hw => ?_)
          refine lv_istore_n (lv' := [(2, .int r31), (3, .int v19), (0, .ref (ad 0)), (1, .int a1)]) hx hb dX12_runResidue_98 rfl hl (by decide) rfl (fun ls hl => ?_)
          refine lv_goto (tgt := 59) hx hb dX12_runResidue_99 (by decide) ?_
          exact ih a1 r31 μ30 h p e s m below meth c A ls H locs cx hr hlk hA (lv_sub hl [2, 3, 0] rfl) hw
theorem p_X12_runResidue_b20_ex : ∃ f : Nat → Int32 → Int32 → Mem → Option Mem, (∀ (a1 : Int32) (a2 : Int32) (μ : Mem), f  0 a1 a2 μ = none) ∧ (∀ (n : Nat) (a1 : Int32) (a2 : Int32) (μ : Mem), f  (n + 1) a1 a2 μ = (if (μ.1 0 45) ≤ a2 then bw (p_X12_enterVariant (0 : Int32) (-1 : Int32) μ) (fun μ10 => gd (inb (0 : Int32) 25) (bv (μ10.1 62 (0 : Int32).toNatClampNeg) (fun v12 => p_X12_runResidue_b59  FUEL a1 v12 μ10))) else gd (inb a2 8) (gd (inb a2 10000) (bv (sF μ 76 a2.toNatClampNeg (μ.1 36 a2.toNatClampNeg)) (fun μ32 => bv (a2 + 1) (fun v33 => f n a1 v33 μ32)))))) := ⟨fun n => Nat.rec (fun (a1 : Int32) (a2 : Int32) (μ : Mem) => none) (fun _ ih => fun (a1 : Int32) (a2 : Int32) (μ : Mem) => (if (μ.1 0 45) ≤ a2 then bw (p_X12_enterVariant (0 : Int32) (-1 : Int32) μ) (fun μ10 => gd (inb (0 : Int32) 25) (bv (μ10.1 62 (0 : Int32).toNatClampNeg) (fun v12 => p_X12_runResidue_b59  FUEL a1 v12 μ10))) else gd (inb a2 8) (gd (inb a2 10000) (bv (sF μ 76 a2.toNatClampNeg (μ.1 36 a2.toNatClampNeg)) (fun μ32 => bv (a2 + 1) (fun v33 => ih a1 v33 μ32)))))) n, fun  _ _ _ => rfl, fun  _ _ _ _ => rfl⟩
noncomputable def p_X12_runResidue_b20 : Nat → Int32 → Int32 → Mem → Option Mem := Classical.choose p_X12_runResidue_b20_ex
theorem p_X12_runResidue_b20_z (a1 : Int32) (a2 : Int32) (μ : Mem) : p_X12_runResidue_b20  0 a1 a2 μ = none := (Classical.choose_spec p_X12_runResidue_b20_ex).1  a1 a2 μ
theorem p_X12_runResidue_b20_s (n : Nat) (a1 : Int32) (a2 : Int32) (μ : Mem) : p_X12_runResidue_b20  (n + 1) a1 a2 μ = (if (μ.1 0 45) ≤ a2 then bw (p_X12_enterVariant (0 : Int32) (-1 : Int32) μ) (fun μ10 => gd (inb (0 : Int32) 25) (bv (μ10.1 62 (0 : Int32).toNatClampNeg) (fun v12 => p_X12_runResidue_b59  FUEL a1 v12 μ10))) else gd (inb a2 8) (gd (inb a2 10000) (bv (sF μ 76 a2.toNatClampNeg (μ.1 36 a2.toNatClampNeg)) (fun μ32 => bv (a2 + 1) (fun v33 => p_X12_runResidue_b20  n a1 v33 μ32))))) := (Classical.choose_spec p_X12_runResidue_b20_ex).2  n a1 a2 μ
set_option maxHeartbeats 4000000 in
set_option maxRecDepth 100000 in
theorem t_X12_runResidue_b20 (l : Launch) (G : Gt) (ad : Nat → Nat) (av : List Value) {μz : Mem} : ∀ (n : Nat) (a1 : Int32) (a2 : Int32) (μ : Mem), p_X12_runResidue_b20  n a1 a2 μ = some μz → Bk l cX12_runResidue 4 RX12 none ({ frames := 7, cells := 0, slots := 0, locals := 164 } : Room) G av (eV 1 G ad μz) (wd 1 G ad μ) 20 [(0, .ref (ad 0)), (1, .int a1), (2, .int a2)] [] := by
  intro n
  induction n with
  | zero => intro a1 a2 μ h; rw [p_X12_runResidue_b20_z] at h; cases h
  | succ n ih =>
    intro a1 a2 μ h p e s m below meth c A ls H locs cx hr hlk hA hl hw
    have hx := cx.1
    have hb := cx.2.1
    rw [p_X12_runResidue_b20_s] at h
    refine lv_iload_n hx hb dX12_runResidue_20 rfl (lv_at hl 2 rfl) ?_
    refine lv_aload_n hx hb dX12_runResidue_21 rfl (lv_at hl 0 rfl) ?_
    refine g_get cx hw inX12 (ci := 11) rfl 45 (by decide) rfl (v := .int (μ.1 0 45)) shm_0 rfl fl_X12_509 dX12_runResidue_22 ?_
    refine lv_icmp_ge (tgt := 46) hx hb dX12_runResidue_25 (by decide) (fun c9 => ?_) (fun c9 => ?_)
    · rw [if_pos c9] at h
      refine lv_aload_n hx hb dX12_runResidue_46 rfl (lv_at hl 0 rfl) ?_
      refine lv_iconst (v := 0) hx hb dX12_runResidue_47 (by decide) ?_
      refine lv_iconst (v := (-1)) hx hb dX12_runResidue_48 (by decide) ?_
      obtain ⟨μ10, gμ10, h⟩ := bw_some h
      refine g_callVV (As := [.int 0, .int (-1)]) (rest := []) cx hw hA (t_X12_enterVariant l G ad (0 : Int32) (-1 : Int32) μ gμ10) shm_0 rfl ml_X12_815 im_X12_enterVariant se_X12_enterVariant in_X12 co_X12_enterVariant rfl hd_X12_enterVariant rfl ⟨(Nat.le_of_ble_eq_true rfl), (Nat.le_of_ble_eq_true rfl)⟩ hl.1 rfl (Nat.le_of_ble_eq_true rfl) dX12_runResidue_49 ⟨rfl, rfl⟩ (fun H locs hw => ?_)
      refine lv_aload_n hx hb dX12_runResidue_52 rfl (lv_at hl 0 rfl) ?_
      refine g_get cx hw inX12 (ci := 11) rfl 105 (by decide) rfl (v := .ref (ad 62)) shm_0 rfl fl_X12_202 dX12_runResidue_53 ?_
      refine lv_iconst (v := 0) hx hb dX12_runResidue_56 (by decide) ?_
      refine g_iald cx hw shm_62 h dX12_runResidue_57 (fun h => ?_)
      obtain ⟨v12, ev12, h⟩ := bv_ex h
      refine lv_topi (fun y9 z9 => ?_)
      obtain rfl : v12 = y9 := ev12.trans z9.symm
      refine lv_istore_n (lv' := [(2, .int v12), (0, .ref (ad 0)), (1, .int a1)]) hx hb dX12_runResidue_58 rfl hl (by decide) rfl (fun ls hl => ?_)
      exact t_X12_runResidue_b59 l G ad av  FUEL a1 v12 μ10 h p e s m below meth c A ls H locs cx hr hlk hA (lv_sub hl [1, 2, 0] rfl) hw
    · rw [if_neg c9] at h
      refine lv_aload_n hx hb dX12_runResidue_28 rfl (lv_at hl 0 rfl) ?_
      refine g_get cx hw inX12 (ci := 11) rfl 123 (by decide) rfl (v := .ref (ad 76)) shm_0 rfl fl_X12_244 dX12_runResidue_29 ?_
      refine lv_iload_n hx hb dX12_runResidue_32 rfl (lv_at hl 2 rfl) ?_
      refine lv_aload_n hx hb dX12_runResidue_33 rfl (lv_at hl 0 rfl) ?_
      refine g_get cx hw inX12 (ci := 11) rfl 59 (by decide) rfl (v := .ref (ad 36)) shm_0 rfl fl_X12_124 dX12_runResidue_34 ?_
      refine lv_iload_n hx hb dX12_runResidue_37 rfl (lv_at hl 2 rfl) ?_
      refine g_iald cx hw shm_36 h dX12_runResidue_38 (fun h => ?_)
      refine g_iast cx hw shm_76 h dX12_runResidue_39 (fun μ32 H locs h hw => ?_)
      obtain ⟨v33, ev33, h⟩ := bv_ex h
      refine lv_iinc (v := v33) (lv' := [(2, .int v33), (0, .ref (ad 0)), (1, .int a1)]) hx hb dX12_runResidue_40 hl (k := 2) rfl (by rw [ev33]; rfl) (by decide) rfl (fun ls hl => ?_)
      refine lv_goto (tgt := 20) hx hb dX12_runResidue_43 (by decide) ?_
      exact ih a1 v33 μ32 h p e s m below meth c A ls H locs cx hr hlk hA (lv_sub hl [1, 2, 0] rfl) hw
theorem p_X12_runResidue_ex : ∃ f : Mem → Option Mem, ∀  (μ : Mem), f  μ = bw (p_X12_beginRun μ) (fun μ1 => bd (p_X12_beginsCall μ1) (fun r4 μ3 => (if r4 = (0 : Int32) then bw (p_X12_endRun (-1 : Int32) μ3) (fun μ6 => some μ6) else bv (sF μ3 0 126 (0 : Int32)) (fun μ8 => p_X12_runResidue_b20  FUEL (-1 : Int32) (0 : Int32) μ8)))) := ⟨fun  (μ : Mem) => bw (p_X12_beginRun μ) (fun μ1 => bd (p_X12_beginsCall μ1) (fun r4 μ3 => (if r4 = (0 : Int32) then bw (p_X12_endRun (-1 : Int32) μ3) (fun μ6 => some μ6) else bv (sF μ3 0 126 (0 : Int32)) (fun μ8 => p_X12_runResidue_b20  FUEL (-1 : Int32) (0 : Int32) μ8)))), fun _ => rfl⟩
noncomputable def p_X12_runResidue : Mem → Option Mem := Classical.choose p_X12_runResidue_ex
theorem p_X12_runResidue_eq  (μ : Mem) : p_X12_runResidue  μ = bw (p_X12_beginRun μ) (fun μ1 => bd (p_X12_beginsCall μ1) (fun r4 μ3 => (if r4 = (0 : Int32) then bw (p_X12_endRun (-1 : Int32) μ3) (fun μ6 => some μ6) else bv (sF μ3 0 126 (0 : Int32)) (fun μ8 => p_X12_runResidue_b20  FUEL (-1 : Int32) (0 : Int32) μ8)))) := Classical.choose_spec p_X12_runResidue_ex  μ
set_option maxHeartbeats 4000000 in
set_option maxRecDepth 100000 in
theorem t_X12_runResidue (l : Launch) (G : Gt) (ad : Nat → Nat)  (μ : Mem) {μz : Mem} (h : p_X12_runResidue  μ = some μz) : Mt l yX12_runResidue cX12_runResidue 4 none ({ frames := 7, cells := 0, slots := 0, locals := 164 } : Room) G [.ref (ad 0)] (wd 1 G ad μ) (eV 1 G ad μz) := by
  refine Bk.mt (by decide) rfl (Nat.le_of_ble_eq_true rfl) ?_
  intro p e s m below meth c A ls H locs cx hr hlk hA hl hw
  have hx := cx.1
  have hb := cx.2.1
  have hl : lv_has ls 4 [(0, .ref (ad 0))] := hl
  rw [p_X12_runResidue_eq] at h
  refine lv_aload_n hx hb dX12_runResidue_0 rfl (lv_at hl 0 rfl) ?_
  obtain ⟨μ1, gμ1, h⟩ := bw_some h
  refine g_callVV (As := []) (rest := []) cx hw hA (t_X12_beginRun l G ad μ gμ1) shm_0 rfl ml_X12_806 im_X12_beginRun se_X12_beginRun in_X12 co_X12_beginRun rfl hd_X12_beginRun rfl ⟨(Nat.le_of_ble_eq_true rfl), (Nat.le_of_ble_eq_true rfl)⟩ hl.1 rfl (Nat.le_of_ble_eq_true rfl) dX12_runResidue_1 ⟨rfl, rfl⟩ (fun H locs hw => ?_)
  refine lv_iconst (v := (-1)) hx hb dX12_runResidue_4 (by decide) ?_
  refine lv_istore_n (lv' := [(1, .int (-1)), (0, .ref (ad 0))]) hx hb dX12_runResidue_5 rfl hl (by decide) rfl (fun ls hl => ?_)
  refine lv_aload_n hx hb dX12_runResidue_6 rfl (lv_at hl 1 rfl) ?_
  obtain ⟨r4, μ3, gr4, h⟩ := bd_some h
  refine g_callVI (As := []) (rest := []) cx hw hA (t_X12_beginsCall l G ad μ1 gr4) shm_0 rfl ml_X12_673 im_X12_beginsCall se_X12_beginsCall in_X12 co_X12_beginsCall rfl hd_X12_beginsCall rfl ⟨(Nat.le_of_ble_eq_true rfl), (Nat.le_of_ble_eq_true rfl)⟩ hl.1 rfl (Nat.le_of_ble_eq_true rfl) dX12_runResidue_7 ⟨rfl, rfl⟩ (fun H locs hw => ?_)
  refine lv_if_eq (tgt := 167) hx hb dX12_runResidue_10 (by decide) (fun c5 => ?_) (fun c5 => ?_)
  · rw [if_pos c5] at h
    refine lv_aload_n hx hb dX12_runResidue_167 rfl (lv_at hl 1 rfl) ?_
    refine lv_iload_n hx hb dX12_runResidue_168 rfl (lv_at hl 0 rfl) ?_
    obtain ⟨μ6, gμ6, h⟩ := bw_some h
    refine g_callVV (As := [.int (-1)]) (rest := []) cx hw hA (t_X12_endRun l G ad (-1 : Int32) μ3 gμ6) shm_0 rfl ml_X12_809 im_X12_endRun se_X12_endRun in_X12 co_X12_endRun rfl hd_X12_endRun rfl ⟨(Nat.le_of_ble_eq_true rfl), (Nat.le_of_ble_eq_true rfl)⟩ hl.1 rfl (Nat.le_of_ble_eq_true rfl) dX12_runResidue_169 ⟨rfl, rfl⟩ (fun H locs hw => ?_)
    exact g_vret cx hr hlk hw h dX12_runResidue_172
  · rw [if_neg c5] at h
    refine lv_aload_n hx hb dX12_runResidue_13 rfl (lv_at hl 1 rfl) ?_
    refine lv_iconst (v := 0) hx hb dX12_runResidue_14 (by decide) ?_
    refine g_put cx hw inX12 (ci := 11) rfl tyX12_ok nmX12 126 (by decide) rfl rfl rfl rfl shm_0 h fl_X12_812 dX12_runResidue_15 (fun μ8 H locs h hw => ?_)
    refine lv_iconst (v := 0) hx hb dX12_runResidue_18 (by decide) ?_
    refine lv_istore_n (lv' := [(2, .int 0), (1, .int (-1)), (0, .ref (ad 0))]) hx hb dX12_runResidue_19 rfl hl (by decide) rfl (fun ls hl => ?_)
    exact t_X12_runResidue_b20 l G ad _  FUEL (-1 : Int32) (0 : Int32) μ8 h p e s m below meth c A ls H locs cx hr hlk hA (lv_sub hl [2, 1, 0] rfl) hw

theorem p_X12_canRun_b16_ex : ∃ f : Mem → Option (Int32 × Mem), ∀  (μ : Mem), f  μ = (if (μ.1 0 47) = (μ.1 0 45) then some ((1 : Int32), μ) else some ((0 : Int32), μ)) := ⟨fun  (μ : Mem) => (if (μ.1 0 47) = (μ.1 0 45) then some ((1 : Int32), μ) else some ((0 : Int32), μ)), fun _ => rfl⟩
noncomputable def p_X12_canRun_b16 : Mem → Option (Int32 × Mem) := Classical.choose p_X12_canRun_b16_ex
theorem p_X12_canRun_b16_eq  (μ : Mem) : p_X12_canRun_b16  μ = (if (μ.1 0 47) = (μ.1 0 45) then some ((1 : Int32), μ) else some ((0 : Int32), μ)) := Classical.choose_spec p_X12_canRun_b16_ex  μ
set_option maxHeartbeats 4000000 in
set_option maxRecDepth 100000 in
theorem t_X12_canRun_b16 (l : Launch) (G : Gt) (ad : Nat → Nat) (av : List Value) {r : Int32} {μz : Mem}  (μ : Mem) (h : p_X12_canRun_b16   μ = some (r, μz)) : Bk l cX12_canRun 2 RX12 (some .boolean) ({ frames := 0, cells := 0, slots := 0, locals := 0 } : Room) G av (eI 1 G ad r μz) (wd 1 G ad μ) 16 [(0, .ref (ad 0))] [] := by
  intro p e s m below meth c A ls H locs cx hr hlk hA hl hw
  have hx := cx.1
  have hb := cx.2.1
  rw [p_X12_canRun_b16_eq] at h
  refine lv_aload_n hx hb dX12_canRun_16 rfl (lv_at hl 0 rfl) ?_
  refine g_get cx hw inX12 (ci := 11) rfl 47 (by decide) rfl (v := .int (μ.1 0 47)) shm_0 rfl fl_X12_512 dX12_canRun_17 ?_
  refine lv_aload_n hx hb dX12_canRun_20 rfl (lv_at hl 0 rfl) ?_
  refine g_get cx hw inX12 (ci := 11) rfl 45 (by decide) rfl (v := .int (μ.1 0 45)) shm_0 rfl fl_X12_509 dX12_canRun_21 ?_
  refine lv_icmp_ne (tgt := 31) hx hb dX12_canRun_24 (by decide) (fun c2 => ?_) (fun c2 => ?_)
  · rw [if_neg c2] at h
    refine lv_iconst (v := 0) hx hb dX12_canRun_31 (by decide) ?_
    exact g_zret cx hr hlk rfl hw h dX12_canRun_32
  · rw [if_pos c2] at h
    refine lv_iconst (v := 1) hx hb dX12_canRun_27 (by decide) ?_
    refine lv_goto (tgt := 32) hx hb dX12_canRun_28 (by decide) ?_
    exact g_zret cx hr hlk rfl hw h dX12_canRun_32
theorem p_X12_canRun_ex : ∃ f : Int32 → Mem → Option (Int32 × Mem), ∀ (a1 : Int32) (μ : Mem), f a1 μ = (if a1 = (0 : Int32) then p_X12_canRun_b16  μ else (if a1 = (1 : Int32) then (if (μ.1 0 95) = (0 : Int32) then some ((0 : Int32), μ) else p_X12_canRun_b16  μ) else some ((0 : Int32), μ))) := ⟨fun (a1 : Int32) (μ : Mem) => (if a1 = (0 : Int32) then p_X12_canRun_b16  μ else (if a1 = (1 : Int32) then (if (μ.1 0 95) = (0 : Int32) then some ((0 : Int32), μ) else p_X12_canRun_b16  μ) else some ((0 : Int32), μ))), fun _ _ => rfl⟩
noncomputable def p_X12_canRun : Int32 → Mem → Option (Int32 × Mem) := Classical.choose p_X12_canRun_ex
theorem p_X12_canRun_eq (a1 : Int32) (μ : Mem) : p_X12_canRun a1 μ = (if a1 = (0 : Int32) then p_X12_canRun_b16  μ else (if a1 = (1 : Int32) then (if (μ.1 0 95) = (0 : Int32) then some ((0 : Int32), μ) else p_X12_canRun_b16  μ) else some ((0 : Int32), μ))) := Classical.choose_spec p_X12_canRun_ex a1 μ
set_option maxHeartbeats 4000000 in
set_option maxRecDepth 100000 in
theorem t_X12_canRun (l : Launch) (G : Gt) (ad : Nat → Nat) (a1 : Int32) (μ : Mem) {r : Int32} {μz : Mem} (h : p_X12_canRun a1 μ = some (r, μz)) : Mt l yX12_canRun cX12_canRun 2 (some .boolean) ({ frames := 0, cells := 0, slots := 0, locals := 0 } : Room) G [.ref (ad 0), .int a1] (wd 1 G ad μ) (eI 1 G ad r μz) := by
  refine Bk.mt (by decide) rfl (Nat.le_of_ble_eq_true rfl) ?_
  intro p e s m below meth c A ls H locs cx hr hlk hA hl hw
  have hx := cx.1
  have hb := cx.2.1
  have hl : lv_has ls 2 [(0, .ref (ad 0)), (1, .int a1)] := hl
  rw [p_X12_canRun_eq] at h
  refine lv_iload_n hx hb dX12_canRun_0 rfl (lv_at hl 1 rfl) ?_
  refine lv_if_eq (tgt := 16) hx hb dX12_canRun_1 (by decide) (fun c1 => ?_) (fun c1 => ?_)
  · rw [if_pos c1] at h
    exact t_X12_canRun_b16 l G ad _  μ h p e s m below meth c A ls H locs cx hr hlk hA (lv_sub hl [0] rfl) hw
  · rw [if_neg c1] at h
    refine lv_iload_n hx hb dX12_canRun_4 rfl (lv_at hl 1 rfl) ?_
    refine lv_iconst (v := 1) hx hb dX12_canRun_5 (by decide) ?_
    refine lv_icmp_ne (tgt := 31) hx hb dX12_canRun_6 (by decide) (fun c3 => ?_) (fun c3 => ?_)
    · rw [if_neg c3] at h
      refine lv_iconst (v := 0) hx hb dX12_canRun_31 (by decide) ?_
      exact g_zret cx hr hlk rfl hw h dX12_canRun_32
    · rw [if_pos c3] at h
      refine lv_aload_n hx hb dX12_canRun_9 rfl (lv_at hl 0 rfl) ?_
      refine g_get cx hw inX12 (ci := 11) rfl 95 (by decide) rfl (v := .int (μ.1 0 95)) shm_0 rfl fl_X12_464 dX12_canRun_10 ?_
      refine lv_if_eq (tgt := 31) hx hb dX12_canRun_13 (by decide) (fun c4 => ?_) (fun c4 => ?_)
      · rw [if_pos c4] at h
        refine lv_iconst (v := 0) hx hb dX12_canRun_31 (by decide) ?_
        exact g_zret cx hr hlk rfl hw h dX12_canRun_32
      · rw [if_neg c4] at h
        exact t_X12_canRun_b16 l G ad _  μ h p e s m below meth c A ls H locs cx hr hlk hA (lv_sub hl [0] rfl) hw

theorem p_X12_runNow_ex : ∃ f : Int32 → Mem → Option Mem, ∀ (a1 : Int32) (μ : Mem), f a1 μ = (if a1 = (0 : Int32) then bw (p_X12_runTask μ) (fun μ4 => some μ4) else bw (p_X12_runResidue μ) (fun μ2 => some μ2)) := ⟨fun (a1 : Int32) (μ : Mem) => (if a1 = (0 : Int32) then bw (p_X12_runTask μ) (fun μ4 => some μ4) else bw (p_X12_runResidue μ) (fun μ2 => some μ2)), fun _ _ => rfl⟩
noncomputable def p_X12_runNow : Int32 → Mem → Option Mem := Classical.choose p_X12_runNow_ex
theorem p_X12_runNow_eq (a1 : Int32) (μ : Mem) : p_X12_runNow a1 μ = (if a1 = (0 : Int32) then bw (p_X12_runTask μ) (fun μ4 => some μ4) else bw (p_X12_runResidue μ) (fun μ2 => some μ2)) := Classical.choose_spec p_X12_runNow_ex a1 μ
set_option maxHeartbeats 4000000 in
set_option maxRecDepth 100000 in
theorem t_X12_runNow (l : Launch) (G : Gt) (ad : Nat → Nat) (a1 : Int32) (μ : Mem) {μz : Mem} (h : p_X12_runNow a1 μ = some μz) : Mt l yX12_runNow cX12_runNow 2 none ({ frames := 13, cells := 0, slots := 0, locals := 296 } : Room) G [.ref (ad 0), .int a1] (wd 1 G ad μ) (eV 1 G ad μz) := by
  refine Bk.mt (by decide) rfl (Nat.le_of_ble_eq_true rfl) ?_
  intro p e s m below meth c A ls H locs cx hr hlk hA hl hw
  have hx := cx.1
  have hb := cx.2.1
  have hl : lv_has ls 2 [(0, .ref (ad 0)), (1, .int a1)] := hl
  rw [p_X12_runNow_eq] at h
  refine lv_iload_n hx hb dX12_runNow_0 rfl (lv_at hl 1 rfl) ?_
  refine lv_if_ne (tgt := 11) hx hb dX12_runNow_1 (by decide) (fun c1 => ?_) (fun c1 => ?_)
  · rw [if_neg c1] at h
    refine lv_aload_n hx hb dX12_runNow_11 rfl (lv_at hl 0 rfl) ?_
    obtain ⟨μ2, gμ2, h⟩ := bw_some h
    refine g_callVV (As := []) (rest := []) cx hw hA (t_X12_runResidue l G ad μ gμ2) shm_0 rfl ml_X12_836 im_X12_runResidue se_X12_runResidue in_X12 co_X12_runResidue rfl hd_X12_runResidue rfl ⟨(Nat.le_of_ble_eq_true rfl), (Nat.le_of_ble_eq_true rfl)⟩ hl.1 rfl (Nat.le_of_ble_eq_true rfl) dX12_runNow_12 ⟨rfl, rfl⟩ (fun H locs hw => ?_)
    exact g_vret cx hr hlk hw h dX12_runNow_15
  · rw [if_pos c1] at h
    refine lv_aload_n hx hb dX12_runNow_4 rfl (lv_at hl 0 rfl) ?_
    obtain ⟨μ4, gμ4, h⟩ := bw_some h
    refine g_callVV (As := []) (rest := []) cx hw hA (t_X12_runTask l G ad μ gμ4) shm_0 rfl ml_X12_833 im_X12_runTask se_X12_runTask in_X12 co_X12_runTask rfl hd_X12_runTask rfl ⟨(Nat.le_of_ble_eq_true rfl), (Nat.le_of_ble_eq_true rfl)⟩ hl.1 rfl (Nat.le_of_ble_eq_true rfl) dX12_runNow_5 ⟨rfl, rfl⟩ (fun H locs hw => ?_)
    refine lv_goto (tgt := 15) hx hb dX12_runNow_8 (by decide) ?_
    exact g_vret cx hr hlk hw h dX12_runNow_15

theorem p_X12_run_b43_ex : ∃ f : Int32 → Int32 → Mem → Option (Int32 × Mem), ∀ (a2 : Int32) (k0 : Int32) (μ : Mem), f a2 k0 μ = bv (sF μ 0 132 k0) (fun μ8 => bw (p_X12_copy 43 (0 : Int32) (μ8.1 0 132) 79 (0 : Int32) μ8) (fun μ9 => bw (p_X12_copy 44 (0 : Int32) (μ9.1 0 132) 80 (0 : Int32) μ9) (fun μ11 => bw (p_X12_copy 42 (0 : Int32) (8 : Int32) 81 (0 : Int32) μ11) (fun μ13 => (if (μ13.1 0 68) = (0 : Int32) then bv (sF μ13 0 133 (μ13.1 0 122)) (fun μ16 => bw (p_X12_copy 74 (0 : Int32) (μ16.1 0 122) 82 (0 : Int32) μ16) (fun μ17 => bw (p_X12_copy 75 (0 : Int32) (μ17.1 0 122) 83 (0 : Int32) μ17) (fun μ19 => gd (inb a2 6) (some ((μ19.1 73 a2.toNatClampNeg), μ19))))) else gd (inb a2 6) (some ((μ13.1 73 a2.toNatClampNeg), μ13))))))) := ⟨fun (a2 : Int32) (k0 : Int32) (μ : Mem) => bv (sF μ 0 132 k0) (fun μ8 => bw (p_X12_copy 43 (0 : Int32) (μ8.1 0 132) 79 (0 : Int32) μ8) (fun μ9 => bw (p_X12_copy 44 (0 : Int32) (μ9.1 0 132) 80 (0 : Int32) μ9) (fun μ11 => bw (p_X12_copy 42 (0 : Int32) (8 : Int32) 81 (0 : Int32) μ11) (fun μ13 => (if (μ13.1 0 68) = (0 : Int32) then bv (sF μ13 0 133 (μ13.1 0 122)) (fun μ16 => bw (p_X12_copy 74 (0 : Int32) (μ16.1 0 122) 82 (0 : Int32) μ16) (fun μ17 => bw (p_X12_copy 75 (0 : Int32) (μ17.1 0 122) 83 (0 : Int32) μ17) (fun μ19 => gd (inb a2 6) (some ((μ19.1 73 a2.toNatClampNeg), μ19))))) else gd (inb a2 6) (some ((μ13.1 73 a2.toNatClampNeg), μ13))))))), fun _ _ _ => rfl⟩
noncomputable def p_X12_run_b43 : Int32 → Int32 → Mem → Option (Int32 × Mem) := Classical.choose p_X12_run_b43_ex
theorem p_X12_run_b43_eq (a2 : Int32) (k0 : Int32) (μ : Mem) : p_X12_run_b43 a2 k0 μ = bv (sF μ 0 132 k0) (fun μ8 => bw (p_X12_copy 43 (0 : Int32) (μ8.1 0 132) 79 (0 : Int32) μ8) (fun μ9 => bw (p_X12_copy 44 (0 : Int32) (μ9.1 0 132) 80 (0 : Int32) μ9) (fun μ11 => bw (p_X12_copy 42 (0 : Int32) (8 : Int32) 81 (0 : Int32) μ11) (fun μ13 => (if (μ13.1 0 68) = (0 : Int32) then bv (sF μ13 0 133 (μ13.1 0 122)) (fun μ16 => bw (p_X12_copy 74 (0 : Int32) (μ16.1 0 122) 82 (0 : Int32) μ16) (fun μ17 => bw (p_X12_copy 75 (0 : Int32) (μ17.1 0 122) 83 (0 : Int32) μ17) (fun μ19 => gd (inb a2 6) (some ((μ19.1 73 a2.toNatClampNeg), μ19))))) else gd (inb a2 6) (some ((μ13.1 73 a2.toNatClampNeg), μ13))))))) := Classical.choose_spec p_X12_run_b43_ex a2 k0 μ
set_option maxHeartbeats 4000000 in
set_option maxRecDepth 100000 in
theorem t_X12_run_b43 (l : Launch) (G : Gt) (ad : Nat → Nat) (av : List Value) {r : Int32} {μz : Mem} (a2 : Int32) (k0 : Int32) (μ : Mem) (h : p_X12_run_b43  a2 k0 μ = some (r, μz)) : Bk l cX12_run 3 RX12 (some .int) ({ frames := 14, cells := 0, slots := 0, locals := 317 } : Room) G av (eI 1 G ad r μz) (wd 1 G ad μ) 43 [(0, .ref (ad 0)), (2, .int a2)] [.int k0, .ref (ad 0)] := by
  intro p e s m below meth c A ls H locs cx hr hlk hA hl hw
  have hx := cx.1
  have hb := cx.2.1
  rw [p_X12_run_b43_eq] at h
  refine g_put cx hw inX12 (ci := 11) rfl tyX12_ok nmX12 132 (by decide) rfl rfl rfl rfl shm_0 h fl_X12_845 dX12_run_43 (fun μ8 H locs h hw => ?_)
  refine lv_aload_n hx hb dX12_run_46 rfl (lv_at hl 0 rfl) ?_
  refine g_get cx hw inX12 (ci := 11) rfl 71 (by decide) rfl (v := .ref (ad 43)) shm_0 rfl fl_X12_145 dX12_run_47 ?_
  refine lv_iconst (v := 0) hx hb dX12_run_50 (by decide) ?_
  refine lv_aload_n hx hb dX12_run_51 rfl (lv_at hl 0 rfl) ?_
  refine g_get cx hw inX12 (ci := 11) rfl 132 (by decide) rfl (v := .int (μ8.1 0 132)) shm_0 rfl fl_X12_845 dX12_run_52 ?_
  refine lv_aload_n hx hb dX12_run_55 rfl (lv_at hl 0 rfl) ?_
  refine g_get cx hw inX12 (ci := 11) rfl 127 (by decide) rfl (v := .ref (ad 79)) shm_0 rfl fl_X12_253 dX12_run_56 ?_
  refine lv_iconst (v := 0) hx hb dX12_run_59 (by decide) ?_
  obtain ⟨μ9, gμ9, h⟩ := bw_some h
  refine g_callSV (As := [.ref (ad 43), .int 0, .int (μ8.1 0 132), .ref (ad 79), .int 0]) (rest := []) cx hw hA (t_X12_copy l G ad 43 (sh_f shm_43) (0 : Int32) (μ8.1 0 132) 79 (sh_f shm_79) (0 : Int32) μ8 gμ9) ml_X12_471 st_X12_copy in_X12 co_X12_copy hd_X12_copy rfl ⟨(Nat.le_of_ble_eq_true rfl), (Nat.le_of_ble_eq_true rfl)⟩ hl.1 rfl (Nat.le_of_ble_eq_true rfl) dX12_run_60 ⟨rfl, rfl⟩ (fun H locs hw => ?_)
  refine lv_aload_n hx hb dX12_run_63 rfl (lv_at hl 0 rfl) ?_
  refine g_get cx hw inX12 (ci := 11) rfl 72 (by decide) rfl (v := .ref (ad 44)) shm_0 rfl fl_X12_148 dX12_run_64 ?_
  refine lv_iconst (v := 0) hx hb dX12_run_67 (by decide) ?_
  refine lv_aload_n hx hb dX12_run_68 rfl (lv_at hl 0 rfl) ?_
  refine g_get cx hw inX12 (ci := 11) rfl 132 (by decide) rfl (v := .int (μ9.1 0 132)) shm_0 rfl fl_X12_845 dX12_run_69 ?_
  refine lv_aload_n hx hb dX12_run_72 rfl (lv_at hl 0 rfl) ?_
  refine g_get cx hw inX12 (ci := 11) rfl 128 (by decide) rfl (v := .ref (ad 80)) shm_0 rfl fl_X12_256 dX12_run_73 ?_
  refine lv_iconst (v := 0) hx hb dX12_run_76 (by decide) ?_
  obtain ⟨μ11, gμ11, h⟩ := bw_some h
  refine g_callSV (As := [.ref (ad 44), .int 0, .int (μ9.1 0 132), .ref (ad 80), .int 0]) (rest := []) cx hw hA (t_X12_copy l G ad 44 (sh_f shm_44) (0 : Int32) (μ9.1 0 132) 80 (sh_f shm_80) (0 : Int32) μ9 gμ11) ml_X12_471 st_X12_copy in_X12 co_X12_copy hd_X12_copy rfl ⟨(Nat.le_of_ble_eq_true rfl), (Nat.le_of_ble_eq_true rfl)⟩ hl.1 rfl (Nat.le_of_ble_eq_true rfl) dX12_run_77 ⟨rfl, rfl⟩ (fun H locs hw => ?_)
  refine lv_aload_n hx hb dX12_run_80 rfl (lv_at hl 0 rfl) ?_
  refine g_get cx hw inX12 (ci := 11) rfl 70 (by decide) rfl (v := .ref (ad 42)) shm_0 rfl fl_X12_142 dX12_run_81 ?_
  refine lv_iconst (v := 0) hx hb dX12_run_84 (by decide) ?_
  refine lv_bipush (v := 8) hx hb dX12_run_85 (by decide) ?_
  refine lv_aload_n hx hb dX12_run_87 rfl (lv_at hl 0 rfl) ?_
  refine g_get cx hw inX12 (ci := 11) rfl 129 (by decide) rfl (v := .ref (ad 81)) shm_0 rfl fl_X12_259 dX12_run_88 ?_
  refine lv_iconst (v := 0) hx hb dX12_run_91 (by decide) ?_
  obtain ⟨μ13, gμ13, h⟩ := bw_some h
  refine g_callSV (As := [.ref (ad 42), .int 0, .int 8, .ref (ad 81), .int 0]) (rest := []) cx hw hA (t_X12_copy l G ad 42 (sh_f shm_42) (0 : Int32) (8 : Int32) 81 (sh_f shm_81) (0 : Int32) μ11 gμ13) ml_X12_471 st_X12_copy in_X12 co_X12_copy hd_X12_copy rfl ⟨(Nat.le_of_ble_eq_true rfl), (Nat.le_of_ble_eq_true rfl)⟩ hl.1 rfl (Nat.le_of_ble_eq_true rfl) dX12_run_92 ⟨rfl, rfl⟩ (fun H locs hw => ?_)
  refine lv_aload_n hx hb dX12_run_95 rfl (lv_at hl 0 rfl) ?_
  refine g_get cx hw inX12 (ci := 11) rfl 68 (by decide) rfl (v := .int (μ13.1 0 68)) shm_0 rfl fl_X12_557 dX12_run_96 ?_
  refine lv_if_ne (tgt := 144) hx hb dX12_run_99 (by decide) (fun c15 => ?_) (fun c15 => ?_)
  · rw [if_neg c15] at h
    refine lv_aload_n hx hb dX12_run_144 rfl (lv_at hl 0 rfl) ?_
    refine g_get cx hw inX12 (ci := 11) rfl 119 (by decide) rfl (v := .ref (ad 73)) shm_0 rfl fl_X12_235 dX12_run_145 ?_
    refine lv_iload_n hx hb dX12_run_148 rfl (lv_at hl 1 rfl) ?_
    refine g_iald cx hw shm_73 h dX12_run_149 (fun h => ?_)
    exact g_iret cx hr hlk hw h dX12_run_150
  · rw [if_pos c15] at h
    refine lv_aload_n hx hb dX12_run_102 rfl (lv_at hl 0 rfl) ?_
    refine lv_aload_n hx hb dX12_run_103 rfl (lv_at hl 0 rfl) ?_
    refine g_get cx hw inX12 (ci := 11) rfl 122 (by decide) rfl (v := .int (μ13.1 0 122)) shm_0 rfl fl_X12_797 dX12_run_104 ?_
    refine g_put cx hw inX12 (ci := 11) rfl tyX12_ok nmX12 133 (by decide) rfl rfl rfl rfl shm_0 h fl_X12_848 dX12_run_107 (fun μ16 H locs h hw => ?_)
    refine lv_aload_n hx hb dX12_run_110 rfl (lv_at hl 0 rfl) ?_
    refine g_get cx hw inX12 (ci := 11) rfl 120 (by decide) rfl (v := .ref (ad 74)) shm_0 rfl fl_X12_238 dX12_run_111 ?_
    refine lv_iconst (v := 0) hx hb dX12_run_114 (by decide) ?_
    refine lv_aload_n hx hb dX12_run_115 rfl (lv_at hl 0 rfl) ?_
    refine g_get cx hw inX12 (ci := 11) rfl 122 (by decide) rfl (v := .int (μ16.1 0 122)) shm_0 rfl fl_X12_797 dX12_run_116 ?_
    refine lv_aload_n hx hb dX12_run_119 rfl (lv_at hl 0 rfl) ?_
    refine g_get cx hw inX12 (ci := 11) rfl 130 (by decide) rfl (v := .ref (ad 82)) shm_0 rfl fl_X12_262 dX12_run_120 ?_
    refine lv_iconst (v := 0) hx hb dX12_run_123 (by decide) ?_
    obtain ⟨μ17, gμ17, h⟩ := bw_some h
    refine g_callSV (As := [.ref (ad 74), .int 0, .int (μ16.1 0 122), .ref (ad 82), .int 0]) (rest := []) cx hw hA (t_X12_copy l G ad 74 (sh_f shm_74) (0 : Int32) (μ16.1 0 122) 82 (sh_f shm_82) (0 : Int32) μ16 gμ17) ml_X12_471 st_X12_copy in_X12 co_X12_copy hd_X12_copy rfl ⟨(Nat.le_of_ble_eq_true rfl), (Nat.le_of_ble_eq_true rfl)⟩ hl.1 rfl (Nat.le_of_ble_eq_true rfl) dX12_run_124 ⟨rfl, rfl⟩ (fun H locs hw => ?_)
    refine lv_aload_n hx hb dX12_run_127 rfl (lv_at hl 0 rfl) ?_
    refine g_get cx hw inX12 (ci := 11) rfl 121 (by decide) rfl (v := .ref (ad 75)) shm_0 rfl fl_X12_241 dX12_run_128 ?_
    refine lv_iconst (v := 0) hx hb dX12_run_131 (by decide) ?_
    refine lv_aload_n hx hb dX12_run_132 rfl (lv_at hl 0 rfl) ?_
    refine g_get cx hw inX12 (ci := 11) rfl 122 (by decide) rfl (v := .int (μ17.1 0 122)) shm_0 rfl fl_X12_797 dX12_run_133 ?_
    refine lv_aload_n hx hb dX12_run_136 rfl (lv_at hl 0 rfl) ?_
    refine g_get cx hw inX12 (ci := 11) rfl 131 (by decide) rfl (v := .ref (ad 83)) shm_0 rfl fl_X12_265 dX12_run_137 ?_
    refine lv_iconst (v := 0) hx hb dX12_run_140 (by decide) ?_
    obtain ⟨μ19, gμ19, h⟩ := bw_some h
    refine g_callSV (As := [.ref (ad 75), .int 0, .int (μ17.1 0 122), .ref (ad 83), .int 0]) (rest := []) cx hw hA (t_X12_copy l G ad 75 (sh_f shm_75) (0 : Int32) (μ17.1 0 122) 83 (sh_f shm_83) (0 : Int32) μ17 gμ19) ml_X12_471 st_X12_copy in_X12 co_X12_copy hd_X12_copy rfl ⟨(Nat.le_of_ble_eq_true rfl), (Nat.le_of_ble_eq_true rfl)⟩ hl.1 rfl (Nat.le_of_ble_eq_true rfl) dX12_run_141 ⟨rfl, rfl⟩ (fun H locs hw => ?_)
    refine lv_aload_n hx hb dX12_run_144 rfl (lv_at hl 0 rfl) ?_
    refine g_get cx hw inX12 (ci := 11) rfl 119 (by decide) rfl (v := .ref (ad 73)) shm_0 rfl fl_X12_235 dX12_run_145 ?_
    refine lv_iload_n hx hb dX12_run_148 rfl (lv_at hl 1 rfl) ?_
    refine g_iald cx hw shm_73 h dX12_run_149 (fun h => ?_)
    exact g_iret cx hr hlk hw h dX12_run_150
theorem p_X12_run_ex : ∃ f : Int32 → Int32 → Mem → Option (Int32 × Mem), ∀ (a1 : Int32) (a2 : Int32) (μ : Mem), f a1 a2 μ = bd (p_X12_canRun a1 μ) (fun r2 μ1 => (if r2 = (0 : Int32) then some ((-1 : Int32), μ1) else (if (s_X12_isIn a2 (0 : Int32) (5 : Int32)) = (0 : Int32) then some ((-1 : Int32), μ1) else bw (p_X12_runNow a1 μ1) (fun μ5 => (if (60 : Int32) ≤ (μ5.1 0 73) then p_X12_run_b43  a2 (60 : Int32) μ5 else p_X12_run_b43  a2 (μ5.1 0 73) μ5))))) := ⟨fun (a1 : Int32) (a2 : Int32) (μ : Mem) => bd (p_X12_canRun a1 μ) (fun r2 μ1 => (if r2 = (0 : Int32) then some ((-1 : Int32), μ1) else (if (s_X12_isIn a2 (0 : Int32) (5 : Int32)) = (0 : Int32) then some ((-1 : Int32), μ1) else bw (p_X12_runNow a1 μ1) (fun μ5 => (if (60 : Int32) ≤ (μ5.1 0 73) then p_X12_run_b43  a2 (60 : Int32) μ5 else p_X12_run_b43  a2 (μ5.1 0 73) μ5))))), fun _ _ _ => rfl⟩
noncomputable def p_X12_run : Int32 → Int32 → Mem → Option (Int32 × Mem) := Classical.choose p_X12_run_ex
theorem p_X12_run_eq (a1 : Int32) (a2 : Int32) (μ : Mem) : p_X12_run a1 a2 μ = bd (p_X12_canRun a1 μ) (fun r2 μ1 => (if r2 = (0 : Int32) then some ((-1 : Int32), μ1) else (if (s_X12_isIn a2 (0 : Int32) (5 : Int32)) = (0 : Int32) then some ((-1 : Int32), μ1) else bw (p_X12_runNow a1 μ1) (fun μ5 => (if (60 : Int32) ≤ (μ5.1 0 73) then p_X12_run_b43  a2 (60 : Int32) μ5 else p_X12_run_b43  a2 (μ5.1 0 73) μ5))))) := Classical.choose_spec p_X12_run_ex a1 a2 μ
set_option maxHeartbeats 4000000 in
set_option maxRecDepth 100000 in
theorem t_X12_run (l : Launch) (G : Gt) (ad : Nat → Nat) (a1 : Int32) (a2 : Int32) (μ : Mem) {r : Int32} {μz : Mem} (h : p_X12_run a1 a2 μ = some (r, μz)) : Mt l yX12_run cX12_run 3 (some .int) ({ frames := 14, cells := 0, slots := 0, locals := 317 } : Room) G [.ref (ad 0), .int a1, .int a2] (wd 1 G ad μ) (eI 1 G ad r μz) := by
  refine Bk.mt (by decide) rfl (Nat.le_of_ble_eq_true rfl) ?_
  intro p e s m below meth c A ls H locs cx hr hlk hA hl hw
  have hx := cx.1
  have hb := cx.2.1
  have hl : lv_has ls 3 [(0, .ref (ad 0)), (1, .int a1), (2, .int a2)] := hl
  rw [p_X12_run_eq] at h
  refine lv_aload_n hx hb dX12_run_0 rfl (lv_at hl 0 rfl) ?_
  refine lv_iload_n hx hb dX12_run_1 rfl (lv_at hl 1 rfl) ?_
  obtain ⟨r2, μ1, gr2, h⟩ := bd_some h
  refine g_callVI (As := [.int a1]) (rest := []) cx hw hA (t_X12_canRun l G ad a1 μ gr2) shm_0 rfl ml_X12_839 im_X12_canRun se_X12_canRun in_X12 co_X12_canRun rfl hd_X12_canRun rfl ⟨(Nat.le_of_ble_eq_true rfl), (Nat.le_of_ble_eq_true rfl)⟩ hl.1 rfl (Nat.le_of_ble_eq_true rfl) dX12_run_2 ⟨rfl, rfl⟩ (fun H locs hw => ?_)
  refine lv_if_eq (tgt := 17) hx hb dX12_run_5 (by decide) (fun c3 => ?_) (fun c3 => ?_)
  · rw [if_pos c3] at h
    refine lv_iconst (v := (-1)) hx hb dX12_run_17 (by decide) ?_
    exact g_iret cx hr hlk hw h dX12_run_18
  · rw [if_neg c3] at h
    refine lv_iload_n hx hb dX12_run_8 rfl (lv_at hl 2 rfl) ?_
    refine lv_iconst (v := 0) hx hb dX12_run_9 (by decide) ?_
    refine lv_iconst (v := 5) hx hb dX12_run_10 (by decide) ?_
    refine s_callI (As := [.int a2, .int 0, .int 5]) (rest := []) cx hw hA (t_X12_isIn l G a2 (0 : Int32) (5 : Int32)) ml_X12_359 st_X12_isIn in_X12 co_X12_isIn hd_X12_isIn rfl ⟨(Nat.le_of_ble_eq_true rfl), (Nat.le_of_ble_eq_true rfl)⟩ hl.1 rfl (Nat.le_of_ble_eq_true rfl) dX12_run_11 rfl (fun H locs hw => ?_)
    refine lv_if_ne (tgt := 19) hx hb dX12_run_14 (by decide) (fun c4 => ?_) (fun c4 => ?_)
    · rw [if_neg c4] at h
      refine lv_aload_n hx hb dX12_run_19 rfl (lv_at hl 0 rfl) ?_
      refine lv_iload_n hx hb dX12_run_20 rfl (lv_at hl 1 rfl) ?_
      obtain ⟨μ5, gμ5, h⟩ := bw_some h
      refine g_callVV (As := [.int a1]) (rest := []) cx hw hA (t_X12_runNow l G ad a1 μ1 gμ5) shm_0 rfl ml_X12_842 im_X12_runNow se_X12_runNow in_X12 co_X12_runNow rfl hd_X12_runNow rfl ⟨(Nat.le_of_ble_eq_true rfl), (Nat.le_of_ble_eq_true rfl)⟩ hl.1 rfl (Nat.le_of_ble_eq_true rfl) dX12_run_21 ⟨rfl, rfl⟩ (fun H locs hw => ?_)
      refine lv_aload_n hx hb dX12_run_24 rfl (lv_at hl 0 rfl) ?_
      refine lv_aload_n hx hb dX12_run_25 rfl (lv_at hl 0 rfl) ?_
      refine g_get cx hw inX12 (ci := 11) rfl 73 (by decide) rfl (v := .int (μ5.1 0 73)) shm_0 rfl fl_X12_649 dX12_run_26 ?_
      refine lv_bipush (v := 60) hx hb dX12_run_29 (by decide) ?_
      refine lv_icmp_ge (tgt := 41) hx hb dX12_run_31 (by decide) (fun c7 => ?_) (fun c7 => ?_)
      · rw [if_pos c7] at h
        refine lv_bipush (v := 60) hx hb dX12_run_41 (by decide) ?_
        exact t_X12_run_b43 l G ad _  a2 (60 : Int32) μ5 h p e s m below meth c A ls H locs cx hr hlk hA (lv_sub hl [0, 2] rfl) hw
      · rw [if_neg c7] at h
        refine lv_aload_n hx hb dX12_run_34 rfl (lv_at hl 0 rfl) ?_
        refine g_get cx hw inX12 (ci := 11) rfl 73 (by decide) rfl (v := .int (μ5.1 0 73)) shm_0 rfl fl_X12_649 dX12_run_35 ?_
        refine lv_goto (tgt := 43) hx hb dX12_run_38 (by decide) ?_
        exact t_X12_run_b43 l G ad _  a2 (μ5.1 0 73) μ5 h p e s m below meth c A ls H locs cx hr hlk hA (lv_sub hl [0, 2] rfl) hw
    · rw [if_pos c4] at h
      refine lv_iconst (v := (-1)) hx hb dX12_run_17 (by decide) ?_
      exact g_iret cx hr hlk hw h dX12_run_18

theorem p_X12_output_ex : ∃ f : Int32 → Int32 → Mem → Option (Int32 × Mem), ∀ (a1 : Int32) (a2 : Int32) (μ : Mem), f a1 a2 μ = (if (s_X12_isIn a1 (0 : Int32) ((μ.1 0 132) - (1 : Int32))) = (0 : Int32) then some ((-1 : Int32), μ) else (if (s_X12_isIn a2 (0 : Int32) (1 : Int32)) = (0 : Int32) then some ((-1 : Int32), μ) else (if a2 = (0 : Int32) then gd (inb a1 60) (some ((μ.1 79 a1.toNatClampNeg), μ)) else gd (inb a1 60) (some ((μ.1 80 a1.toNatClampNeg), μ))))) := ⟨fun (a1 : Int32) (a2 : Int32) (μ : Mem) => (if (s_X12_isIn a1 (0 : Int32) ((μ.1 0 132) - (1 : Int32))) = (0 : Int32) then some ((-1 : Int32), μ) else (if (s_X12_isIn a2 (0 : Int32) (1 : Int32)) = (0 : Int32) then some ((-1 : Int32), μ) else (if a2 = (0 : Int32) then gd (inb a1 60) (some ((μ.1 79 a1.toNatClampNeg), μ)) else gd (inb a1 60) (some ((μ.1 80 a1.toNatClampNeg), μ))))), fun _ _ _ => rfl⟩
noncomputable def p_X12_output : Int32 → Int32 → Mem → Option (Int32 × Mem) := Classical.choose p_X12_output_ex
theorem p_X12_output_eq (a1 : Int32) (a2 : Int32) (μ : Mem) : p_X12_output a1 a2 μ = (if (s_X12_isIn a1 (0 : Int32) ((μ.1 0 132) - (1 : Int32))) = (0 : Int32) then some ((-1 : Int32), μ) else (if (s_X12_isIn a2 (0 : Int32) (1 : Int32)) = (0 : Int32) then some ((-1 : Int32), μ) else (if a2 = (0 : Int32) then gd (inb a1 60) (some ((μ.1 79 a1.toNatClampNeg), μ)) else gd (inb a1 60) (some ((μ.1 80 a1.toNatClampNeg), μ))))) := Classical.choose_spec p_X12_output_ex a1 a2 μ
set_option maxHeartbeats 4000000 in
set_option maxRecDepth 100000 in
theorem t_X12_output (l : Launch) (G : Gt) (ad : Nat → Nat) (a1 : Int32) (a2 : Int32) (μ : Mem) {r : Int32} {μz : Mem} (h : p_X12_output a1 a2 μ = some (r, μz)) : Mt l yX12_output cX12_output 3 (some .int) ({ frames := 1, cells := 0, slots := 0, locals := 22 } : Room) G [.ref (ad 0), .int a1, .int a2] (wd 1 G ad μ) (eI 1 G ad r μz) := by
  refine Bk.mt (by decide) rfl (Nat.le_of_ble_eq_true rfl) ?_
  intro p e s m below meth c A ls H locs cx hr hlk hA hl hw
  have hx := cx.1
  have hb := cx.2.1
  have hl : lv_has ls 3 [(0, .ref (ad 0)), (1, .int a1), (2, .int a2)] := hl
  rw [p_X12_output_eq] at h
  refine lv_iload_n hx hb dX12_output_0 rfl (lv_at hl 1 rfl) ?_
  refine lv_iconst (v := 0) hx hb dX12_output_1 (by decide) ?_
  refine lv_aload_n hx hb dX12_output_2 rfl (lv_at hl 0 rfl) ?_
  refine g_get cx hw inX12 (ci := 11) rfl 132 (by decide) rfl (v := .int (μ.1 0 132)) shm_0 rfl fl_X12_845 dX12_output_3 ?_
  refine lv_iconst (v := 1) hx hb dX12_output_6 (by decide) ?_
  refine lv_isub hx hb dX12_output_7 ?_
  refine s_callI (As := [.int a1, .int 0, .int ((μ.1 0 132) - (1 : Int32))]) (rest := []) cx hw hA (t_X12_isIn l G a1 (0 : Int32) ((μ.1 0 132) - (1 : Int32))) ml_X12_359 st_X12_isIn in_X12 co_X12_isIn hd_X12_isIn rfl ⟨(Nat.le_of_ble_eq_true rfl), (Nat.le_of_ble_eq_true rfl)⟩ hl.1 rfl (Nat.le_of_ble_eq_true rfl) dX12_output_8 rfl (fun H locs hw => ?_)
  refine lv_if_eq (tgt := 45) hx hb dX12_output_11 (by decide) (fun c1 => ?_) (fun c1 => ?_)
  · rw [if_pos c1] at h
    refine lv_iconst (v := (-1)) hx hb dX12_output_45 (by decide) ?_
    exact g_iret cx hr hlk hw h dX12_output_46
  · rw [if_neg c1] at h
    refine lv_iload_n hx hb dX12_output_14 rfl (lv_at hl 2 rfl) ?_
    refine lv_iconst (v := 0) hx hb dX12_output_15 (by decide) ?_
    refine lv_iconst (v := 1) hx hb dX12_output_16 (by decide) ?_
    refine s_callI (As := [.int a2, .int 0, .int 1]) (rest := []) cx hw hA (t_X12_isIn l G a2 (0 : Int32) (1 : Int32)) ml_X12_359 st_X12_isIn in_X12 co_X12_isIn hd_X12_isIn rfl ⟨(Nat.le_of_ble_eq_true rfl), (Nat.le_of_ble_eq_true rfl)⟩ hl.1 rfl (Nat.le_of_ble_eq_true rfl) dX12_output_17 rfl (fun H locs hw => ?_)
    refine lv_if_eq (tgt := 45) hx hb dX12_output_20 (by decide) (fun c2 => ?_) (fun c2 => ?_)
    · rw [if_pos c2] at h
      refine lv_iconst (v := (-1)) hx hb dX12_output_45 (by decide) ?_
      exact g_iret cx hr hlk hw h dX12_output_46
    · rw [if_neg c2] at h
      refine lv_iload_n hx hb dX12_output_23 rfl (lv_at hl 2 rfl) ?_
      refine lv_if_ne (tgt := 36) hx hb dX12_output_24 (by decide) (fun c3 => ?_) (fun c3 => ?_)
      · rw [if_neg c3] at h
        refine lv_aload_n hx hb dX12_output_36 rfl (lv_at hl 0 rfl) ?_
        refine g_get cx hw inX12 (ci := 11) rfl 128 (by decide) rfl (v := .ref (ad 80)) shm_0 rfl fl_X12_256 dX12_output_37 ?_
        refine lv_iload_n hx hb dX12_output_40 rfl (lv_at hl 1 rfl) ?_
        refine g_iald cx hw shm_80 h dX12_output_41 (fun h => ?_)
        refine lv_goto (tgt := 46) hx hb dX12_output_42 (by decide) ?_
        exact g_iret cx hr hlk hw h dX12_output_46
      · rw [if_pos c3] at h
        refine lv_aload_n hx hb dX12_output_27 rfl (lv_at hl 0 rfl) ?_
        refine g_get cx hw inX12 (ci := 11) rfl 127 (by decide) rfl (v := .ref (ad 79)) shm_0 rfl fl_X12_253 dX12_output_28 ?_
        refine lv_iload_n hx hb dX12_output_31 rfl (lv_at hl 1 rfl) ?_
        refine g_iald cx hw shm_79 h dX12_output_32 (fun h => ?_)
        refine lv_goto (tgt := 46) hx hb dX12_output_33 (by decide) ?_
        exact g_iret cx hr hlk hw h dX12_output_46

theorem p_X12_place_ex : ∃ f : Int32 → Mem → Option (Int32 × Mem), ∀ (a1 : Int32) (μ : Mem), f a1 μ = (if (s_X12_isIn a1 (0 : Int32) (7 : Int32)) = (0 : Int32) then some ((0 : Int32), μ) else gd (inb a1 8) (some ((μ.1 81 a1.toNatClampNeg), μ))) := ⟨fun (a1 : Int32) (μ : Mem) => (if (s_X12_isIn a1 (0 : Int32) (7 : Int32)) = (0 : Int32) then some ((0 : Int32), μ) else gd (inb a1 8) (some ((μ.1 81 a1.toNatClampNeg), μ))), fun _ _ => rfl⟩
noncomputable def p_X12_place : Int32 → Mem → Option (Int32 × Mem) := Classical.choose p_X12_place_ex
theorem p_X12_place_eq (a1 : Int32) (μ : Mem) : p_X12_place a1 μ = (if (s_X12_isIn a1 (0 : Int32) (7 : Int32)) = (0 : Int32) then some ((0 : Int32), μ) else gd (inb a1 8) (some ((μ.1 81 a1.toNatClampNeg), μ))) := Classical.choose_spec p_X12_place_ex a1 μ
set_option maxHeartbeats 4000000 in
set_option maxRecDepth 100000 in
theorem t_X12_place (l : Launch) (G : Gt) (ad : Nat → Nat) (a1 : Int32) (μ : Mem) {r : Int32} {μz : Mem} (h : p_X12_place a1 μ = some (r, μz)) : Mt l yX12_place cX12_place 2 (some .int) ({ frames := 1, cells := 0, slots := 0, locals := 22 } : Room) G [.ref (ad 0), .int a1] (wd 1 G ad μ) (eI 1 G ad r μz) := by
  refine Bk.mt (by decide) rfl (Nat.le_of_ble_eq_true rfl) ?_
  intro p e s m below meth c A ls H locs cx hr hlk hA hl hw
  have hx := cx.1
  have hb := cx.2.1
  have hl : lv_has ls 2 [(0, .ref (ad 0)), (1, .int a1)] := hl
  rw [p_X12_place_eq] at h
  refine lv_iload_n hx hb dX12_place_0 rfl (lv_at hl 1 rfl) ?_
  refine lv_iconst (v := 0) hx hb dX12_place_1 (by decide) ?_
  refine lv_bipush (v := 7) hx hb dX12_place_2 (by decide) ?_
  refine s_callI (As := [.int a1, .int 0, .int 7]) (rest := []) cx hw hA (t_X12_isIn l G a1 (0 : Int32) (7 : Int32)) ml_X12_359 st_X12_isIn in_X12 co_X12_isIn hd_X12_isIn rfl ⟨(Nat.le_of_ble_eq_true rfl), (Nat.le_of_ble_eq_true rfl)⟩ hl.1 rfl (Nat.le_of_ble_eq_true rfl) dX12_place_4 rfl (fun H locs hw => ?_)
  refine lv_if_eq (tgt := 19) hx hb dX12_place_7 (by decide) (fun c1 => ?_) (fun c1 => ?_)
  · rw [if_pos c1] at h
    refine lv_iconst (v := 0) hx hb dX12_place_19 (by decide) ?_
    exact g_iret cx hr hlk hw h dX12_place_20
  · rw [if_neg c1] at h
    refine lv_aload_n hx hb dX12_place_10 rfl (lv_at hl 0 rfl) ?_
    refine g_get cx hw inX12 (ci := 11) rfl 129 (by decide) rfl (v := .ref (ad 81)) shm_0 rfl fl_X12_259 dX12_place_11 ?_
    refine lv_iload_n hx hb dX12_place_14 rfl (lv_at hl 1 rfl) ?_
    refine g_iald cx hw shm_81 h dX12_place_15 (fun h => ?_)
    refine lv_goto (tgt := 20) hx hb dX12_place_16 (by decide) ?_
    exact g_iret cx hr hlk hw h dX12_place_20

theorem p_X12_areLike_b2_ex : ∃ f : Nat → Nat → Nat → Int32 → Int32 → Mem → Option (Int32 × Mem), (∀ (a0 : Nat) (a1 : Nat) (a2 : Int32) (a3 : Int32) (μ : Mem), f  0 a0 a1 a2 a3 μ = none) ∧ (∀ (n : Nat) (a0 : Nat) (a1 : Nat) (a2 : Int32) (a3 : Int32) (μ : Mem), f  (n + 1) a0 a1 a2 a3 μ = (if a2 ≤ a3 then some ((1 : Int32), μ) else gd (inb a3 ((sh 1 a0).2)) (gd (inb a3 ((sh 1 a1).2)) ((if (μ.1 a0 a3.toNatClampNeg) = (μ.1 a1 a3.toNatClampNeg) then bv (a3 + 1) (fun v3 => f n a0 a1 a2 v3 μ) else some ((0 : Int32), μ)))))) := ⟨fun n => Nat.rec (fun (a0 : Nat) (a1 : Nat) (a2 : Int32) (a3 : Int32) (μ : Mem) => none) (fun _ ih => fun (a0 : Nat) (a1 : Nat) (a2 : Int32) (a3 : Int32) (μ : Mem) => (if a2 ≤ a3 then some ((1 : Int32), μ) else gd (inb a3 ((sh 1 a0).2)) (gd (inb a3 ((sh 1 a1).2)) ((if (μ.1 a0 a3.toNatClampNeg) = (μ.1 a1 a3.toNatClampNeg) then bv (a3 + 1) (fun v3 => ih a0 a1 a2 v3 μ) else some ((0 : Int32), μ)))))) n, fun  _ _ _ _ _ => rfl, fun  _ _ _ _ _ _ => rfl⟩
noncomputable def p_X12_areLike_b2 : Nat → Nat → Nat → Int32 → Int32 → Mem → Option (Int32 × Mem) := Classical.choose p_X12_areLike_b2_ex
theorem p_X12_areLike_b2_z (a0 : Nat) (a1 : Nat) (a2 : Int32) (a3 : Int32) (μ : Mem) : p_X12_areLike_b2  0 a0 a1 a2 a3 μ = none := (Classical.choose_spec p_X12_areLike_b2_ex).1  a0 a1 a2 a3 μ
theorem p_X12_areLike_b2_s (n : Nat) (a0 : Nat) (a1 : Nat) (a2 : Int32) (a3 : Int32) (μ : Mem) : p_X12_areLike_b2  (n + 1) a0 a1 a2 a3 μ = (if a2 ≤ a3 then some ((1 : Int32), μ) else gd (inb a3 ((sh 1 a0).2)) (gd (inb a3 ((sh 1 a1).2)) ((if (μ.1 a0 a3.toNatClampNeg) = (μ.1 a1 a3.toNatClampNeg) then bv (a3 + 1) (fun v3 => p_X12_areLike_b2  n a0 a1 a2 v3 μ) else some ((0 : Int32), μ))))) := (Classical.choose_spec p_X12_areLike_b2_ex).2  n a0 a1 a2 a3 μ
set_option maxHeartbeats 4000000 in
set_option maxRecDepth 100000 in
theorem t_X12_areLike_b2 (l : Launch) (G : Gt) (ad : Nat → Nat) (av : List Value) {r : Int32} {μz : Mem} : ∀ (n : Nat) (a0 : Nat) (q0 : (sh 1 a0).1 = 1) (a1 : Nat) (q1 : (sh 1 a1).1 = 1) (a2 : Int32) (a3 : Int32) (μ : Mem), p_X12_areLike_b2  n a0 a1 a2 a3 μ = some (r, μz) → Bk l cX12_areLike 4 RX12 (some .boolean) ({ frames := 0, cells := 0, slots := 0, locals := 0 } : Room) G av (eI 1 G ad r μz) (wd 1 G ad μ) 2 [(0, .ref (ad a0)), (1, .ref (ad a1)), (2, .int a2), (3, .int a3)] [] := by
  intro n
  induction n with
  | zero => intro a0 q0 a1 q1 a2 a3 μ h; rw [p_X12_areLike_b2_z] at h; cases h
  | succ n ih =>
    intro a0 q0 a1 q1 a2 a3 μ h p e s m below meth c A ls H locs cx hr hlk hA hl hw
    have hx := cx.1
    have hb := cx.2.1
    rw [p_X12_areLike_b2_s] at h
    refine lv_iload_n hx hb dX12_areLike_2 rfl (lv_at hl 3 rfl) ?_
    refine lv_iload_n hx hb dX12_areLike_3 rfl (lv_at hl 2 rfl) ?_
    refine lv_icmp_ge (tgt := 24) hx hb dX12_areLike_4 (by decide) (fun c1 => ?_) (fun c1 => ?_)
    · rw [if_pos c1] at h
      refine lv_iconst (v := 1) hx hb dX12_areLike_24 (by decide) ?_
      exact g_zret cx hr hlk rfl hw h dX12_areLike_25
    · rw [if_neg c1] at h
      refine lv_aload_n hx hb dX12_areLike_7 rfl (lv_at hl 0 rfl) ?_
      refine lv_iload_n hx hb dX12_areLike_8 rfl (lv_at hl 3 rfl) ?_
      refine g_iald cx hw (sh_k q0) h dX12_areLike_9 (fun h => ?_)
      refine lv_aload_n hx hb dX12_areLike_10 rfl (lv_at hl 1 rfl) ?_
      refine lv_iload_n hx hb dX12_areLike_11 rfl (lv_at hl 3 rfl) ?_
      refine g_iald cx hw (sh_k q1) h dX12_areLike_12 (fun h => ?_)
      refine lv_icmp_eq (tgt := 18) hx hb dX12_areLike_13 (by decide) (fun c2 => ?_) (fun c2 => ?_)
      · rw [if_pos c2] at h
        obtain ⟨v3, ev3, h⟩ := bv_ex h
        refine lv_iinc (v := v3) (lv' := [(3, .int v3), (0, .ref (ad a0)), (1, .ref (ad a1)), (2, .int a2)]) hx hb dX12_areLike_18 hl (k := 3) rfl (by rw [ev3]; rfl) (by decide) rfl (fun ls hl => ?_)
        refine lv_goto (tgt := 2) hx hb dX12_areLike_21 (by decide) ?_
        exact ih a0 (sh_f (sh_k q0)) a1 (sh_f (sh_k q1)) a2 v3 μ h p e s m below meth c A ls H locs cx hr hlk hA (lv_sub hl [1, 2, 3, 0] rfl) hw
      · rw [if_neg c2] at h
        refine lv_iconst (v := 0) hx hb dX12_areLike_16 (by decide) ?_
        exact g_zret cx hr hlk rfl hw h dX12_areLike_17
theorem p_X12_areLike_ex : ∃ f : Nat → Nat → Int32 → Mem → Option (Int32 × Mem), ∀ (a0 : Nat) (a1 : Nat) (a2 : Int32) (μ : Mem), f a0 a1 a2 μ = p_X12_areLike_b2  FUEL a0 a1 a2 (0 : Int32) μ := ⟨fun (a0 : Nat) (a1 : Nat) (a2 : Int32) (μ : Mem) => p_X12_areLike_b2  FUEL a0 a1 a2 (0 : Int32) μ, fun _ _ _ _ => rfl⟩
noncomputable def p_X12_areLike : Nat → Nat → Int32 → Mem → Option (Int32 × Mem) := Classical.choose p_X12_areLike_ex
theorem p_X12_areLike_eq (a0 : Nat) (a1 : Nat) (a2 : Int32) (μ : Mem) : p_X12_areLike a0 a1 a2 μ = p_X12_areLike_b2  FUEL a0 a1 a2 (0 : Int32) μ := Classical.choose_spec p_X12_areLike_ex a0 a1 a2 μ
set_option maxHeartbeats 4000000 in
set_option maxRecDepth 100000 in
theorem t_X12_areLike (l : Launch) (G : Gt) (ad : Nat → Nat) (a0 : Nat) (q0 : (sh 1 a0).1 = 1) (a1 : Nat) (q1 : (sh 1 a1).1 = 1) (a2 : Int32) (μ : Mem) {r : Int32} {μz : Mem} (h : p_X12_areLike a0 a1 a2 μ = some (r, μz)) : Mt l yX12_areLike cX12_areLike 4 (some .boolean) ({ frames := 0, cells := 0, slots := 0, locals := 0 } : Room) G [.ref (ad a0), .ref (ad a1), .int a2] (wd 1 G ad μ) (eI 1 G ad r μz) := by
  refine Bk.mt (by decide) rfl (Nat.le_of_ble_eq_true rfl) ?_
  intro p e s m below meth c A ls H locs cx hr hlk hA hl hw
  have hx := cx.1
  have hb := cx.2.1
  have hl : lv_has ls 4 [(0, .ref (ad a0)), (1, .ref (ad a1)), (2, .int a2)] := hl
  rw [p_X12_areLike_eq] at h
  refine lv_iconst (v := 0) hx hb dX12_areLike_0 (by decide) ?_
  refine lv_istore_n (lv' := [(3, .int 0), (0, .ref (ad a0)), (1, .ref (ad a1)), (2, .int a2)]) hx hb dX12_areLike_1 rfl hl (by decide) rfl (fun ls hl => ?_)
  exact t_X12_areLike_b2 l G ad _  FUEL a0 (sh_f (sh_k q0)) a1 (sh_f (sh_k q1)) a2 (0 : Int32) μ h p e s m below meth c A ls H locs cx hr hlk hA (lv_sub hl [1, 2, 3, 0] rfl) hw

theorem p_X12_areLikeFrom_b3_ex : ∃ f : Nat → Nat → Int32 → Nat → Int32 → Int32 → Mem → Option (Int32 × Mem), (∀ (a1 : Nat) (a2 : Int32) (a3 : Nat) (a4 : Int32) (a5 : Int32) (μ : Mem), f  0 a1 a2 a3 a4 a5 μ = none) ∧ (∀ (n : Nat) (a1 : Nat) (a2 : Int32) (a3 : Nat) (a4 : Int32) (a5 : Int32) (μ : Mem), f  (n + 1) a1 a2 a3 a4 a5 μ = (if a2 ≤ a5 then some ((1 : Int32), μ) else gd (inb a5 ((sh 1 a1).2)) (gd (inb (a4 + a5) ((sh 1 a3).2)) ((if (μ.1 a1 a5.toNatClampNeg) = (μ.1 a3 (a4 + a5).toNatClampNeg) then bv (a5 + 1) (fun v3 => f n a1 a2 a3 a4 v3 μ) else some ((0 : Int32), μ)))))) := ⟨fun n => Nat.rec (fun (a1 : Nat) (a2 : Int32) (a3 : Nat) (a4 : Int32) (a5 : Int32) (μ : Mem) => none) (fun _ ih => fun (a1 : Nat) (a2 : Int32) (a3 : Nat) (a4 : Int32) (a5 : Int32) (μ : Mem) => (if a2 ≤ a5 then some ((1 : Int32), μ) else gd (inb a5 ((sh 1 a1).2)) (gd (inb (a4 + a5) ((sh 1 a3).2)) ((if (μ.1 a1 a5.toNatClampNeg) = (μ.1 a3 (a4 + a5).toNatClampNeg) then bv (a5 + 1) (fun v3 => ih a1 a2 a3 a4 v3 μ) else some ((0 : Int32), μ)))))) n, fun  _ _ _ _ _ _ => rfl, fun  _ _ _ _ _ _ _ => rfl⟩
noncomputable def p_X12_areLikeFrom_b3 : Nat → Nat → Int32 → Nat → Int32 → Int32 → Mem → Option (Int32 × Mem) := Classical.choose p_X12_areLikeFrom_b3_ex
theorem p_X12_areLikeFrom_b3_z (a1 : Nat) (a2 : Int32) (a3 : Nat) (a4 : Int32) (a5 : Int32) (μ : Mem) : p_X12_areLikeFrom_b3  0 a1 a2 a3 a4 a5 μ = none := (Classical.choose_spec p_X12_areLikeFrom_b3_ex).1  a1 a2 a3 a4 a5 μ
theorem p_X12_areLikeFrom_b3_s (n : Nat) (a1 : Nat) (a2 : Int32) (a3 : Nat) (a4 : Int32) (a5 : Int32) (μ : Mem) : p_X12_areLikeFrom_b3  (n + 1) a1 a2 a3 a4 a5 μ = (if a2 ≤ a5 then some ((1 : Int32), μ) else gd (inb a5 ((sh 1 a1).2)) (gd (inb (a4 + a5) ((sh 1 a3).2)) ((if (μ.1 a1 a5.toNatClampNeg) = (μ.1 a3 (a4 + a5).toNatClampNeg) then bv (a5 + 1) (fun v3 => p_X12_areLikeFrom_b3  n a1 a2 a3 a4 v3 μ) else some ((0 : Int32), μ))))) := (Classical.choose_spec p_X12_areLikeFrom_b3_ex).2  n a1 a2 a3 a4 a5 μ
set_option maxHeartbeats 4000000 in
set_option maxRecDepth 100000 in
theorem t_X12_areLikeFrom_b3 (l : Launch) (G : Gt) (ad : Nat → Nat) (av : List Value) {r : Int32} {μz : Mem} : ∀ (n : Nat) (a1 : Nat) (q1 : (sh 1 a1).1 = 1) (a2 : Int32) (a3 : Nat) (q3 : (sh 1 a3).1 = 1) (a4 : Int32) (a5 : Int32) (μ : Mem), p_X12_areLikeFrom_b3  n a1 a2 a3 a4 a5 μ = some (r, μz) → Bk l cX12_areLikeFrom 6 RX12 (some .boolean) ({ frames := 0, cells := 0, slots := 0, locals := 0 } : Room) G av (eI 1 G ad r μz) (wd 1 G ad μ) 3 [(1, .ref (ad a1)), (2, .int a2), (3, .ref (ad a3)), (4, .int a4), (5, .int a5)] [] := by
  intro n
  induction n with
  | zero => intro a1 q1 a2 a3 q3 a4 a5 μ h; rw [p_X12_areLikeFrom_b3_z] at h; cases h
  | succ n ih =>
    intro a1 q1 a2 a3 q3 a4 a5 μ h p e s m below meth c A ls H locs cx hr hlk hA hl hw
    have hx := cx.1
    have hb := cx.2.1
    rw [p_X12_areLikeFrom_b3_s] at h
    refine lv_iload hx hb dX12_areLikeFrom_3 (lv_at hl 4 rfl) ?_
    refine lv_iload_n hx hb dX12_areLikeFrom_5 rfl (lv_at hl 1 rfl) ?_
    refine lv_icmp_ge (tgt := 31) hx hb dX12_areLikeFrom_6 (by decide) (fun c1 => ?_) (fun c1 => ?_)
    · rw [if_pos c1] at h
      refine lv_iconst (v := 1) hx hb dX12_areLikeFrom_31 (by decide) ?_
      exact g_zret cx hr hlk rfl hw h dX12_areLikeFrom_32
    · rw [if_neg c1] at h
      refine lv_aload_n hx hb dX12_areLikeFrom_9 rfl (lv_at hl 0 rfl) ?_
      refine lv_iload hx hb dX12_areLikeFrom_10 (lv_at hl 4 rfl) ?_
      refine g_iald cx hw (sh_k q1) h dX12_areLikeFrom_12 (fun h => ?_)
      refine lv_aload_n hx hb dX12_areLikeFrom_13 rfl (lv_at hl 2 rfl) ?_
      refine lv_iload hx hb dX12_areLikeFrom_14 (lv_at hl 3 rfl) ?_
      refine lv_iload hx hb dX12_areLikeFrom_16 (lv_at hl 4 rfl) ?_
      refine lv_iadd hx hb dX12_areLikeFrom_18 ?_
      refine g_iald cx hw (sh_k q3) h dX12_areLikeFrom_19 (fun h => ?_)
      refine lv_icmp_eq (tgt := 25) hx hb dX12_areLikeFrom_20 (by decide) (fun c2 => ?_) (fun c2 => ?_)
      · rw [if_pos c2] at h
        obtain ⟨v3, ev3, h⟩ := bv_ex h
        refine lv_iinc (v := v3) (lv' := [(5, .int v3), (1, .ref (ad a1)), (2, .int a2), (3, .ref (ad a3)), (4, .int a4)]) hx hb dX12_areLikeFrom_25 hl (k := 4) rfl (by rw [ev3]; rfl) (by decide) rfl (fun ls hl => ?_)
        refine lv_goto (tgt := 3) hx hb dX12_areLikeFrom_28 (by decide) ?_
        exact ih a1 (sh_f (sh_k q1)) a2 a3 (sh_f (sh_k q3)) a4 v3 μ h p e s m below meth c A ls H locs cx hr hlk hA (lv_sub hl [1, 2, 3, 4, 0] rfl) hw
      · rw [if_neg c2] at h
        refine lv_iconst (v := 0) hx hb dX12_areLikeFrom_23 (by decide) ?_
        exact g_zret cx hr hlk rfl hw h dX12_areLikeFrom_24
theorem p_X12_areLikeFrom_ex : ∃ f : Nat → Int32 → Nat → Int32 → Mem → Option (Int32 × Mem), ∀ (a1 : Nat) (a2 : Int32) (a3 : Nat) (a4 : Int32) (μ : Mem), f a1 a2 a3 a4 μ = p_X12_areLikeFrom_b3  FUEL a1 a2 a3 a4 (0 : Int32) μ := ⟨fun (a1 : Nat) (a2 : Int32) (a3 : Nat) (a4 : Int32) (μ : Mem) => p_X12_areLikeFrom_b3  FUEL a1 a2 a3 a4 (0 : Int32) μ, fun _ _ _ _ _ => rfl⟩
noncomputable def p_X12_areLikeFrom : Nat → Int32 → Nat → Int32 → Mem → Option (Int32 × Mem) := Classical.choose p_X12_areLikeFrom_ex
theorem p_X12_areLikeFrom_eq (a1 : Nat) (a2 : Int32) (a3 : Nat) (a4 : Int32) (μ : Mem) : p_X12_areLikeFrom a1 a2 a3 a4 μ = p_X12_areLikeFrom_b3  FUEL a1 a2 a3 a4 (0 : Int32) μ := Classical.choose_spec p_X12_areLikeFrom_ex a1 a2 a3 a4 μ
set_option maxHeartbeats 4000000 in
set_option maxRecDepth 100000 in
theorem t_X12_areLikeFrom (l : Launch) (G : Gt) (ad : Nat → Nat) (a1 : Nat) (q1 : (sh 1 a1).1 = 1) (a2 : Int32) (a3 : Nat) (q3 : (sh 1 a3).1 = 1) (a4 : Int32) (μ : Mem) {r : Int32} {μz : Mem} (h : p_X12_areLikeFrom a1 a2 a3 a4 μ = some (r, μz)) : Mt l yX12_areLikeFrom cX12_areLikeFrom 6 (some .boolean) ({ frames := 0, cells := 0, slots := 0, locals := 0 } : Room) G [.ref (ad 0), .ref (ad a1), .int a2, .ref (ad a3), .int a4] (wd 1 G ad μ) (eI 1 G ad r μz) := by
  refine Bk.mt (by decide) rfl (Nat.le_of_ble_eq_true rfl) ?_
  intro p e s m below meth c A ls H locs cx hr hlk hA hl hw
  have hx := cx.1
  have hb := cx.2.1
  have hl : lv_has ls 6 [(0, .ref (ad 0)), (1, .ref (ad a1)), (2, .int a2), (3, .ref (ad a3)), (4, .int a4)] := hl
  rw [p_X12_areLikeFrom_eq] at h
  refine lv_iconst (v := 0) hx hb dX12_areLikeFrom_0 (by decide) ?_
  refine lv_istore (lv' := [(5, .int 0), (0, .ref (ad 0)), (1, .ref (ad a1)), (2, .int a2), (3, .ref (ad a3)), (4, .int a4)]) hx hb dX12_areLikeFrom_1 hl (by decide) rfl (fun ls hl => ?_)
  exact t_X12_areLikeFrom_b3 l G ad _  FUEL a1 (sh_f (sh_k q1)) a2 a3 (sh_f (sh_k q3)) a4 (0 : Int32) μ h p e s m below meth c A ls H locs cx hr hlk hA (lv_sub hl [2, 3, 4, 5, 0] rfl) hw

theorem p_X12_agree_b216_ex : ∃ f : Int32 → Int32 → Mem → Option (Int32 × Mem), ∀ (a4 : Int32) (k0 : Int32) (μ : Mem), f a4 k0 μ = (if k0 = (0 : Int32) then some ((0 : Int32), μ) else bd (p_X12_areLikeFrom 74 a4 84 (60 : Int32) μ) (fun r28 μ27 => (if r28 = (0 : Int32) then some ((0 : Int32), μ27) else bd (p_X12_areLikeFrom 75 a4 85 (60 : Int32) μ27) (fun r31 μ30 => (if r31 = (0 : Int32) then some ((0 : Int32), μ30) else some ((1 : Int32), μ30)))))) := ⟨fun (a4 : Int32) (k0 : Int32) (μ : Mem) => (if k0 = (0 : Int32) then some ((0 : Int32), μ) else bd (p_X12_areLikeFrom 74 a4 84 (60 : Int32) μ) (fun r28 μ27 => (if r28 = (0 : Int32) then some ((0 : Int32), μ27) else bd (p_X12_areLikeFrom 75 a4 85 (60 : Int32) μ27) (fun r31 μ30 => (if r31 = (0 : Int32) then some ((0 : Int32), μ30) else some ((1 : Int32), μ30)))))), fun _ _ _ => rfl⟩
noncomputable def p_X12_agree_b216 : Int32 → Int32 → Mem → Option (Int32 × Mem) := Classical.choose p_X12_agree_b216_ex
theorem p_X12_agree_b216_eq (a4 : Int32) (k0 : Int32) (μ : Mem) : p_X12_agree_b216 a4 k0 μ = (if k0 = (0 : Int32) then some ((0 : Int32), μ) else bd (p_X12_areLikeFrom 74 a4 84 (60 : Int32) μ) (fun r28 μ27 => (if r28 = (0 : Int32) then some ((0 : Int32), μ27) else bd (p_X12_areLikeFrom 75 a4 85 (60 : Int32) μ27) (fun r31 μ30 => (if r31 = (0 : Int32) then some ((0 : Int32), μ30) else some ((1 : Int32), μ30)))))) := Classical.choose_spec p_X12_agree_b216_ex a4 k0 μ
set_option maxHeartbeats 4000000 in
set_option maxRecDepth 100000 in
theorem t_X12_agree_b216 (l : Launch) (G : Gt) (ad : Nat → Nat) (av : List Value) {r : Int32} {μz : Mem} (a4 : Int32) (k0 : Int32) (μ : Mem) (h : p_X12_agree_b216  a4 k0 μ = some (r, μz)) : Bk l cX12_agree 6 RX12 (some .int) ({ frames := 13, cells := 0, slots := 0, locals := 296 } : Room) G av (eI 1 G ad r μz) (wd 1 G ad μ) 216 [(0, .ref (ad 0)), (4, .int a4)] [.int k0] := by
  intro p e s m below meth c A ls H locs cx hr hlk hA hl hw
  have hx := cx.1
  have hb := cx.2.1
  rw [p_X12_agree_b216_eq] at h
  refine lv_istore (lv' := [(5, .int k0), (0, .ref (ad 0)), (4, .int a4)]) hx hb dX12_agree_216 hl (by decide) rfl (fun ls hl => ?_)
  refine lv_iload hx hb dX12_agree_218 (lv_at hl 0 rfl) ?_
  refine lv_if_eq (tgt := 265) hx hb dX12_agree_220 (by decide) (fun c26 => ?_) (fun c26 => ?_)
  · rw [if_pos c26] at h
    refine lv_iconst (v := 0) hx hb dX12_agree_265 (by decide) ?_
    exact g_iret cx hr hlk hw h dX12_agree_266
  · rw [if_neg c26] at h
    refine lv_aload_n hx hb dX12_agree_223 rfl (lv_at hl 1 rfl) ?_
    refine lv_aload_n hx hb dX12_agree_224 rfl (lv_at hl 1 rfl) ?_
    refine g_get cx hw inX12 (ci := 11) rfl 120 (by decide) rfl (v := .ref (ad 74)) shm_0 rfl fl_X12_238 dX12_agree_225 ?_
    refine lv_iload hx hb dX12_agree_228 (lv_at hl 2 rfl) ?_
    refine lv_aload_n hx hb dX12_agree_230 rfl (lv_at hl 1 rfl) ?_
    refine g_get cx hw inX12 (ci := 11) rfl 134 (by decide) rfl (v := .ref (ad 84)) shm_0 rfl fl_X12_268 dX12_agree_231 ?_
    refine lv_bipush (v := 60) hx hb dX12_agree_234 (by decide) ?_
    obtain ⟨r28, μ27, gr28, h⟩ := bd_some h
    refine g_callVI (As := [.ref (ad 74), .int a4, .ref (ad 84), .int 60]) (rest := []) cx hw hA (t_X12_areLikeFrom l G ad 74 (sh_f shm_74) a4 84 (sh_f shm_84) (60 : Int32) μ gr28) shm_0 rfl ml_X12_855 im_X12_areLikeFrom se_X12_areLikeFrom in_X12 co_X12_areLikeFrom rfl hd_X12_areLikeFrom rfl ⟨(Nat.le_of_ble_eq_true rfl), (Nat.le_of_ble_eq_true rfl)⟩ hl.1 rfl (Nat.le_of_ble_eq_true rfl) dX12_agree_236 ⟨rfl, rfl⟩ (fun H locs hw => ?_)
    refine lv_if_eq (tgt := 265) hx hb dX12_agree_239 (by decide) (fun c29 => ?_) (fun c29 => ?_)
    · rw [if_pos c29] at h
      refine lv_iconst (v := 0) hx hb dX12_agree_265 (by decide) ?_
      exact g_iret cx hr hlk hw h dX12_agree_266
    · rw [if_neg c29] at h
      refine lv_aload_n hx hb dX12_agree_242 rfl (lv_at hl 1 rfl) ?_
      refine lv_aload_n hx hb dX12_agree_243 rfl (lv_at hl 1 rfl) ?_
      refine g_get cx hw inX12 (ci := 11) rfl 121 (by decide) rfl (v := .ref (ad 75)) shm_0 rfl fl_X12_241 dX12_agree_244 ?_
      refine lv_iload hx hb dX12_agree_247 (lv_at hl 2 rfl) ?_
      refine lv_aload_n hx hb dX12_agree_249 rfl (lv_at hl 1 rfl) ?_
      refine g_get cx hw inX12 (ci := 11) rfl 135 (by decide) rfl (v := .ref (ad 85)) shm_0 rfl fl_X12_271 dX12_agree_250 ?_
      refine lv_bipush (v := 60) hx hb dX12_agree_253 (by decide) ?_
      obtain ⟨r31, μ30, gr31, h⟩ := bd_some h
      refine g_callVI (As := [.ref (ad 75), .int a4, .ref (ad 85), .int 60]) (rest := []) cx hw hA (t_X12_areLikeFrom l G ad 75 (sh_f shm_75) a4 85 (sh_f shm_85) (60 : Int32) μ27 gr31) shm_0 rfl ml_X12_855 im_X12_areLikeFrom se_X12_areLikeFrom in_X12 co_X12_areLikeFrom rfl hd_X12_areLikeFrom rfl ⟨(Nat.le_of_ble_eq_true rfl), (Nat.le_of_ble_eq_true rfl)⟩ hl.1 rfl (Nat.le_of_ble_eq_true rfl) dX12_agree_255 ⟨rfl, rfl⟩ (fun H locs hw => ?_)
      refine lv_if_eq (tgt := 265) hx hb dX12_agree_258 (by decide) (fun c32 => ?_) (fun c32 => ?_)
      · rw [if_pos c32] at h
        refine lv_iconst (v := 0) hx hb dX12_agree_265 (by decide) ?_
        exact g_iret cx hr hlk hw h dX12_agree_266
      · rw [if_neg c32] at h
        refine lv_iconst (v := 1) hx hb dX12_agree_261 (by decide) ?_
        refine lv_goto (tgt := 266) hx hb dX12_agree_262 (by decide) ?_
        exact g_iret cx hr hlk hw h dX12_agree_266
theorem p_X12_agree_b215_ex : ∃ f : Int32 → Mem → Option (Int32 × Mem), ∀ (a4 : Int32) (μ : Mem), f a4 μ = p_X12_agree_b216  a4 (0 : Int32) μ := ⟨fun (a4 : Int32) (μ : Mem) => p_X12_agree_b216  a4 (0 : Int32) μ, fun _ _ => rfl⟩
noncomputable def p_X12_agree_b215 : Int32 → Mem → Option (Int32 × Mem) := Classical.choose p_X12_agree_b215_ex
theorem p_X12_agree_b215_eq (a4 : Int32) (μ : Mem) : p_X12_agree_b215 a4 μ = p_X12_agree_b216  a4 (0 : Int32) μ := Classical.choose_spec p_X12_agree_b215_ex a4 μ
set_option maxHeartbeats 4000000 in
set_option maxRecDepth 100000 in
theorem t_X12_agree_b215 (l : Launch) (G : Gt) (ad : Nat → Nat) (av : List Value) {r : Int32} {μz : Mem} (a4 : Int32) (μ : Mem) (h : p_X12_agree_b215  a4 μ = some (r, μz)) : Bk l cX12_agree 6 RX12 (some .int) ({ frames := 13, cells := 0, slots := 0, locals := 296 } : Room) G av (eI 1 G ad r μz) (wd 1 G ad μ) 215 [(0, .ref (ad 0)), (4, .int a4)] [] := by
  intro p e s m below meth c A ls H locs cx hr hlk hA hl hw
  have hx := cx.1
  have hb := cx.2.1
  rw [p_X12_agree_b215_eq] at h
  refine lv_iconst (v := 0) hx hb dX12_agree_215 (by decide) ?_
  exact t_X12_agree_b216 l G ad av  a4 (0 : Int32) μ h p e s m below meth c A ls H locs cx hr hlk hA (lv_sub hl [0, 1] rfl) hw
theorem p_X12_agree_b40_ex : ∃ f : Int32 → Mem → Option (Int32 × Mem), ∀ (k0 : Int32) (μ : Mem), f k0 μ = bw (p_X12_copy 43 (0 : Int32) k0 84 (0 : Int32) μ) (fun μ10 => bw (p_X12_copy 44 (0 : Int32) k0 85 (0 : Int32) μ10) (fun μ12 => bw (p_X12_copy 74 (0 : Int32) (μ12.1 0 122) 84 (60 : Int32) μ12) (fun μ14 => bw (p_X12_copy 75 (0 : Int32) (μ14.1 0 122) 85 (60 : Int32) μ14) (fun μ16 => bw (p_X12_copy 42 (0 : Int32) (8 : Int32) 86 (0 : Int32) μ16) (fun μ18 => bv (μ18.1 0 68) (fun v20 => bv (μ18.1 0 73) (fun v21 => bv (μ18.1 0 122) (fun v22 => bw (p_X12_runResidue μ18) (fun μ23 => (if (μ23.1 0 68) = v20 then (if (μ23.1 0 73) = v21 then (if (μ23.1 0 122) = v22 then bd (p_X12_areLike 43 84 k0 μ23) (fun r36 μ35 => (if r36 = (0 : Int32) then p_X12_agree_b215  v22 μ35 else bd (p_X12_areLike 44 85 k0 μ35) (fun r39 μ38 => (if r39 = (0 : Int32) then p_X12_agree_b215  v22 μ38 else bd (p_X12_areLike 42 86 (8 : Int32) μ38) (fun r42 μ41 => (if r42 = (0 : Int32) then p_X12_agree_b215  v22 μ41 else p_X12_agree_b216  v22 (1 : Int32) μ41)))))) else p_X12_agree_b215  v22 μ23) else p_X12_agree_b215  v22 μ23) else p_X12_agree_b215  v22 μ23)))))))))) := ⟨fun (k0 : Int32) (μ : Mem) => bw (p_X12_copy 43 (0 : Int32) k0 84 (0 : Int32) μ) (fun μ10 => bw (p_X12_copy 44 (0 : Int32) k0 85 (0 : Int32) μ10) (fun μ12 => bw (p_X12_copy 74 (0 : Int32) (μ12.1 0 122) 84 (60 : Int32) μ12) (fun μ14 => bw (p_X12_copy 75 (0 : Int32) (μ14.1 0 122) 85 (60 : Int32) μ14) (fun μ16 => bw (p_X12_copy 42 (0 : Int32) (8 : Int32) 86 (0 : Int32) μ16) (fun μ18 => bv (μ18.1 0 68) (fun v20 => bv (μ18.1 0 73) (fun v21 => bv (μ18.1 0 122) (fun v22 => bw (p_X12_runResidue μ18) (fun μ23 => (if (μ23.1 0 68) = v20 then (if (μ23.1 0 73) = v21 then (if (μ23.1 0 122) = v22 then bd (p_X12_areLike 43 84 k0 μ23) (fun r36 μ35 => (if r36 = (0 : Int32) then p_X12_agree_b215  v22 μ35 else bd (p_X12_areLike 44 85 k0 μ35) (fun r39 μ38 => (if r39 = (0 : Int32) then p_X12_agree_b215  v22 μ38 else bd (p_X12_areLike 42 86 (8 : Int32) μ38) (fun r42 μ41 => (if r42 = (0 : Int32) then p_X12_agree_b215  v22 μ41 else p_X12_agree_b216  v22 (1 : Int32) μ41)))))) else p_X12_agree_b215  v22 μ23) else p_X12_agree_b215  v22 μ23) else p_X12_agree_b215  v22 μ23)))))))))), fun _ _ => rfl⟩
noncomputable def p_X12_agree_b40 : Int32 → Mem → Option (Int32 × Mem) := Classical.choose p_X12_agree_b40_ex
theorem p_X12_agree_b40_eq (k0 : Int32) (μ : Mem) : p_X12_agree_b40 k0 μ = bw (p_X12_copy 43 (0 : Int32) k0 84 (0 : Int32) μ) (fun μ10 => bw (p_X12_copy 44 (0 : Int32) k0 85 (0 : Int32) μ10) (fun μ12 => bw (p_X12_copy 74 (0 : Int32) (μ12.1 0 122) 84 (60 : Int32) μ12) (fun μ14 => bw (p_X12_copy 75 (0 : Int32) (μ14.1 0 122) 85 (60 : Int32) μ14) (fun μ16 => bw (p_X12_copy 42 (0 : Int32) (8 : Int32) 86 (0 : Int32) μ16) (fun μ18 => bv (μ18.1 0 68) (fun v20 => bv (μ18.1 0 73) (fun v21 => bv (μ18.1 0 122) (fun v22 => bw (p_X12_runResidue μ18) (fun μ23 => (if (μ23.1 0 68) = v20 then (if (μ23.1 0 73) = v21 then (if (μ23.1 0 122) = v22 then bd (p_X12_areLike 43 84 k0 μ23) (fun r36 μ35 => (if r36 = (0 : Int32) then p_X12_agree_b215  v22 μ35 else bd (p_X12_areLike 44 85 k0 μ35) (fun r39 μ38 => (if r39 = (0 : Int32) then p_X12_agree_b215  v22 μ38 else bd (p_X12_areLike 42 86 (8 : Int32) μ38) (fun r42 μ41 => (if r42 = (0 : Int32) then p_X12_agree_b215  v22 μ41 else p_X12_agree_b216  v22 (1 : Int32) μ41)))))) else p_X12_agree_b215  v22 μ23) else p_X12_agree_b215  v22 μ23) else p_X12_agree_b215  v22 μ23)))))))))) := Classical.choose_spec p_X12_agree_b40_ex k0 μ
set_option maxHeartbeats 4000000 in
set_option maxRecDepth 100000 in
theorem t_X12_agree_b40 (l : Launch) (G : Gt) (ad : Nat → Nat) (av : List Value) {r : Int32} {μz : Mem} (k0 : Int32) (μ : Mem) (h : p_X12_agree_b40  k0 μ = some (r, μz)) : Bk l cX12_agree 6 RX12 (some .int) ({ frames := 13, cells := 0, slots := 0, locals := 296 } : Room) G av (eI 1 G ad r μz) (wd 1 G ad μ) 40 [(0, .ref (ad 0))] [.int k0] := by
  intro p e s m below meth c A ls H locs cx hr hlk hA hl hw
  have hx := cx.1
  have hb := cx.2.1
  rw [p_X12_agree_b40_eq] at h
  refine lv_istore_n (lv' := [(1, .int k0), (0, .ref (ad 0))]) hx hb dX12_agree_40 rfl hl (by decide) rfl (fun ls hl => ?_)
  refine lv_aload_n hx hb dX12_agree_41 rfl (lv_at hl 1 rfl) ?_
  refine g_get cx hw inX12 (ci := 11) rfl 71 (by decide) rfl (v := .ref (ad 43)) shm_0 rfl fl_X12_145 dX12_agree_42 ?_
  refine lv_iconst (v := 0) hx hb dX12_agree_45 (by decide) ?_
  refine lv_iload_n hx hb dX12_agree_46 rfl (lv_at hl 0 rfl) ?_
  refine lv_aload_n hx hb dX12_agree_47 rfl (lv_at hl 1 rfl) ?_
  refine g_get cx hw inX12 (ci := 11) rfl 134 (by decide) rfl (v := .ref (ad 84)) shm_0 rfl fl_X12_268 dX12_agree_48 ?_
  refine lv_iconst (v := 0) hx hb dX12_agree_51 (by decide) ?_
  obtain ⟨μ10, gμ10, h⟩ := bw_some h
  refine g_callSV (As := [.ref (ad 43), .int 0, .int k0, .ref (ad 84), .int 0]) (rest := []) cx hw hA (t_X12_copy l G ad 43 (sh_f shm_43) (0 : Int32) k0 84 (sh_f shm_84) (0 : Int32) μ gμ10) ml_X12_471 st_X12_copy in_X12 co_X12_copy hd_X12_copy rfl ⟨(Nat.le_of_ble_eq_true rfl), (Nat.le_of_ble_eq_true rfl)⟩ hl.1 rfl (Nat.le_of_ble_eq_true rfl) dX12_agree_52 ⟨rfl, rfl⟩ (fun H locs hw => ?_)
  refine lv_aload_n hx hb dX12_agree_55 rfl (lv_at hl 1 rfl) ?_
  refine g_get cx hw inX12 (ci := 11) rfl 72 (by decide) rfl (v := .ref (ad 44)) shm_0 rfl fl_X12_148 dX12_agree_56 ?_
  refine lv_iconst (v := 0) hx hb dX12_agree_59 (by decide) ?_
  refine lv_iload_n hx hb dX12_agree_60 rfl (lv_at hl 0 rfl) ?_
  refine lv_aload_n hx hb dX12_agree_61 rfl (lv_at hl 1 rfl) ?_
  refine g_get cx hw inX12 (ci := 11) rfl 135 (by decide) rfl (v := .ref (ad 85)) shm_0 rfl fl_X12_271 dX12_agree_62 ?_
  refine lv_iconst (v := 0) hx hb dX12_agree_65 (by decide) ?_
  obtain ⟨μ12, gμ12, h⟩ := bw_some h
  refine g_callSV (As := [.ref (ad 44), .int 0, .int k0, .ref (ad 85), .int 0]) (rest := []) cx hw hA (t_X12_copy l G ad 44 (sh_f shm_44) (0 : Int32) k0 85 (sh_f shm_85) (0 : Int32) μ10 gμ12) ml_X12_471 st_X12_copy in_X12 co_X12_copy hd_X12_copy rfl ⟨(Nat.le_of_ble_eq_true rfl), (Nat.le_of_ble_eq_true rfl)⟩ hl.1 rfl (Nat.le_of_ble_eq_true rfl) dX12_agree_66 ⟨rfl, rfl⟩ (fun H locs hw => ?_)
  refine lv_aload_n hx hb dX12_agree_69 rfl (lv_at hl 1 rfl) ?_
  refine g_get cx hw inX12 (ci := 11) rfl 120 (by decide) rfl (v := .ref (ad 74)) shm_0 rfl fl_X12_238 dX12_agree_70 ?_
  refine lv_iconst (v := 0) hx hb dX12_agree_73 (by decide) ?_
  refine lv_aload_n hx hb dX12_agree_74 rfl (lv_at hl 1 rfl) ?_
  refine g_get cx hw inX12 (ci := 11) rfl 122 (by decide) rfl (v := .int (μ12.1 0 122)) shm_0 rfl fl_X12_797 dX12_agree_75 ?_
  refine lv_aload_n hx hb dX12_agree_78 rfl (lv_at hl 1 rfl) ?_
  refine g_get cx hw inX12 (ci := 11) rfl 134 (by decide) rfl (v := .ref (ad 84)) shm_0 rfl fl_X12_268 dX12_agree_79 ?_
  refine lv_bipush (v := 60) hx hb dX12_agree_82 (by decide) ?_
  obtain ⟨μ14, gμ14, h⟩ := bw_some h
  refine g_callSV (As := [.ref (ad 74), .int 0, .int (μ12.1 0 122), .ref (ad 84), .int 60]) (rest := []) cx hw hA (t_X12_copy l G ad 74 (sh_f shm_74) (0 : Int32) (μ12.1 0 122) 84 (sh_f shm_84) (60 : Int32) μ12 gμ14) ml_X12_471 st_X12_copy in_X12 co_X12_copy hd_X12_copy rfl ⟨(Nat.le_of_ble_eq_true rfl), (Nat.le_of_ble_eq_true rfl)⟩ hl.1 rfl (Nat.le_of_ble_eq_true rfl) dX12_agree_84 ⟨rfl, rfl⟩ (fun H locs hw => ?_)
  refine lv_aload_n hx hb dX12_agree_87 rfl (lv_at hl 1 rfl) ?_
  refine g_get cx hw inX12 (ci := 11) rfl 121 (by decide) rfl (v := .ref (ad 75)) shm_0 rfl fl_X12_241 dX12_agree_88 ?_
  refine lv_iconst (v := 0) hx hb dX12_agree_91 (by decide) ?_
  refine lv_aload_n hx hb dX12_agree_92 rfl (lv_at hl 1 rfl) ?_
  refine g_get cx hw inX12 (ci := 11) rfl 122 (by decide) rfl (v := .int (μ14.1 0 122)) shm_0 rfl fl_X12_797 dX12_agree_93 ?_
  refine lv_aload_n hx hb dX12_agree_96 rfl (lv_at hl 1 rfl) ?_
  refine g_get cx hw inX12 (ci := 11) rfl 135 (by decide) rfl (v := .ref (ad 85)) shm_0 rfl fl_X12_271 dX12_agree_97 ?_
  refine lv_bipush (v := 60) hx hb dX12_agree_100 (by decide) ?_
  obtain ⟨μ16, gμ16, h⟩ := bw_some h
  refine g_callSV (As := [.ref (ad 75), .int 0, .int (μ14.1 0 122), .ref (ad 85), .int 60]) (rest := []) cx hw hA (t_X12_copy l G ad 75 (sh_f shm_75) (0 : Int32) (μ14.1 0 122) 85 (sh_f shm_85) (60 : Int32) μ14 gμ16) ml_X12_471 st_X12_copy in_X12 co_X12_copy hd_X12_copy rfl ⟨(Nat.le_of_ble_eq_true rfl), (Nat.le_of_ble_eq_true rfl)⟩ hl.1 rfl (Nat.le_of_ble_eq_true rfl) dX12_agree_102 ⟨rfl, rfl⟩ (fun H locs hw => ?_)
  refine lv_aload_n hx hb dX12_agree_105 rfl (lv_at hl 1 rfl) ?_
  refine g_get cx hw inX12 (ci := 11) rfl 70 (by decide) rfl (v := .ref (ad 42)) shm_0 rfl fl_X12_142 dX12_agree_106 ?_
  refine lv_iconst (v := 0) hx hb dX12_agree_109 (by decide) ?_
  refine lv_bipush (v := 8) hx hb dX12_agree_110 (by decide) ?_
  refine lv_aload_n hx hb dX12_agree_112 rfl (lv_at hl 1 rfl) ?_
  refine g_get cx hw inX12 (ci := 11) rfl 136 (by decide) rfl (v := .ref (ad 86)) shm_0 rfl fl_X12_274 dX12_agree_113 ?_
  refine lv_iconst (v := 0) hx hb dX12_agree_116 (by decide) ?_
  obtain ⟨μ18, gμ18, h⟩ := bw_some h
  refine g_callSV (As := [.ref (ad 42), .int 0, .int 8, .ref (ad 86), .int 0]) (rest := []) cx hw hA (t_X12_copy l G ad 42 (sh_f shm_42) (0 : Int32) (8 : Int32) 86 (sh_f shm_86) (0 : Int32) μ16 gμ18) ml_X12_471 st_X12_copy in_X12 co_X12_copy hd_X12_copy rfl ⟨(Nat.le_of_ble_eq_true rfl), (Nat.le_of_ble_eq_true rfl)⟩ hl.1 rfl (Nat.le_of_ble_eq_true rfl) dX12_agree_117 ⟨rfl, rfl⟩ (fun H locs hw => ?_)
  refine lv_aload_n hx hb dX12_agree_120 rfl (lv_at hl 1 rfl) ?_
  refine g_get cx hw inX12 (ci := 11) rfl 68 (by decide) rfl (v := .int (μ18.1 0 68)) shm_0 rfl fl_X12_557 dX12_agree_121 ?_
  obtain ⟨v20, ev20, h⟩ := bv_ex h
  refine lv_topi (fun y9 z9 => ?_)
  obtain rfl : v20 = y9 := ev20.trans z9.symm
  refine lv_istore_n (lv' := [(2, .int v20), (1, .int k0), (0, .ref (ad 0))]) hx hb dX12_agree_124 rfl hl (by decide) rfl (fun ls hl => ?_)
  refine lv_aload_n hx hb dX12_agree_125 rfl (lv_at hl 2 rfl) ?_
  refine g_get cx hw inX12 (ci := 11) rfl 73 (by decide) rfl (v := .int (μ18.1 0 73)) shm_0 rfl fl_X12_649 dX12_agree_126 ?_
  obtain ⟨v21, ev21, h⟩ := bv_ex h
  refine lv_topi (fun y9 z9 => ?_)
  obtain rfl : v21 = y9 := ev21.trans z9.symm
  refine lv_istore_n (lv' := [(3, .int v21), (2, .int v20), (1, .int k0), (0, .ref (ad 0))]) hx hb dX12_agree_129 rfl hl (by decide) rfl (fun ls hl => ?_)
  refine lv_aload_n hx hb dX12_agree_130 rfl (lv_at hl 3 rfl) ?_
  refine g_get cx hw inX12 (ci := 11) rfl 122 (by decide) rfl (v := .int (μ18.1 0 122)) shm_0 rfl fl_X12_797 dX12_agree_131 ?_
  obtain ⟨v22, ev22, h⟩ := bv_ex h
  refine lv_topi (fun y9 z9 => ?_)
  obtain rfl : v22 = y9 := ev22.trans z9.symm
  refine lv_istore (lv' := [(4, .int v22), (3, .int v21), (2, .int v20), (1, .int k0), (0, .ref (ad 0))]) hx hb dX12_agree_134 hl (by decide) rfl (fun ls hl => ?_)
  refine lv_aload_n hx hb dX12_agree_136 rfl (lv_at hl 4 rfl) ?_
  obtain ⟨μ23, gμ23, h⟩ := bw_some h
  refine g_callVV (As := []) (rest := []) cx hw hA (t_X12_runResidue l G ad μ18 gμ23) shm_0 rfl ml_X12_836 im_X12_runResidue se_X12_runResidue in_X12 co_X12_runResidue rfl hd_X12_runResidue rfl ⟨(Nat.le_of_ble_eq_true rfl), (Nat.le_of_ble_eq_true rfl)⟩ hl.1 rfl (Nat.le_of_ble_eq_true rfl) dX12_agree_137 ⟨rfl, rfl⟩ (fun H locs hw => ?_)
  refine lv_aload_n hx hb dX12_agree_140 rfl (lv_at hl 4 rfl) ?_
  refine g_get cx hw inX12 (ci := 11) rfl 68 (by decide) rfl (v := .int (μ23.1 0 68)) shm_0 rfl fl_X12_557 dX12_agree_141 ?_
  refine lv_iload_n hx hb dX12_agree_144 rfl (lv_at hl 2 rfl) ?_
  refine lv_icmp_ne (tgt := 215) hx hb dX12_agree_145 (by decide) (fun c25 => ?_) (fun c25 => ?_)
  · rw [if_neg c25] at h
    exact t_X12_agree_b215 l G ad av  v22 μ23 h p e s m below meth c A ls H locs cx hr hlk hA (lv_sub hl [4, 0] rfl) hw
  · rw [if_pos c25] at h
    refine lv_aload_n hx hb dX12_agree_148 rfl (lv_at hl 4 rfl) ?_
    refine g_get cx hw inX12 (ci := 11) rfl 73 (by decide) rfl (v := .int (μ23.1 0 73)) shm_0 rfl fl_X12_649 dX12_agree_149 ?_
    refine lv_iload_n hx hb dX12_agree_152 rfl (lv_at hl 1 rfl) ?_
    refine lv_icmp_ne (tgt := 215) hx hb dX12_agree_153 (by decide) (fun c33 => ?_) (fun c33 => ?_)
    · rw [if_neg c33] at h
      exact t_X12_agree_b215 l G ad av  v22 μ23 h p e s m below meth c A ls H locs cx hr hlk hA (lv_sub hl [4, 0] rfl) hw
    · rw [if_pos c33] at h
      refine lv_aload_n hx hb dX12_agree_156 rfl (lv_at hl 4 rfl) ?_
      refine g_get cx hw inX12 (ci := 11) rfl 122 (by decide) rfl (v := .int (μ23.1 0 122)) shm_0 rfl fl_X12_797 dX12_agree_157 ?_
      refine lv_iload hx hb dX12_agree_160 (lv_at hl 0 rfl) ?_
      refine lv_icmp_ne (tgt := 215) hx hb dX12_agree_162 (by decide) (fun c34 => ?_) (fun c34 => ?_)
      · rw [if_neg c34] at h
        exact t_X12_agree_b215 l G ad av  v22 μ23 h p e s m below meth c A ls H locs cx hr hlk hA (lv_sub hl [4, 0] rfl) hw
      · rw [if_pos c34] at h
        refine lv_aload_n hx hb dX12_agree_165 rfl (lv_at hl 4 rfl) ?_
        refine g_get cx hw inX12 (ci := 11) rfl 71 (by decide) rfl (v := .ref (ad 43)) shm_0 rfl fl_X12_145 dX12_agree_166 ?_
        refine lv_aload_n hx hb dX12_agree_169 rfl (lv_at hl 4 rfl) ?_
        refine g_get cx hw inX12 (ci := 11) rfl 134 (by decide) rfl (v := .ref (ad 84)) shm_0 rfl fl_X12_268 dX12_agree_170 ?_
        refine lv_iload_n hx hb dX12_agree_173 rfl (lv_at hl 3 rfl) ?_
        obtain ⟨r36, μ35, gr36, h⟩ := bd_some h
        refine g_callSI (As := [.ref (ad 43), .ref (ad 84), .int k0]) (rest := []) cx hw hA (t_X12_areLike l G ad 43 (sh_f shm_43) 84 (sh_f shm_84) k0 μ23 gr36) ml_X12_851 st_X12_areLike in_X12 co_X12_areLike hd_X12_areLike rfl ⟨(Nat.le_of_ble_eq_true rfl), (Nat.le_of_ble_eq_true rfl)⟩ hl.1 rfl (Nat.le_of_ble_eq_true rfl) dX12_agree_174 ⟨rfl, rfl⟩ (fun H locs hw => ?_)
        refine lv_if_eq (tgt := 215) hx hb dX12_agree_177 (by decide) (fun c37 => ?_) (fun c37 => ?_)
        · rw [if_pos c37] at h
          exact t_X12_agree_b215 l G ad av  v22 μ35 h p e s m below meth c A ls H locs cx hr hlk hA (lv_sub hl [4, 0] rfl) hw
        · rw [if_neg c37] at h
          refine lv_aload_n hx hb dX12_agree_180 rfl (lv_at hl 4 rfl) ?_
          refine g_get cx hw inX12 (ci := 11) rfl 72 (by decide) rfl (v := .ref (ad 44)) shm_0 rfl fl_X12_148 dX12_agree_181 ?_
          refine lv_aload_n hx hb dX12_agree_184 rfl (lv_at hl 4 rfl) ?_
          refine g_get cx hw inX12 (ci := 11) rfl 135 (by decide) rfl (v := .ref (ad 85)) shm_0 rfl fl_X12_271 dX12_agree_185 ?_
          refine lv_iload_n hx hb dX12_agree_188 rfl (lv_at hl 3 rfl) ?_
          obtain ⟨r39, μ38, gr39, h⟩ := bd_some h
          refine g_callSI (As := [.ref (ad 44), .ref (ad 85), .int k0]) (rest := []) cx hw hA (t_X12_areLike l G ad 44 (sh_f shm_44) 85 (sh_f shm_85) k0 μ35 gr39) ml_X12_851 st_X12_areLike in_X12 co_X12_areLike hd_X12_areLike rfl ⟨(Nat.le_of_ble_eq_true rfl), (Nat.le_of_ble_eq_true rfl)⟩ hl.1 rfl (Nat.le_of_ble_eq_true rfl) dX12_agree_189 ⟨rfl, rfl⟩ (fun H locs hw => ?_)
          refine lv_if_eq (tgt := 215) hx hb dX12_agree_192 (by decide) (fun c40 => ?_) (fun c40 => ?_)
          · rw [if_pos c40] at h
            exact t_X12_agree_b215 l G ad av  v22 μ38 h p e s m below meth c A ls H locs cx hr hlk hA (lv_sub hl [4, 0] rfl) hw
          · rw [if_neg c40] at h
            refine lv_aload_n hx hb dX12_agree_195 rfl (lv_at hl 4 rfl) ?_
            refine g_get cx hw inX12 (ci := 11) rfl 70 (by decide) rfl (v := .ref (ad 42)) shm_0 rfl fl_X12_142 dX12_agree_196 ?_
            refine lv_aload_n hx hb dX12_agree_199 rfl (lv_at hl 4 rfl) ?_
            refine g_get cx hw inX12 (ci := 11) rfl 136 (by decide) rfl (v := .ref (ad 86)) shm_0 rfl fl_X12_274 dX12_agree_200 ?_
            refine lv_bipush (v := 8) hx hb dX12_agree_203 (by decide) ?_
            obtain ⟨r42, μ41, gr42, h⟩ := bd_some h
            refine g_callSI (As := [.ref (ad 42), .ref (ad 86), .int 8]) (rest := []) cx hw hA (t_X12_areLike l G ad 42 (sh_f shm_42) 86 (sh_f shm_86) (8 : Int32) μ38 gr42) ml_X12_851 st_X12_areLike in_X12 co_X12_areLike hd_X12_areLike rfl ⟨(Nat.le_of_ble_eq_true rfl), (Nat.le_of_ble_eq_true rfl)⟩ hl.1 rfl (Nat.le_of_ble_eq_true rfl) dX12_agree_205 ⟨rfl, rfl⟩ (fun H locs hw => ?_)
            refine lv_if_eq (tgt := 215) hx hb dX12_agree_208 (by decide) (fun c43 => ?_) (fun c43 => ?_)
            · rw [if_pos c43] at h
              exact t_X12_agree_b215 l G ad av  v22 μ41 h p e s m below meth c A ls H locs cx hr hlk hA (lv_sub hl [4, 0] rfl) hw
            · rw [if_neg c43] at h
              refine lv_iconst (v := 1) hx hb dX12_agree_211 (by decide) ?_
              refine lv_goto (tgt := 216) hx hb dX12_agree_212 (by decide) ?_
              exact t_X12_agree_b216 l G ad av  v22 (1 : Int32) μ41 h p e s m below meth c A ls H locs cx hr hlk hA (lv_sub hl [4, 0] rfl) hw
theorem p_X12_agree_ex : ∃ f : Mem → Option (Int32 × Mem), ∀  (μ : Mem), f  μ = bd (p_X12_canRun (0 : Int32) μ) (fun r2 μ1 => (if r2 = (0 : Int32) then some ((-1 : Int32), μ1) else bd (p_X12_canRun (1 : Int32) μ1) (fun r5 μ4 => (if r5 = (0 : Int32) then some ((-1 : Int32), μ4) else bw (p_X12_runTask μ4) (fun μ7 => (if (60 : Int32) ≤ (μ7.1 0 73) then p_X12_agree_b40  (60 : Int32) μ7 else p_X12_agree_b40  (μ7.1 0 73) μ7)))))) := ⟨fun  (μ : Mem) => bd (p_X12_canRun (0 : Int32) μ) (fun r2 μ1 => (if r2 = (0 : Int32) then some ((-1 : Int32), μ1) else bd (p_X12_canRun (1 : Int32) μ1) (fun r5 μ4 => (if r5 = (0 : Int32) then some ((-1 : Int32), μ4) else bw (p_X12_runTask μ4) (fun μ7 => (if (60 : Int32) ≤ (μ7.1 0 73) then p_X12_agree_b40  (60 : Int32) μ7 else p_X12_agree_b40  (μ7.1 0 73) μ7)))))), fun _ => rfl⟩
noncomputable def p_X12_agree : Mem → Option (Int32 × Mem) := Classical.choose p_X12_agree_ex
theorem p_X12_agree_eq  (μ : Mem) : p_X12_agree  μ = bd (p_X12_canRun (0 : Int32) μ) (fun r2 μ1 => (if r2 = (0 : Int32) then some ((-1 : Int32), μ1) else bd (p_X12_canRun (1 : Int32) μ1) (fun r5 μ4 => (if r5 = (0 : Int32) then some ((-1 : Int32), μ4) else bw (p_X12_runTask μ4) (fun μ7 => (if (60 : Int32) ≤ (μ7.1 0 73) then p_X12_agree_b40  (60 : Int32) μ7 else p_X12_agree_b40  (μ7.1 0 73) μ7)))))) := Classical.choose_spec p_X12_agree_ex  μ
set_option maxHeartbeats 4000000 in
set_option maxRecDepth 100000 in
theorem t_X12_agree (l : Launch) (G : Gt) (ad : Nat → Nat)  (μ : Mem) {r : Int32} {μz : Mem} (h : p_X12_agree  μ = some (r, μz)) : Mt l yX12_agree cX12_agree 6 (some .int) ({ frames := 13, cells := 0, slots := 0, locals := 296 } : Room) G [.ref (ad 0)] (wd 1 G ad μ) (eI 1 G ad r μz) := by
  refine Bk.mt (by decide) rfl (Nat.le_of_ble_eq_true rfl) ?_
  intro p e s m below meth c A ls H locs cx hr hlk hA hl hw
  have hx := cx.1
  have hb := cx.2.1
  have hl : lv_has ls 6 [(0, .ref (ad 0))] := hl
  rw [p_X12_agree_eq] at h
  refine lv_aload_n hx hb dX12_agree_0 rfl (lv_at hl 0 rfl) ?_
  refine lv_iconst (v := 0) hx hb dX12_agree_1 (by decide) ?_
  obtain ⟨r2, μ1, gr2, h⟩ := bd_some h
  refine g_callVI (As := [.int 0]) (rest := []) cx hw hA (t_X12_canRun l G ad (0 : Int32) μ gr2) shm_0 rfl ml_X12_839 im_X12_canRun se_X12_canRun in_X12 co_X12_canRun rfl hd_X12_canRun rfl ⟨(Nat.le_of_ble_eq_true rfl), (Nat.le_of_ble_eq_true rfl)⟩ hl.1 rfl (Nat.le_of_ble_eq_true rfl) dX12_agree_2 ⟨rfl, rfl⟩ (fun H locs hw => ?_)
  refine lv_if_eq (tgt := 16) hx hb dX12_agree_5 (by decide) (fun c3 => ?_) (fun c3 => ?_)
  · rw [if_pos c3] at h
    refine lv_iconst (v := (-1)) hx hb dX12_agree_16 (by decide) ?_
    exact g_iret cx hr hlk hw h dX12_agree_17
  · rw [if_neg c3] at h
    refine lv_aload_n hx hb dX12_agree_8 rfl (lv_at hl 0 rfl) ?_
    refine lv_iconst (v := 1) hx hb dX12_agree_9 (by decide) ?_
    obtain ⟨r5, μ4, gr5, h⟩ := bd_some h
    refine g_callVI (As := [.int 1]) (rest := []) cx hw hA (t_X12_canRun l G ad (1 : Int32) μ1 gr5) shm_0 rfl ml_X12_839 im_X12_canRun se_X12_canRun in_X12 co_X12_canRun rfl hd_X12_canRun rfl ⟨(Nat.le_of_ble_eq_true rfl), (Nat.le_of_ble_eq_true rfl)⟩ hl.1 rfl (Nat.le_of_ble_eq_true rfl) dX12_agree_10 ⟨rfl, rfl⟩ (fun H locs hw => ?_)
    refine lv_if_ne (tgt := 18) hx hb dX12_agree_13 (by decide) (fun c6 => ?_) (fun c6 => ?_)
    · rw [if_neg c6] at h
      refine lv_aload_n hx hb dX12_agree_18 rfl (lv_at hl 0 rfl) ?_
      obtain ⟨μ7, gμ7, h⟩ := bw_some h
      refine g_callVV (As := []) (rest := []) cx hw hA (t_X12_runTask l G ad μ4 gμ7) shm_0 rfl ml_X12_833 im_X12_runTask se_X12_runTask in_X12 co_X12_runTask rfl hd_X12_runTask rfl ⟨(Nat.le_of_ble_eq_true rfl), (Nat.le_of_ble_eq_true rfl)⟩ hl.1 rfl (Nat.le_of_ble_eq_true rfl) dX12_agree_19 ⟨rfl, rfl⟩ (fun H locs hw => ?_)
      refine lv_aload_n hx hb dX12_agree_22 rfl (lv_at hl 0 rfl) ?_
      refine g_get cx hw inX12 (ci := 11) rfl 73 (by decide) rfl (v := .int (μ7.1 0 73)) shm_0 rfl fl_X12_649 dX12_agree_23 ?_
      refine lv_bipush (v := 60) hx hb dX12_agree_26 (by decide) ?_
      refine lv_icmp_ge (tgt := 38) hx hb dX12_agree_28 (by decide) (fun c9 => ?_) (fun c9 => ?_)
      · rw [if_pos c9] at h
        refine lv_bipush (v := 60) hx hb dX12_agree_38 (by decide) ?_
        exact t_X12_agree_b40 l G ad _  (60 : Int32) μ7 h p e s m below meth c A ls H locs cx hr hlk hA (lv_sub hl [0] rfl) hw
      · rw [if_neg c9] at h
        refine lv_aload_n hx hb dX12_agree_31 rfl (lv_at hl 0 rfl) ?_
        refine g_get cx hw inX12 (ci := 11) rfl 73 (by decide) rfl (v := .int (μ7.1 0 73)) shm_0 rfl fl_X12_649 dX12_agree_32 ?_
        refine lv_goto (tgt := 40) hx hb dX12_agree_35 (by decide) ?_
        exact t_X12_agree_b40 l G ad _  (μ7.1 0 73) μ7 h p e s m below meth c A ls H locs cx hr hlk hA (lv_sub hl [0] rfl) hw
    · rw [if_pos c6] at h
      refine lv_iconst (v := (-1)) hx hb dX12_agree_16 (by decide) ?_
      exact g_iret cx hr hlk hw h dX12_agree_17

theorem p_X12_saved_ex : ∃ f : Mem → Option (Int32 × Mem), ∀  (μ : Mem), f  μ = bd (p_X12_canRun (0 : Int32) μ) (fun r2 μ1 => (if r2 = (0 : Int32) then some ((-1000 : Int32), μ1) else bd (p_X12_canRun (1 : Int32) μ1) (fun r5 μ4 => (if r5 = (0 : Int32) then some ((-1000 : Int32), μ4) else bw (p_X12_runTask μ4) (fun μ7 => bv (μ7.1 0 75) (fun v9 => (if (μ7.1 0 68) = (0 : Int32) then bw (p_X12_runResidue μ7) (fun μ11 => (if (μ11.1 0 68) = (0 : Int32) then some ((v9 - (μ11.1 0 75)), μ11) else some ((-1000 : Int32), μ11))) else some ((-1000 : Int32), μ7)))))))) := ⟨fun  (μ : Mem) => bd (p_X12_canRun (0 : Int32) μ) (fun r2 μ1 => (if r2 = (0 : Int32) then some ((-1000 : Int32), μ1) else bd (p_X12_canRun (1 : Int32) μ1) (fun r5 μ4 => (if r5 = (0 : Int32) then some ((-1000 : Int32), μ4) else bw (p_X12_runTask μ4) (fun μ7 => bv (μ7.1 0 75) (fun v9 => (if (μ7.1 0 68) = (0 : Int32) then bw (p_X12_runResidue μ7) (fun μ11 => (if (μ11.1 0 68) = (0 : Int32) then some ((v9 - (μ11.1 0 75)), μ11) else some ((-1000 : Int32), μ11))) else some ((-1000 : Int32), μ7)))))))), fun _ => rfl⟩
noncomputable def p_X12_saved : Mem → Option (Int32 × Mem) := Classical.choose p_X12_saved_ex
theorem p_X12_saved_eq  (μ : Mem) : p_X12_saved  μ = bd (p_X12_canRun (0 : Int32) μ) (fun r2 μ1 => (if r2 = (0 : Int32) then some ((-1000 : Int32), μ1) else bd (p_X12_canRun (1 : Int32) μ1) (fun r5 μ4 => (if r5 = (0 : Int32) then some ((-1000 : Int32), μ4) else bw (p_X12_runTask μ4) (fun μ7 => bv (μ7.1 0 75) (fun v9 => (if (μ7.1 0 68) = (0 : Int32) then bw (p_X12_runResidue μ7) (fun μ11 => (if (μ11.1 0 68) = (0 : Int32) then some ((v9 - (μ11.1 0 75)), μ11) else some ((-1000 : Int32), μ11))) else some ((-1000 : Int32), μ7)))))))) := Classical.choose_spec p_X12_saved_ex  μ
set_option maxHeartbeats 4000000 in
set_option maxRecDepth 100000 in
theorem t_X12_saved (l : Launch) (G : Gt) (ad : Nat → Nat)  (μ : Mem) {r : Int32} {μz : Mem} (h : p_X12_saved  μ = some (r, μz)) : Mt l yX12_saved cX12_saved 2 (some .int) ({ frames := 13, cells := 0, slots := 0, locals := 296 } : Room) G [.ref (ad 0)] (wd 1 G ad μ) (eI 1 G ad r μz) := by
  refine Bk.mt (by decide) rfl (Nat.le_of_ble_eq_true rfl) ?_
  intro p e s m below meth c A ls H locs cx hr hlk hA hl hw
  have hx := cx.1
  have hb := cx.2.1
  have hl : lv_has ls 2 [(0, .ref (ad 0))] := hl
  rw [p_X12_saved_eq] at h
  refine lv_aload_n hx hb dX12_saved_0 rfl (lv_at hl 0 rfl) ?_
  refine lv_iconst (v := 0) hx hb dX12_saved_1 (by decide) ?_
  obtain ⟨r2, μ1, gr2, h⟩ := bd_some h
  refine g_callVI (As := [.int 0]) (rest := []) cx hw hA (t_X12_canRun l G ad (0 : Int32) μ gr2) shm_0 rfl ml_X12_839 im_X12_canRun se_X12_canRun in_X12 co_X12_canRun rfl hd_X12_canRun rfl ⟨(Nat.le_of_ble_eq_true rfl), (Nat.le_of_ble_eq_true rfl)⟩ hl.1 rfl (Nat.le_of_ble_eq_true rfl) dX12_saved_2 ⟨rfl, rfl⟩ (fun H locs hw => ?_)
  refine lv_if_eq (tgt := 16) hx hb dX12_saved_5 (by decide) (fun c3 => ?_) (fun c3 => ?_)
  · rw [if_pos c3] at h
    refine lv_sipush (v := (-1000)) hx hb dX12_saved_16 (by decide) ?_
    exact g_iret cx hr hlk hw h dX12_saved_19
  · rw [if_neg c3] at h
    refine lv_aload_n hx hb dX12_saved_8 rfl (lv_at hl 0 rfl) ?_
    refine lv_iconst (v := 1) hx hb dX12_saved_9 (by decide) ?_
    obtain ⟨r5, μ4, gr5, h⟩ := bd_some h
    refine g_callVI (As := [.int 1]) (rest := []) cx hw hA (t_X12_canRun l G ad (1 : Int32) μ1 gr5) shm_0 rfl ml_X12_839 im_X12_canRun se_X12_canRun in_X12 co_X12_canRun rfl hd_X12_canRun rfl ⟨(Nat.le_of_ble_eq_true rfl), (Nat.le_of_ble_eq_true rfl)⟩ hl.1 rfl (Nat.le_of_ble_eq_true rfl) dX12_saved_10 ⟨rfl, rfl⟩ (fun H locs hw => ?_)
    refine lv_if_ne (tgt := 20) hx hb dX12_saved_13 (by decide) (fun c6 => ?_) (fun c6 => ?_)
    · rw [if_neg c6] at h
      refine lv_aload_n hx hb dX12_saved_20 rfl (lv_at hl 0 rfl) ?_
      obtain ⟨μ7, gμ7, h⟩ := bw_some h
      refine g_callVV (As := []) (rest := []) cx hw hA (t_X12_runTask l G ad μ4 gμ7) shm_0 rfl ml_X12_833 im_X12_runTask se_X12_runTask in_X12 co_X12_runTask rfl hd_X12_runTask rfl ⟨(Nat.le_of_ble_eq_true rfl), (Nat.le_of_ble_eq_true rfl)⟩ hl.1 rfl (Nat.le_of_ble_eq_true rfl) dX12_saved_21 ⟨rfl, rfl⟩ (fun H locs hw => ?_)
      refine lv_aload_n hx hb dX12_saved_24 rfl (lv_at hl 0 rfl) ?_
      refine g_get cx hw inX12 (ci := 11) rfl 75 (by decide) rfl (v := .int (μ7.1 0 75)) shm_0 rfl fl_X12_658 dX12_saved_25 ?_
      obtain ⟨v9, ev9, h⟩ := bv_ex h
      refine lv_topi (fun y9 z9 => ?_)
      obtain rfl : v9 = y9 := ev9.trans z9.symm
      refine lv_istore_n (lv' := [(1, .int v9), (0, .ref (ad 0))]) hx hb dX12_saved_28 rfl hl (by decide) rfl (fun ls hl => ?_)
      refine lv_aload_n hx hb dX12_saved_29 rfl (lv_at hl 1 rfl) ?_
      refine g_get cx hw inX12 (ci := 11) rfl 68 (by decide) rfl (v := .int (μ7.1 0 68)) shm_0 rfl fl_X12_557 dX12_saved_30 ?_
      refine lv_if_eq (tgt := 40) hx hb dX12_saved_33 (by decide) (fun c10 => ?_) (fun c10 => ?_)
      · rw [if_pos c10] at h
        refine lv_aload_n hx hb dX12_saved_40 rfl (lv_at hl 1 rfl) ?_
        obtain ⟨μ11, gμ11, h⟩ := bw_some h
        refine g_callVV (As := []) (rest := []) cx hw hA (t_X12_runResidue l G ad μ7 gμ11) shm_0 rfl ml_X12_836 im_X12_runResidue se_X12_runResidue in_X12 co_X12_runResidue rfl hd_X12_runResidue rfl ⟨(Nat.le_of_ble_eq_true rfl), (Nat.le_of_ble_eq_true rfl)⟩ hl.1 rfl (Nat.le_of_ble_eq_true rfl) dX12_saved_41 ⟨rfl, rfl⟩ (fun H locs hw => ?_)
        refine lv_aload_n hx hb dX12_saved_44 rfl (lv_at hl 1 rfl) ?_
        refine g_get cx hw inX12 (ci := 11) rfl 68 (by decide) rfl (v := .int (μ11.1 0 68)) shm_0 rfl fl_X12_557 dX12_saved_45 ?_
        refine lv_if_ne (tgt := 60) hx hb dX12_saved_48 (by decide) (fun c13 => ?_) (fun c13 => ?_)
        · rw [if_neg c13] at h
          refine lv_sipush (v := (-1000)) hx hb dX12_saved_60 (by decide) ?_
          exact g_iret cx hr hlk hw h dX12_saved_63
        · rw [if_pos c13] at h
          refine lv_iload_n hx hb dX12_saved_51 rfl (lv_at hl 0 rfl) ?_
          refine lv_aload_n hx hb dX12_saved_52 rfl (lv_at hl 1 rfl) ?_
          refine g_get cx hw inX12 (ci := 11) rfl 75 (by decide) rfl (v := .int (μ11.1 0 75)) shm_0 rfl fl_X12_658 dX12_saved_53 ?_
          refine lv_isub hx hb dX12_saved_56 ?_
          refine lv_goto (tgt := 63) hx hb dX12_saved_57 (by decide) ?_
          exact g_iret cx hr hlk hw h dX12_saved_63
      · rw [if_neg c10] at h
        refine lv_sipush (v := (-1000)) hx hb dX12_saved_36 (by decide) ?_
        exact g_iret cx hr hlk hw h dX12_saved_39
    · rw [if_pos c6] at h
      refine lv_sipush (v := (-1000)) hx hb dX12_saved_16 (by decide) ?_
      exact g_iret cx hr hlk hw h dX12_saved_19

theorem p_X12_put_ex : ∃ f : Int32 → Mem → Option Mem, ∀ (a1 : Int32) (μ : Mem), f a1 μ = gd (inb (μ.1 0 139) 50000) (bv (sF μ 88 (μ.1 0 139).toNatClampNeg (vp_nar .byte (a1.toInt8.toInt32))) (fun μ1 => bv (sF μ1 0 139 ((μ1.1 0 139) + (1 : Int32))) (fun μ2 => some μ2))) := ⟨fun (a1 : Int32) (μ : Mem) => gd (inb (μ.1 0 139) 50000) (bv (sF μ 88 (μ.1 0 139).toNatClampNeg (vp_nar .byte (a1.toInt8.toInt32))) (fun μ1 => bv (sF μ1 0 139 ((μ1.1 0 139) + (1 : Int32))) (fun μ2 => some μ2))), fun _ _ => rfl⟩
noncomputable def p_X12_put : Int32 → Mem → Option Mem := Classical.choose p_X12_put_ex
theorem p_X12_put_eq (a1 : Int32) (μ : Mem) : p_X12_put a1 μ = gd (inb (μ.1 0 139) 50000) (bv (sF μ 88 (μ.1 0 139).toNatClampNeg (vp_nar .byte (a1.toInt8.toInt32))) (fun μ1 => bv (sF μ1 0 139 ((μ1.1 0 139) + (1 : Int32))) (fun μ2 => some μ2))) := Classical.choose_spec p_X12_put_ex a1 μ
set_option maxHeartbeats 4000000 in
set_option maxRecDepth 100000 in
theorem t_X12_put (l : Launch) (G : Gt) (ad : Nat → Nat) (a1 : Int32) (μ : Mem) {μz : Mem} (h : p_X12_put a1 μ = some μz) : Mt l yX12_put cX12_put 2 none ({ frames := 0, cells := 0, slots := 0, locals := 0 } : Room) G [.ref (ad 0), .int a1] (wd 1 G ad μ) (eV 1 G ad μz) := by
  refine Bk.mt (by decide) rfl (Nat.le_of_ble_eq_true rfl) ?_
  intro p e s m below meth c A ls H locs cx hr hlk hA hl hw
  have hx := cx.1
  have hb := cx.2.1
  have hl : lv_has ls 2 [(0, .ref (ad 0)), (1, .int a1)] := hl
  rw [p_X12_put_eq] at h
  refine lv_aload_n hx hb dX12_put_0 rfl (lv_at hl 0 rfl) ?_
  refine g_get cx hw inX12 (ci := 11) rfl 138 (by decide) rfl (v := .ref (ad 88)) shm_0 rfl fl_X12_281 dX12_put_1 ?_
  refine lv_aload_n hx hb dX12_put_4 rfl (lv_at hl 0 rfl) ?_
  refine g_get cx hw inX12 (ci := 11) rfl 139 (by decide) rfl (v := .int (μ.1 0 139)) shm_0 rfl fl_X12_859 dX12_put_5 ?_
  refine lv_iload_n hx hb dX12_put_8 rfl (lv_at hl 1 rfl) ?_
  refine lv_i2b hx hb dX12_put_9 rfl ?_
  refine g_bast cx hw shm_88 h dX12_put_10 (fun μ1 H locs h hw => ?_)
  refine lv_aload_n hx hb dX12_put_11 rfl (lv_at hl 0 rfl) ?_
  refine lv_dup hx hb dX12_put_12 rfl ?_
  refine g_get cx hw inX12 (ci := 11) rfl 139 (by decide) rfl (v := .int (μ1.1 0 139)) shm_0 rfl fl_X12_859 dX12_put_13 ?_
  refine lv_iconst (v := 1) hx hb dX12_put_16 (by decide) ?_
  refine lv_iadd hx hb dX12_put_17 ?_
  refine g_put cx hw inX12 (ci := 11) rfl tyX12_ok nmX12 139 (by decide) rfl rfl rfl rfl shm_0 h fl_X12_859 dX12_put_18 (fun μ2 H locs h hw => ?_)
  exact g_vret cx hr hlk hw h dX12_put_21
