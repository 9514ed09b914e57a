theorem p_X5_aboutVariant_ex : ∃ f : Int32 → Int32 → Mem → Option (Int32 × Mem), ∀ (a1 : Int32) (a2 : Int32) (μ : Mem), f a1 a2 μ = bd (p_X5_hasVariant a1 μ) (fun r2 μ1 => (if r2 = (0 : Int32) then some ((-1 : Int32), μ1) else (if a2 = (0 : Int32) then bd (p_X5_patternOf a1 μ1) (fun r7 μ6 => some ((((μ6.1 r7 3) / (6 : Int32)) + (1 : Int32)), μ6)) else (if a2 = (1 : Int32) then bd (p_X5_ofVariant a1 (2 : Int32) μ1) (fun r10 μ9 => some (r10, μ9)) else (if a2 = (2 : Int32) then bd (p_X5_patternOf a1 μ1) (fun r13 μ12 => bd (p_X2_stars r13 μ12) (fun r15 μ14 => some (r15, μ14))) else (if a2 = (3 : Int32) then bd (p_X5_countOf a1 (-1 : Int32) μ1) (fun r18 μ17 => some (r18, μ17)) else (if a2 = (4 : Int32) then bd (p_X5_ofVariant a1 (0 : Int32) μ1) (fun r21 μ20 => some (r21, μ20)) else (if a2 = (5 : Int32) then bd (p_X5_ofVariant a1 (1 : Int32) μ1) (fun r24 μ23 => some (r24, μ23)) else (if a2 = (6 : Int32) then bd (p_X5_patternOf a1 μ1) (fun r27 μ26 => bd (p_X2_numbers r27 μ26) (fun r29 μ28 => some (r29, μ28))) else some ((-1 : Int32), μ1)))))))))) := ⟨fun (a1 : Int32) (a2 : Int32) (μ : Mem) => bd (p_X5_hasVariant a1 μ) (fun r2 μ1 => (if r2 = (0 : Int32) then some ((-1 : Int32), μ1) else (if a2 = (0 : Int32) then bd (p_X5_patternOf a1 μ1) (fun r7 μ6 => some ((((μ6.1 r7 3) / (6 : Int32)) + (1 : Int32)), μ6)) else (if a2 = (1 : Int32) then bd (p_X5_ofVariant a1 (2 : Int32) μ1) (fun r10 μ9 => some (r10, μ9)) else (if a2 = (2 : Int32) then bd (p_X5_patternOf a1 μ1) (fun r13 μ12 => bd (p_X2_stars r13 μ12) (fun r15 μ14 => some (r15, μ14))) else (if a2 = (3 : Int32) then bd (p_X5_countOf a1 (-1 : Int32) μ1) (fun r18 μ17 => some (r18, μ17)) else (if a2 = (4 : Int32) then bd (p_X5_ofVariant a1 (0 : Int32) μ1) (fun r21 μ20 => some (r21, μ20)) else (if a2 = (5 : Int32) then bd (p_X5_ofVariant a1 (1 : Int32) μ1) (fun r24 μ23 => some (r24, μ23)) else (if a2 = (6 : Int32) then bd (p_X5_patternOf a1 μ1) (fun r27 μ26 => bd (p_X2_numbers r27 μ26) (fun r29 μ28 => some (r29, μ28))) else some ((-1 : Int32), μ1)))))))))), fun _ _ _ => rfl⟩
noncomputable def p_X5_aboutVariant : Int32 → Int32 → Mem → Option (Int32 × Mem) := Classical.choose p_X5_aboutVariant_ex
theorem p_X5_aboutVariant_eq (a1 : Int32) (a2 : Int32) (μ : Mem) : p_X5_aboutVariant a1 a2 μ = bd (p_X5_hasVariant a1 μ) (fun r2 μ1 => (if r2 = (0 : Int32) then some ((-1 : Int32), μ1) else (if a2 = (0 : Int32) then bd (p_X5_patternOf a1 μ1) (fun r7 μ6 => some ((((μ6.1 r7 3) / (6 : Int32)) + (1 : Int32)), μ6)) else (if a2 = (1 : Int32) then bd (p_X5_ofVariant a1 (2 : Int32) μ1) (fun r10 μ9 => some (r10, μ9)) else (if a2 = (2 : Int32) then bd (p_X5_patternOf a1 μ1) (fun r13 μ12 => bd (p_X2_stars r13 μ12) (fun r15 μ14 => some (r15, μ14))) else (if a2 = (3 : Int32) then bd (p_X5_countOf a1 (-1 : Int32) μ1) (fun r18 μ17 => some (r18, μ17)) else (if a2 = (4 : Int32) then bd (p_X5_ofVariant a1 (0 : Int32) μ1) (fun r21 μ20 => some (r21, μ20)) else (if a2 = (5 : Int32) then bd (p_X5_ofVariant a1 (1 : Int32) μ1) (fun r24 μ23 => some (r24, μ23)) else (if a2 = (6 : Int32) then bd (p_X5_patternOf a1 μ1) (fun r27 μ26 => bd (p_X2_numbers r27 μ26) (fun r29 μ28 => some (r29, μ28))) else some ((-1 : Int32), μ1)))))))))) := Classical.choose_spec p_X5_aboutVariant_ex a1 a2 μ
set_option maxHeartbeats 4000000 in
set_option maxRecDepth 100000 in
theorem t_X5_aboutVariant (l : Launch) (G : Gt) (ad : Nat → Nat) (a1 : Int32) (a2 : Int32) (μ : Mem) {r : Int32} {μz : Mem} (h : p_X5_aboutVariant a1 a2 μ = some (r, μz)) : Mt l yX5_aboutVariant cX5_aboutVariant 3 (some .int) ({ frames := 2, cells := 0, slots := 0, locals := 47 } : Room) G [.ref (ad 39), .int a1, .int a2] (wd 0 G ad μ) (eI 0 G ad r μz) := by
  refine Bk.mt (by decide) rfl (Nat.le_of_ble_eq_true rfl) ?_
  intro p e s m below meth c A ls H locs cx hr hlk hA hl hw
  have hx := cx.1
  have hb := cx.2.1
  have hl : lv_has ls 3 [(0, .ref (ad 39)), (1, .int a1), (2, .int a2)] := hl
  rw [p_X5_aboutVariant_eq] at h
  refine lv_aload_n hx hb dX5_aboutVariant_0 rfl (lv_at hl 0 rfl) ?_
  refine lv_iload_n hx hb dX5_aboutVariant_1 rfl (lv_at hl 1 rfl) ?_
  obtain ⟨r2, μ1, gr2, h⟩ := bd_some h
  refine g_callVI (As := [.int a1]) (rest := []) cx hw hA (t_X5_hasVariant l G ad a1 μ gr2) shx_39 rfl ml_X5_103 im_X5_hasVariant se_X5_hasVariant in_X5 co_X5_hasVariant rfl hd_X5_hasVariant rfl ⟨(Nat.le_of_ble_eq_true rfl), (Nat.le_of_ble_eq_true rfl)⟩ hl.1 rfl (Nat.le_of_ble_eq_true rfl) dX5_aboutVariant_2 ⟨rfl, rfl⟩ (fun H locs hw => ?_)
  refine lv_if_ne (tgt := 10) hx hb dX5_aboutVariant_5 (by decide) (fun c3 => ?_) (fun c3 => ?_)
  · rw [if_neg c3] at h
    refine lv_iload_n hx hb dX5_aboutVariant_10 rfl (lv_at hl 2 rfl) ?_
    refine lv_topi (fun v4 ev4 => ?_)
    by_cases c5 : a2 = (0 : Int32)
    · rw [if_pos c5] at h
      have z9 := ev4.trans c5
      subst z9
      refine lv_tableIn (tgt := 52) hx hb dX5_aboutVariant_11 (by decide +kernel) (by decide +kernel) rfl (by decide) ?_
      refine lv_aload_n hx hb dX5_aboutVariant_52 rfl (lv_at hl 0 rfl) ?_
      refine lv_iload_n hx hb dX5_aboutVariant_53 rfl (lv_at hl 1 rfl) ?_
      obtain ⟨r7, μ6, gr7, h⟩ := bd_some h
      refine g_callVR (As := [.int a1]) (rest := []) cx hw hA (t_X5_patternOf l G ad a1 μ1 gr7) shx_39 rfl ml_X5_106 im_X5_patternOf se_X5_patternOf in_X5 co_X5_patternOf rfl hd_X5_patternOf rfl ⟨(Nat.le_of_ble_eq_true rfl), (Nat.le_of_ble_eq_true rfl)⟩ hl.1 rfl (Nat.le_of_ble_eq_true rfl) dX5_aboutVariant_54 ⟨rfl, rfl⟩ (fun H locs hw => ?_)
      have qr7 : sh 0 r7 = (0, 1) := p_X5_patternOf_sh gr7
      refine g_get cx hw inX2 (ci := 1) rfl 3 (by decide) rfl (v := .int (μ6.1 r7 3)) qr7 rfl fl_X5_76 dX5_aboutVariant_57 ?_
      refine lv_bipush (v := 6) hx hb dX5_aboutVariant_60 (by decide) ?_
      refine lv_idiv hx hb dX5_aboutVariant_62 (by decide) ?_
      refine lv_iconst (v := 1) hx hb dX5_aboutVariant_63 (by decide) ?_
      refine lv_iadd hx hb dX5_aboutVariant_64 ?_
      exact g_iret cx hr hlk hw h dX5_aboutVariant_65
    rw [if_neg c5] at h
    by_cases c8 : a2 = (1 : Int32)
    · rw [if_pos c8] at h
      have z9 := ev4.trans c8
      subst z9
      refine lv_tableIn (tgt := 66) hx hb dX5_aboutVariant_11 (by decide +kernel) (by decide +kernel) rfl (by decide) ?_
      refine lv_aload_n hx hb dX5_aboutVariant_66 rfl (lv_at hl 0 rfl) ?_
      refine lv_iload_n hx hb dX5_aboutVariant_67 rfl (lv_at hl 1 rfl) ?_
      refine lv_iconst (v := 2) hx hb dX5_aboutVariant_68 (by decide) ?_
      obtain ⟨r10, μ9, gr10, h⟩ := bd_some h
      refine g_callVI (As := [.int a1, .int 2]) (rest := []) cx hw hA (t_X5_ofVariant l G ad a1 (2 : Int32) μ1 gr10) shx_39 rfl ml_X5_110 im_X5_ofVariant se_X5_ofVariant in_X5 co_X5_ofVariant rfl hd_X5_ofVariant rfl ⟨(Nat.le_of_ble_eq_true rfl), (Nat.le_of_ble_eq_true rfl)⟩ hl.1 rfl (Nat.le_of_ble_eq_true rfl) dX5_aboutVariant_69 ⟨rfl, rfl⟩ (fun H locs hw => ?_)
      exact g_iret cx hr hlk hw h dX5_aboutVariant_72
    rw [if_neg c8] at h
    by_cases c11 : a2 = (2 : Int32)
    · rw [if_pos c11] at h
      have z9 := ev4.trans c11
      subst z9
      refine lv_tableIn (tgt := 73) hx hb dX5_aboutVariant_11 (by decide +kernel) (by decide +kernel) rfl (by decide) ?_
      refine lv_aload_n hx hb dX5_aboutVariant_73 rfl (lv_at hl 0 rfl) ?_
      refine lv_iload_n hx hb dX5_aboutVariant_74 rfl (lv_at hl 1 rfl) ?_
      obtain ⟨r13, μ12, gr13, h⟩ := bd_some h
      refine g_callVR (As := [.int a1]) (rest := []) cx hw hA (t_X5_patternOf l G ad a1 μ1 gr13) shx_39 rfl ml_X5_106 im_X5_patternOf se_X5_patternOf in_X5 co_X5_patternOf rfl hd_X5_patternOf rfl ⟨(Nat.le_of_ble_eq_true rfl), (Nat.le_of_ble_eq_true rfl)⟩ hl.1 rfl (Nat.le_of_ble_eq_true rfl) dX5_aboutVariant_75 ⟨rfl, rfl⟩ (fun H locs hw => ?_)
      have qr13 : sh 0 r13 = (0, 1) := p_X5_patternOf_sh gr13
      obtain ⟨r15, μ14, gr15, h⟩ := bd_some h
      refine g_callVI (As := []) (rest := []) cx hw hA (t_X2_stars l G ad r13 qr13 μ12 gr15) qr13 rfl ml_X5_87 im_X2_stars se_X2_stars in_X2 co_X2_stars rfl hd_X2_stars rfl ⟨(Nat.le_of_ble_eq_true rfl), (Nat.le_of_ble_eq_true rfl)⟩ hl.1 rfl (Nat.le_of_ble_eq_true rfl) dX5_aboutVariant_78 ⟨rfl, rfl⟩ (fun H locs hw => ?_)
      exact g_iret cx hr hlk hw h dX5_aboutVariant_81
    rw [if_neg c11] at h
    by_cases c16 : a2 = (3 : Int32)
    · rw [if_pos c16] at h
      have z9 := ev4.trans c16
      subst z9
      refine lv_tableIn (tgt := 82) hx hb dX5_aboutVariant_11 (by decide +kernel) (by decide +kernel) rfl (by decide) ?_
      refine lv_aload_n hx hb dX5_aboutVariant_82 rfl (lv_at hl 0 rfl) ?_
      refine lv_iload_n hx hb dX5_aboutVariant_83 rfl (lv_at hl 1 rfl) ?_
      refine lv_iconst (v := (-1)) hx hb dX5_aboutVariant_84 (by decide) ?_
      obtain ⟨r18, μ17, gr18, h⟩ := bd_some h
      refine g_callVI (As := [.int a1, .int (-1)]) (rest := []) cx hw hA (t_X5_countOf l G ad a1 (-1 : Int32) μ1 gr18) shx_39 rfl ml_X5_100 im_X5_countOf se_X5_countOf in_X5 co_X5_countOf rfl hd_X5_countOf rfl ⟨(Nat.le_of_ble_eq_true rfl), (Nat.le_of_ble_eq_true rfl)⟩ hl.1 rfl (Nat.le_of_ble_eq_true rfl) dX5_aboutVariant_85 ⟨rfl, rfl⟩ (fun H locs hw => ?_)
      exact g_iret cx hr hlk hw h dX5_aboutVariant_88
    rw [if_neg c16] at h
    by_cases c19 : a2 = (4 : Int32)
    · rw [if_pos c19] at h
      have z9 := ev4.trans c19
      subst z9
      refine lv_tableIn (tgt := 89) hx hb dX5_aboutVariant_11 (by decide +kernel) (by decide +kernel) rfl (by decide) ?_
      refine lv_aload_n hx hb dX5_aboutVariant_89 rfl (lv_at hl 0 rfl) ?_
      refine lv_iload_n hx hb dX5_aboutVariant_90 rfl (lv_at hl 1 rfl) ?_
      refine lv_iconst (v := 0) hx hb dX5_aboutVariant_91 (by decide) ?_
      obtain ⟨r21, μ20, gr21, h⟩ := bd_some h
      refine g_callVI (As := [.int a1, .int 0]) (rest := []) cx hw hA (t_X5_ofVariant l G ad a1 (0 : Int32) μ1 gr21) shx_39 rfl ml_X5_110 im_X5_ofVariant se_X5_ofVariant in_X5 co_X5_ofVariant rfl hd_X5_ofVariant rfl ⟨(Nat.le_of_ble_eq_true rfl), (Nat.le_of_ble_eq_true rfl)⟩ hl.1 rfl (Nat.le_of_ble_eq_true rfl) dX5_aboutVariant_92 ⟨rfl, rfl⟩ (fun H locs hw => ?_)
      exact g_iret cx hr hlk hw h dX5_aboutVariant_95
    rw [if_neg c19] at h
    by_cases c22 : a2 = (5 : Int32)
    · rw [if_pos c22] at h
      have z9 := ev4.trans c22
      subst z9
      refine lv_tableIn (tgt := 96) hx hb dX5_aboutVariant_11 (by decide +kernel) (by decide +kernel) rfl (by decide) ?_
      refine lv_aload_n hx hb dX5_aboutVariant_96 rfl (lv_at hl 0 rfl) ?_
      refine lv_iload_n hx hb dX5_aboutVariant_97 rfl (lv_at hl 1 rfl) ?_
      refine lv_iconst (v := 1) hx hb dX5_aboutVariant_98 (by decide) ?_
      obtain ⟨r24, μ23, gr24, h⟩ := bd_some h
      refine g_callVI (As := [.int a1, .int 1]) (rest := []) cx hw hA (t_X5_ofVariant l G ad a1 (1 : Int32) μ1 gr24) shx_39 rfl ml_X5_110 im_X5_ofVariant se_X5_ofVariant in_X5 co_X5_ofVariant rfl hd_X5_ofVariant rfl ⟨(Nat.le_of_ble_eq_true rfl), (Nat.le_of_ble_eq_true rfl)⟩ hl.1 rfl (Nat.le_of_ble_eq_true rfl) dX5_aboutVariant_99 ⟨rfl, rfl⟩ (fun H locs hw => ?_)
      exact g_iret cx hr hlk hw h dX5_aboutVariant_102
    rw [if_neg c22] at h
    by_cases c25 : a2 = (6 : Int32)
    · rw [if_pos c25] at h
      have z9 := ev4.trans c25
      subst z9
      refine lv_tableIn (tgt := 103) hx hb dX5_aboutVariant_11 (by decide +kernel) (by decide +kernel) rfl (by decide) ?_
      refine lv_aload_n hx hb dX5_aboutVariant_103 rfl (lv_at hl 0 rfl) ?_
      refine lv_iload_n hx hb dX5_aboutVariant_104 rfl (lv_at hl 1 rfl) ?_
      obtain ⟨r27, μ26, gr27, h⟩ := bd_some h
      refine g_callVR (As := [.int a1]) (rest := []) cx hw hA (t_X5_patternOf l G ad a1 μ1 gr27) shx_39 rfl ml_X5_106 im_X5_patternOf se_X5_patternOf in_X5 co_X5_patternOf rfl hd_X5_patternOf rfl ⟨(Nat.le_of_ble_eq_true rfl), (Nat.le_of_ble_eq_true rfl)⟩ hl.1 rfl (Nat.le_of_ble_eq_true rfl) dX5_aboutVariant_105 ⟨rfl, rfl⟩ (fun H locs hw => ?_)
      have qr27 : sh 0 r27 = (0, 1) := p_X5_patternOf_sh gr27
      obtain ⟨r29, μ28, gr29, h⟩ := bd_some h
      refine g_callVI (As := []) (rest := []) cx hw hA (t_X2_numbers l G ad r27 qr27 μ26 gr29) qr27 rfl ml_X5_113 im_X2_numbers se_X2_numbers in_X2 co_X2_numbers rfl hd_X2_numbers rfl ⟨(Nat.le_of_ble_eq_true rfl), (Nat.le_of_ble_eq_true rfl)⟩ hl.1 rfl (Nat.le_of_ble_eq_true rfl) dX5_aboutVariant_108 ⟨rfl, rfl⟩ (fun H locs hw => ?_)
      exact g_iret cx hr hlk hw h dX5_aboutVariant_111
    rw [if_neg c25] at h
    rw [ev4]
    refine lv_tableOut (tgt := 112) hx hb dX5_aboutVariant_11 (sw_out (L := [(0 : Int32), (1 : Int32), (2 : Int32), (3 : Int32), (4 : Int32), (5 : Int32), (6 : Int32)]) (by decide +kernel) (by simp only [List.forall_mem_cons]; exact ⟨c5, c8, c11, c16, c19, c22, c25, fun _ q => absurd q List.not_mem_nil⟩)) (by decide) ?_
    refine lv_iconst (v := (-1)) hx hb dX5_aboutVariant_112 (by decide) ?_
    exact g_iret cx hr hlk hw h dX5_aboutVariant_113
  · rw [if_pos c3] at h
    refine lv_iconst (v := (-1)) hx hb dX5_aboutVariant_8 (by decide) ?_
    exact g_iret cx hr hlk hw h dX5_aboutVariant_9

theorem p_X11_variant_ex : ∃ f : Int32 → Int32 → Mem → Option (Int32 × Mem), ∀ (a1 : Int32) (a2 : Int32) (μ : Mem), f a1 a2 μ = bd (p_X5_aboutVariant a1 a2 μ) (fun r2 μ1 => some (r2, μ1)) := ⟨fun (a1 : Int32) (a2 : Int32) (μ : Mem) => bd (p_X5_aboutVariant a1 a2 μ) (fun r2 μ1 => some (r2, μ1)), fun _ _ _ => rfl⟩
noncomputable def p_X11_variant : Int32 → Int32 → Mem → Option (Int32 × Mem) := Classical.choose p_X11_variant_ex
theorem p_X11_variant_eq (a1 : Int32) (a2 : Int32) (μ : Mem) : p_X11_variant a1 a2 μ = bd (p_X5_aboutVariant a1 a2 μ) (fun r2 μ1 => some (r2, μ1)) := Classical.choose_spec p_X11_variant_ex a1 a2 μ
set_option maxHeartbeats 4000000 in
set_option maxRecDepth 100000 in
theorem t_X11_variant (l : Launch) (G : Gt) (ad : Nat → Nat) (a1 : Int32) (a2 : Int32) (μ : Mem) {r : Int32} {μz : Mem} (h : p_X11_variant a1 a2 μ = some (r, μz)) : Mt l yX11_variant cX11_variant 3 (some .int) ({ frames := 3, cells := 0, slots := 0, locals := 69 } : Room) G [.ref (ad 0), .int a1, .int a2] (wd 0 G ad μ) (eI 0 G ad r μz) := by
  refine Bk.mt (by decide) rfl (Nat.le_of_ble_eq_true rfl) ?_
  intro p e s m below meth c A ls H locs cx hr hlk hA hl hw
  have hx := cx.1
  have hb := cx.2.1
  have hl : lv_has ls 3 [(0, .ref (ad 0)), (1, .int a1), (2, .int a2)] := hl
  rw [p_X11_variant_eq] at h
  refine lv_aload_n hx hb dX11_variant_0 rfl (lv_at hl 0 rfl) ?_
  refine g_get cx hw inX11 (ci := 10) rfl 12 (by decide) rfl (v := .ref (ad 39)) shx_0 rfl fl_X11_67 dX11_variant_1 ?_
  refine lv_iload_n hx hb dX11_variant_4 rfl (lv_at hl 1 rfl) ?_
  refine lv_iload_n hx hb dX11_variant_5 rfl (lv_at hl 2 rfl) ?_
  obtain ⟨r2, μ1, gr2, h⟩ := bd_some h
  refine g_callVI (As := [.int a1, .int a2]) (rest := []) cx hw hA (t_X5_aboutVariant l G ad a1 a2 μ gr2) shx_39 rfl ml_X11_193 im_X5_aboutVariant se_X5_aboutVariant in_X5 co_X5_aboutVariant rfl hd_X5_aboutVariant rfl ⟨(Nat.le_of_ble_eq_true rfl), (Nat.le_of_ble_eq_true rfl)⟩ hl.1 rfl (Nat.le_of_ble_eq_true rfl) dX11_variant_6 ⟨rfl, rfl⟩ (fun H locs hw => ?_)
  exact g_iret cx hr hlk hw h dX11_variant_9

theorem p_X11_kinds_ex : ∃ f : Int32 → Int32 → Mem → Option (Int32 × Mem), ∀ (a1 : Int32) (a2 : Int32) (μ : Mem), f a1 a2 μ = bd (p_X5_hasVariant a1 μ) (fun r2 μ1 => (if r2 = (0 : Int32) then some ((-1 : Int32), μ1) else (if a2 < (0 : Int32) then some ((-1 : Int32), μ1) else (if a2 < (13 : Int32) then bd (p_X5_countOf a1 a2 μ1) (fun r7 μ6 => some (r7, μ6)) else some ((-1 : Int32), μ1))))) := ⟨fun (a1 : Int32) (a2 : Int32) (μ : Mem) => bd (p_X5_hasVariant a1 μ) (fun r2 μ1 => (if r2 = (0 : Int32) then some ((-1 : Int32), μ1) else (if a2 < (0 : Int32) then some ((-1 : Int32), μ1) else (if a2 < (13 : Int32) then bd (p_X5_countOf a1 a2 μ1) (fun r7 μ6 => some (r7, μ6)) else some ((-1 : Int32), μ1))))), fun _ _ _ => rfl⟩
noncomputable def p_X11_kinds : Int32 → Int32 → Mem → Option (Int32 × Mem) := Classical.choose p_X11_kinds_ex
theorem p_X11_kinds_eq (a1 : Int32) (a2 : Int32) (μ : Mem) : p_X11_kinds a1 a2 μ = bd (p_X5_hasVariant a1 μ) (fun r2 μ1 => (if r2 = (0 : Int32) then some ((-1 : Int32), μ1) else (if a2 < (0 : Int32) then some ((-1 : Int32), μ1) else (if a2 < (13 : Int32) then bd (p_X5_countOf a1 a2 μ1) (fun r7 μ6 => some (r7, μ6)) else some ((-1 : Int32), μ1))))) := Classical.choose_spec p_X11_kinds_ex a1 a2 μ
set_option maxHeartbeats 4000000 in
set_option maxRecDepth 100000 in
theorem t_X11_kinds (l : Launch) (G : Gt) (ad : Nat → Nat) (a1 : Int32) (a2 : Int32) (μ : Mem) {r : Int32} {μz : Mem} (h : p_X11_kinds a1 a2 μ = some (r, μz)) : Mt l yX11_kinds cX11_kinds 3 (some .int) ({ frames := 2, cells := 0, slots := 0, locals := 47 } : Room) G [.ref (ad 0), .int a1, .int a2] (wd 0 G ad μ) (eI 0 G ad r μz) := by
  refine Bk.mt (by decide) rfl (Nat.le_of_ble_eq_true rfl) ?_
  intro p e s m below meth c A ls H locs cx hr hlk hA hl hw
  have hx := cx.1
  have hb := cx.2.1
  have hl : lv_has ls 3 [(0, .ref (ad 0)), (1, .int a1), (2, .int a2)] := hl
  rw [p_X11_kinds_eq] at h
  refine lv_aload_n hx hb dX11_kinds_0 rfl (lv_at hl 0 rfl) ?_
  refine g_get cx hw inX11 (ci := 10) rfl 12 (by decide) rfl (v := .ref (ad 39)) shx_0 rfl fl_X11_67 dX11_kinds_1 ?_
  refine lv_iload_n hx hb dX11_kinds_4 rfl (lv_at hl 1 rfl) ?_
  obtain ⟨r2, μ1, gr2, h⟩ := bd_some h
  refine g_callVI (As := [.int a1]) (rest := []) cx hw hA (t_X5_hasVariant l G ad a1 μ gr2) shx_39 rfl ml_X11_196 im_X5_hasVariant se_X5_hasVariant in_X5 co_X5_hasVariant rfl hd_X5_hasVariant rfl ⟨(Nat.le_of_ble_eq_true rfl), (Nat.le_of_ble_eq_true rfl)⟩ hl.1 rfl (Nat.le_of_ble_eq_true rfl) dX11_kinds_5 ⟨rfl, rfl⟩ (fun H locs hw => ?_)
  refine lv_if_eq (tgt := 21) hx hb dX11_kinds_8 (by decide) (fun c3 => ?_) (fun c3 => ?_)
  · rw [if_pos c3] at h
    refine lv_iconst (v := (-1)) hx hb dX11_kinds_21 (by decide) ?_
    exact g_iret cx hr hlk hw h dX11_kinds_22
  · rw [if_neg c3] at h
    refine lv_iload_n hx hb dX11_kinds_11 rfl (lv_at hl 2 rfl) ?_
    refine lv_if_lt (tgt := 21) hx hb dX11_kinds_12 (by decide) (fun c4 => ?_) (fun c4 => ?_)
    · rw [if_pos c4] at h
      refine lv_iconst (v := (-1)) hx hb dX11_kinds_21 (by decide) ?_
      exact g_iret cx hr hlk hw h dX11_kinds_22
    · rw [if_neg c4] at h
      refine lv_iload_n hx hb dX11_kinds_15 rfl (lv_at hl 2 rfl) ?_
      refine lv_bipush (v := 13) hx hb dX11_kinds_16 (by decide) ?_
      refine lv_icmp_lt (tgt := 23) hx hb dX11_kinds_18 (by decide) (fun c5 => ?_) (fun c5 => ?_)
      · rw [if_pos c5] at h
        refine lv_aload_n hx hb dX11_kinds_23 rfl (lv_at hl 0 rfl) ?_
        refine g_get cx hw inX11 (ci := 10) rfl 12 (by decide) rfl (v := .ref (ad 39)) shx_0 rfl fl_X11_67 dX11_kinds_24 ?_
        refine lv_iload_n hx hb dX11_kinds_27 rfl (lv_at hl 1 rfl) ?_
        refine lv_iload_n hx hb dX11_kinds_28 rfl (lv_at hl 2 rfl) ?_
        obtain ⟨r7, μ6, gr7, h⟩ := bd_some h
        refine g_callVI (As := [.int a1, .int a2]) (rest := []) cx hw hA (t_X5_countOf l G ad a1 a2 μ1 gr7) shx_39 rfl ml_X11_200 im_X5_countOf se_X5_countOf in_X5 co_X5_countOf rfl hd_X5_countOf rfl ⟨(Nat.le_of_ble_eq_true rfl), (Nat.le_of_ble_eq_true rfl)⟩ hl.1 rfl (Nat.le_of_ble_eq_true rfl) dX11_kinds_29 ⟨rfl, rfl⟩ (fun H locs hw => ?_)
        exact g_iret cx hr hlk hw h dX11_kinds_32
      · rw [if_neg c5] at h
        refine lv_iconst (v := (-1)) hx hb dX11_kinds_21 (by decide) ?_
        exact g_iret cx hr hlk hw h dX11_kinds_22

theorem p_X11_canRun_b25_ex : ∃ f : Mem → Option (Int32 × Mem), ∀  (μ : Mem), f  μ = (if (μ.1 0 10) = (0 : Int32) then bd (p_X2_stars (sel 1 (μ.2.2 0 6)) μ) (fun r5 μ4 => (if r5 = (0 : Int32) then some ((1 : Int32), μ4) else some ((0 : Int32), μ4))) else some ((1 : Int32), μ)) := ⟨fun  (μ : Mem) => (if (μ.1 0 10) = (0 : Int32) then bd (p_X2_stars (sel 1 (μ.2.2 0 6)) μ) (fun r5 μ4 => (if r5 = (0 : Int32) then some ((1 : Int32), μ4) else some ((0 : Int32), μ4))) else some ((1 : Int32), μ)), fun _ => rfl⟩
noncomputable def p_X11_canRun_b25 : Mem → Option (Int32 × Mem) := Classical.choose p_X11_canRun_b25_ex
theorem p_X11_canRun_b25_eq  (μ : Mem) : p_X11_canRun_b25  μ = (if (μ.1 0 10) = (0 : Int32) then bd (p_X2_stars (sel 1 (μ.2.2 0 6)) μ) (fun r5 μ4 => (if r5 = (0 : Int32) then some ((1 : Int32), μ4) else some ((0 : Int32), μ4))) else some ((1 : Int32), μ)) := Classical.choose_spec p_X11_canRun_b25_ex  μ
set_option maxHeartbeats 4000000 in
set_option maxRecDepth 100000 in
theorem t_X11_canRun_b25 (l : Launch) (G : Gt) (ad : Nat → Nat) (av : List Value) {r : Int32} {μz : Mem}  (μ : Mem) (h : p_X11_canRun_b25   μ = some (r, μz)) : Bk l cX11_canRun 2 RX11 (some .boolean) ({ frames := 2, cells := 0, slots := 0, locals := 43 } : Room) G av (eI 0 G ad r μz) (wd 0 G ad μ) 25 [(0, .ref (ad 0))] [] := by
  intro p e s m below meth c A ls H locs cx hr hlk hA hl hw
  have hx := cx.1
  have hb := cx.2.1
  rw [p_X11_canRun_b25_eq] at h
  refine lv_aload_n hx hb dX11_canRun_25 rfl (lv_at hl 0 rfl) ?_
  refine g_get cx hw inX11 (ci := 10) rfl 10 (by decide) rfl (v := .int (μ.1 0 10)) shx_0 rfl fl_X11_57 dX11_canRun_26 ?_
  refine lv_if_ne (tgt := 42) hx hb dX11_canRun_29 (by decide) (fun c3 => ?_) (fun c3 => ?_)
  · rw [if_neg c3] at h
    refine lv_iconst (v := 1) hx hb dX11_canRun_42 (by decide) ?_
    refine lv_goto (tgt := 47) hx hb dX11_canRun_43 (by decide) ?_
    exact g_zret cx hr hlk rfl hw h dX11_canRun_47
  · rw [if_pos c3] at h
    refine lv_aload_n hx hb dX11_canRun_32 rfl (lv_at hl 0 rfl) ?_
    refine g_get cx hw inX11 (ci := 10) rfl 6 (by decide) rfl (v := .ref (ad (sel 1 (μ.2.2 0 6)))) shx_0 rfl fl_X11_44 dX11_canRun_33 ?_
    obtain ⟨r5, μ4, gr5, h⟩ := bd_some h
    refine g_callVI (As := []) (rest := []) cx hw hA (t_X2_stars l G ad (sel 1 (μ.2.2 0 6)) (sel_1 _) μ gr5) (sel_1 _) rfl ml_X11_148 im_X2_stars se_X2_stars in_X2 co_X2_stars rfl hd_X2_stars rfl ⟨(Nat.le_of_ble_eq_true rfl), (Nat.le_of_ble_eq_true rfl)⟩ hl.1 rfl (Nat.le_of_ble_eq_true rfl) dX11_canRun_36 ⟨rfl, rfl⟩ (fun H locs hw => ?_)
    refine lv_if_ne (tgt := 46) hx hb dX11_canRun_39 (by decide) (fun c6 => ?_) (fun c6 => ?_)
    · rw [if_neg c6] at h
      refine lv_iconst (v := 0) hx hb dX11_canRun_46 (by decide) ?_
      exact g_zret cx hr hlk rfl hw h dX11_canRun_47
    · rw [if_pos c6] at h
      refine lv_iconst (v := 1) hx hb dX11_canRun_42 (by decide) ?_
      refine lv_goto (tgt := 47) hx hb dX11_canRun_43 (by decide) ?_
      exact g_zret cx hr hlk rfl hw h dX11_canRun_47
theorem p_X11_canRun_b11_ex : ∃ f : Int32 → Mem → Option (Int32 × Mem), ∀ (a1 : Int32) (μ : Mem), f a1 μ = (if a1 = (0 : Int32) then p_X11_canRun_b25  μ else (if (μ.1 39 0) = (0 : Int32) then some ((0 : Int32), μ) else p_X11_canRun_b25  μ)) := ⟨fun (a1 : Int32) (μ : Mem) => (if a1 = (0 : Int32) then p_X11_canRun_b25  μ else (if (μ.1 39 0) = (0 : Int32) then some ((0 : Int32), μ) else p_X11_canRun_b25  μ)), fun _ _ => rfl⟩
noncomputable def p_X11_canRun_b11 : Int32 → Mem → Option (Int32 × Mem) := Classical.choose p_X11_canRun_b11_ex
theorem p_X11_canRun_b11_eq (a1 : Int32) (μ : Mem) : p_X11_canRun_b11 a1 μ = (if a1 = (0 : Int32) then p_X11_canRun_b25  μ else (if (μ.1 39 0) = (0 : Int32) then some ((0 : Int32), μ) else p_X11_canRun_b25  μ)) := Classical.choose_spec p_X11_canRun_b11_ex a1 μ
set_option maxHeartbeats 4000000 in
set_option maxRecDepth 100000 in
theorem t_X11_canRun_b11 (l : Launch) (G : Gt) (ad : Nat → Nat) (av : List Value) {r : Int32} {μz : Mem} (a1 : Int32) (μ : Mem) (h : p_X11_canRun_b11  a1 μ = some (r, μz)) : Bk l cX11_canRun 2 RX11 (some .boolean) ({ frames := 2, cells := 0, slots := 0, locals := 43 } : Room) G av (eI 0 G ad r μz) (wd 0 G ad μ) 11 [(0, .ref (ad 0)), (1, .int a1)] [] := by
  intro p e s m below meth c A ls H locs cx hr hlk hA hl hw
  have hx := cx.1
  have hb := cx.2.1
  rw [p_X11_canRun_b11_eq] at h
  refine lv_iload_n hx hb dX11_canRun_11 rfl (lv_at hl 1 rfl) ?_
  refine lv_if_eq (tgt := 25) hx hb dX11_canRun_12 (by decide) (fun c2 => ?_) (fun c2 => ?_)
  · rw [if_pos c2] at h
    exact t_X11_canRun_b25 l G ad av  μ h p e s m below meth c A ls H locs cx hr hlk hA (lv_sub hl [0] rfl) hw
  · rw [if_neg c2] at h
    refine lv_aload_n hx hb dX11_canRun_15 rfl (lv_at hl 0 rfl) ?_
    refine g_get cx hw inX11 (ci := 10) rfl 12 (by decide) rfl (v := .ref (ad 39)) shx_0 rfl fl_X11_67 dX11_canRun_16 ?_
    refine g_get cx hw inX5 (ci := 4) rfl 0 (by decide) rfl (v := .int (μ.1 39 0)) shx_39 rfl fl_X11_224 dX11_canRun_19 ?_
    refine lv_if_eq (tgt := 46) hx hb dX11_canRun_22 (by decide) (fun c7 => ?_) (fun c7 => ?_)
    · rw [if_pos c7] at h
      refine lv_iconst (v := 0) hx hb dX11_canRun_46 (by decide) ?_
      exact g_zret cx hr hlk rfl hw h dX11_canRun_47
    · rw [if_neg c7] at h
      exact t_X11_canRun_b25 l G ad av  μ h p e s m below meth c A ls H locs cx hr hlk hA (lv_sub hl [0] rfl) hw
theorem p_X11_canRun_ex : ∃ f : Int32 → Mem → Option (Int32 × Mem), ∀ (a1 : Int32) (μ : Mem), f a1 μ = (if a1 = (0 : Int32) then p_X11_canRun_b11  a1 μ else (if a1 = (1 : Int32) then p_X11_canRun_b11  a1 μ else some ((0 : Int32), μ))) := ⟨fun (a1 : Int32) (μ : Mem) => (if a1 = (0 : Int32) then p_X11_canRun_b11  a1 μ else (if a1 = (1 : Int32) then p_X11_canRun_b11  a1 μ else some ((0 : Int32), μ))), fun _ _ => rfl⟩
noncomputable def p_X11_canRun : Int32 → Mem → Option (Int32 × Mem) := Classical.choose p_X11_canRun_ex
theorem p_X11_canRun_eq (a1 : Int32) (μ : Mem) : p_X11_canRun a1 μ = (if a1 = (0 : Int32) then p_X11_canRun_b11  a1 μ else (if a1 = (1 : Int32) then p_X11_canRun_b11  a1 μ else some ((0 : Int32), μ))) := Classical.choose_spec p_X11_canRun_ex a1 μ
set_option maxHeartbeats 4000000 in
set_option maxRecDepth 100000 in
theorem t_X11_canRun (l : Launch) (G : Gt) (ad : Nat → Nat) (a1 : Int32) (μ : Mem) {r : Int32} {μz : Mem} (h : p_X11_canRun a1 μ = some (r, μz)) : Mt l yX11_canRun cX11_canRun 2 (some .boolean) ({ frames := 2, cells := 0, slots := 0, locals := 43 } : Room) G [.ref (ad 0), .int a1] (wd 0 G ad μ) (eI 0 G ad r μz) := by
  refine Bk.mt (by decide) rfl (Nat.le_of_ble_eq_true rfl) ?_
  intro p e s m below meth c A ls H locs cx hr hlk hA hl hw
  have hx := cx.1
  have hb := cx.2.1
  have hl : lv_has ls 2 [(0, .ref (ad 0)), (1, .int a1)] := hl
  rw [p_X11_canRun_eq] at h
  refine lv_iload_n hx hb dX11_canRun_0 rfl (lv_at hl 1 rfl) ?_
  refine lv_if_eq (tgt := 11) hx hb dX11_canRun_1 (by decide) (fun c1 => ?_) (fun c1 => ?_)
  · rw [if_pos c1] at h
    exact t_X11_canRun_b11 l G ad _  a1 μ h p e s m below meth c A ls H locs cx hr hlk hA (lv_sub hl [0, 1] rfl) hw
  · rw [if_neg c1] at h
    refine lv_iload_n hx hb dX11_canRun_4 rfl (lv_at hl 1 rfl) ?_
    refine lv_iconst (v := 1) hx hb dX11_canRun_5 (by decide) ?_
    refine lv_icmp_eq (tgt := 11) hx hb dX11_canRun_6 (by decide) (fun c8 => ?_) (fun c8 => ?_)
    · rw [if_pos c8] at h
      exact t_X11_canRun_b11 l G ad _  a1 μ h p e s m below meth c A ls H locs cx hr hlk hA (lv_sub hl [0, 1] rfl) hw
    · rw [if_neg c8] at h
      refine lv_iconst (v := 0) hx hb dX11_canRun_9 (by decide) ?_
      exact g_zret cx hr hlk rfl hw h dX11_canRun_10

theorem p_X1_begin_b45_ex : ∃ f : Nat → Nat → Int32 → Mem → Option Mem, (∀ (a0 : Nat) (a1 : Int32) (μ : Mem), f  0 a0 a1 μ = none) ∧ (∀ (n : Nat) (a0 : Nat) (a1 : Int32) (μ : Mem), f  (n + 1) a0 a1 μ = (if (8 : Int32) ≤ a1 then some μ else gd (inb a1 8) (bv (sF μ (a0 + 2) a1.toNatClampNeg (0 : Int32)) (fun μ11 => bv (a1 + 1) (fun v12 => f n a0 v12 μ11))))) := ⟨fun n => Nat.rec (fun (a0 : Nat) (a1 : Int32) (μ : Mem) => none) (fun _ ih => fun (a0 : Nat) (a1 : Int32) (μ : Mem) => (if (8 : Int32) ≤ a1 then some μ else gd (inb a1 8) (bv (sF μ (a0 + 2) a1.toNatClampNeg (0 : Int32)) (fun μ11 => bv (a1 + 1) (fun v12 => ih a0 v12 μ11))))) n, fun  _ _ _ => rfl, fun  _ _ _ _ => rfl⟩
noncomputable def p_X1_begin_b45 : Nat → Nat → Int32 → Mem → Option Mem := Classical.choose p_X1_begin_b45_ex
theorem p_X1_begin_b45_z (a0 : Nat) (a1 : Int32) (μ : Mem) : p_X1_begin_b45  0 a0 a1 μ = none := (Classical.choose_spec p_X1_begin_b45_ex).1  a0 a1 μ
theorem p_X1_begin_b45_s (n : Nat) (a0 : Nat) (a1 : Int32) (μ : Mem) : p_X1_begin_b45  (n + 1) a0 a1 μ = (if (8 : Int32) ≤ a1 then some μ else gd (inb a1 8) (bv (sF μ (a0 + 2) a1.toNatClampNeg (0 : Int32)) (fun μ11 => bv (a1 + 1) (fun v12 => p_X1_begin_b45  n a0 v12 μ11)))) := (Classical.choose_spec p_X1_begin_b45_ex).2  n a0 a1 μ
set_option maxHeartbeats 4000000 in
set_option maxRecDepth 100000 in
theorem t_X1_begin_b45 (l : Launch) (G : Gt) (ad : Nat → Nat) (av : List Value) {μz : Mem} : ∀ (n : Nat) (a0 : Nat) (q0 : sh 0 a0 = (0, 0)) (a1 : Int32) (μ : Mem), p_X1_begin_b45  n a0 a1 μ = some μz → Bk l cX1_begin 2 RX1 none ({ frames := 1, cells := 0, slots := 0, locals := 21 } : Room) G av (eV 0 G ad μz) (wd 0 G ad μ) 45 [(0, .ref (ad a0)), (1, .int a1)] [] := by
  intro n
  induction n with
  | zero => intro a0 q0 a1 μ h; rw [p_X1_begin_b45_z] at h; cases h
  | succ n ih =>
    intro a0 q0 a1 μ h p e s m below meth c A ls H locs cx hr hlk hA hl hw
    have hx := cx.1
    have hb := cx.2.1
    rw [p_X1_begin_b45_s] at h
    refine lv_iload_n hx hb dX1_begin_45 rfl (lv_at hl 1 rfl) ?_
    refine lv_bipush (v := 8) hx hb dX1_begin_46 (by decide) ?_
    refine lv_icmp_ge (tgt := 64) hx hb dX1_begin_48 (by decide) (fun c10 => ?_) (fun c10 => ?_)
    · rw [if_pos c10] at h
      exact g_vret cx hr hlk hw h dX1_begin_64
    · rw [if_neg c10] at h
      refine lv_aload_n hx hb dX1_begin_51 rfl (lv_at hl 0 rfl) ?_
      refine g_get cx hw inX1 (ci := 0) rfl 8 (by decide) rfl (v := .ref (ad (a0 + 2))) q0 rfl fl_X1_15 dX1_begin_52 ?_
      refine lv_iload_n hx hb dX1_begin_55 rfl (lv_at hl 1 rfl) ?_
      refine lv_iconst (v := 0) hx hb dX1_begin_56 (by decide) ?_
      refine g_iast cx hw (rl_X1_8 q0) h dX1_begin_57 (fun μ11 H locs h hw => ?_)
      obtain ⟨v12, ev12, h⟩ := bv_ex h
      refine lv_iinc (v := v12) (lv' := [(1, .int v12), (0, .ref (ad a0))]) hx hb dX1_begin_58 hl (k := 1) rfl (by rw [ev12]; rfl) (by decide) rfl (fun ls hl => ?_)
      refine lv_goto (tgt := 45) hx hb dX1_begin_61 (by decide) ?_
      exact ih a0 q0 v12 μ11 h p e s m below meth c A ls H locs cx hr hlk hA (lv_sub hl [1, 0] rfl) hw
theorem p_X1_begin_ex : ∃ f : Nat → Mem → Option Mem, ∀ (a0 : Nat) (μ : Mem), f a0 μ = bv (sF μ a0 0 (-1 : Int32)) (fun μ1 => bv (sF μ1 a0 1 (0 : Int32)) (fun μ2 => bv (sF μ2 a0 2 (0 : Int32)) (fun μ3 => bv (sF μ3 a0 3 (0 : Int32)) (fun μ4 => bv (sF μ4 a0 4 (0 : Int32)) (fun μ5 => bv (sF μ5 a0 5 (0 : Int32)) (fun μ6 => bv (sF μ6 a0 6 (0 : Int32)) (fun μ7 => bw (p_X2_begin (a0 + 3) (0 : Int32) μ7) (fun μ8 => p_X1_begin_b45  FUEL a0 (0 : Int32) μ8)))))))) := ⟨fun (a0 : Nat) (μ : Mem) => bv (sF μ a0 0 (-1 : Int32)) (fun μ1 => bv (sF μ1 a0 1 (0 : Int32)) (fun μ2 => bv (sF μ2 a0 2 (0 : Int32)) (fun μ3 => bv (sF μ3 a0 3 (0 : Int32)) (fun μ4 => bv (sF μ4 a0 4 (0 : Int32)) (fun μ5 => bv (sF μ5 a0 5 (0 : Int32)) (fun μ6 => bv (sF μ6 a0 6 (0 : Int32)) (fun μ7 => bw (p_X2_begin (a0 + 3) (0 : Int32) μ7) (fun μ8 => p_X1_begin_b45  FUEL a0 (0 : Int32) μ8)))))))), fun _ _ => rfl⟩
noncomputable def p_X1_begin : Nat → Mem → Option Mem := Classical.choose p_X1_begin_ex
theorem p_X1_begin_eq (a0 : Nat) (μ : Mem) : p_X1_begin a0 μ = bv (sF μ a0 0 (-1 : Int32)) (fun μ1 => bv (sF μ1 a0 1 (0 : Int32)) (fun μ2 => bv (sF μ2 a0 2 (0 : Int32)) (fun μ3 => bv (sF μ3 a0 3 (0 : Int32)) (fun μ4 => bv (sF μ4 a0 4 (0 : Int32)) (fun μ5 => bv (sF μ5 a0 5 (0 : Int32)) (fun μ6 => bv (sF μ6 a0 6 (0 : Int32)) (fun μ7 => bw (p_X2_begin (a0 + 3) (0 : Int32) μ7) (fun μ8 => p_X1_begin_b45  FUEL a0 (0 : Int32) μ8)))))))) := Classical.choose_spec p_X1_begin_ex a0 μ
set_option maxHeartbeats 4000000 in
set_option maxRecDepth 100000 in
theorem t_X1_begin (l : Launch) (G : Gt) (ad : Nat → Nat) (a0 : Nat) (q0 : sh 0 a0 = (0, 0)) (μ : Mem) {μz : Mem} (h : p_X1_begin a0 μ = some μz) : Mt l yX1_begin cX1_begin 2 none ({ frames := 1, cells := 0, slots := 0, locals := 21 } : Room) G [.ref (ad a0)] (wd 0 G ad μ) (eV 0 G ad μz) := by
  refine Bk.mt (by decide) rfl (Nat.le_of_ble_eq_true rfl) ?_
  intro p e s m below meth c A ls H locs cx hr hlk hA hl hw
  have hx := cx.1
  have hb := cx.2.1
  have hl : lv_has ls 2 [(0, .ref (ad a0))] := hl
  rw [p_X1_begin_eq] at h
  refine lv_aload_n hx hb dX1_begin_0 rfl (lv_at hl 0 rfl) ?_
  refine lv_iconst (v := (-1)) hx hb dX1_begin_1 (by decide) ?_
  refine g_put cx hw inX1 (ci := 0) rfl tyX1_ok nmX1 0 (by decide) rfl rfl rfl rfl q0 h fl_X1_31 dX1_begin_2 (fun μ1 H locs h hw => ?_)
  refine lv_aload_n hx hb dX1_begin_5 rfl (lv_at hl 0 rfl) ?_
  refine lv_iconst (v := 0) hx hb dX1_begin_6 (by decide) ?_
  refine g_put cx hw inX1 (ci := 0) rfl tyX1_ok nmX1 1 (by decide) rfl rfl rfl rfl q0 h fl_X1_35 dX1_begin_7 (fun μ2 H locs h hw => ?_)
  refine lv_aload_n hx hb dX1_begin_10 rfl (lv_at hl 0 rfl) ?_
  refine lv_iconst (v := 0) hx hb dX1_begin_11 (by decide) ?_
  refine g_put cx hw inX1 (ci := 0) rfl tyX1_ok nmX1 2 (by decide) rfl rfl rfl rfl q0 h fl_X1_38 dX1_begin_12 (fun μ3 H locs h hw => ?_)
  refine lv_aload_n hx hb dX1_begin_15 rfl (lv_at hl 0 rfl) ?_
  refine lv_iconst (v := 0) hx hb dX1_begin_16 (by decide) ?_
  refine g_put cx hw inX1 (ci := 0) rfl tyX1_ok nmX1 3 (by decide) rfl rfl rfl rfl q0 h fl_X1_41 dX1_begin_17 (fun μ4 H locs h hw => ?_)
  refine lv_aload_n hx hb dX1_begin_20 rfl (lv_at hl 0 rfl) ?_
  refine lv_iconst (v := 0) hx hb dX1_begin_21 (by decide) ?_
  refine g_put cx hw inX1 (ci := 0) rfl tyX1_ok nmX1 4 (by decide) rfl rfl rfl rfl q0 h fl_X1_44 dX1_begin_22 (fun μ5 H locs h hw => ?_)
  refine lv_aload_n hx hb dX1_begin_25 rfl (lv_at hl 0 rfl) ?_
  refine lv_iconst (v := 0) hx hb dX1_begin_26 (by decide) ?_
  refine g_put cx hw inX1 (ci := 0) rfl tyX1_ok nmX1 5 (by decide) rfl rfl rfl rfl q0 h fl_X1_47 dX1_begin_27 (fun μ6 H locs h hw => ?_)
  refine lv_aload_n hx hb dX1_begin_30 rfl (lv_at hl 0 rfl) ?_
  refine lv_iconst (v := 0) hx hb dX1_begin_31 (by decide) ?_
  refine g_put cx hw inX1 (ci := 0) rfl tyX1_ok nmX1 6 (by decide) rfl rfl rfl rfl q0 h fl_X1_50 dX1_begin_32 (fun μ7 H locs h hw => ?_)
  refine lv_aload_n hx hb dX1_begin_35 rfl (lv_at hl 0 rfl) ?_
  refine g_get cx hw inX1 (ci := 0) rfl 9 (by decide) rfl (v := .ref (ad (a0 + 3))) q0 rfl fl_X1_24 dX1_begin_36 ?_
  refine lv_iconst (v := 0) hx hb dX1_begin_39 (by decide) ?_
  obtain ⟨μ8, gμ8, h⟩ := bw_some h
  refine g_callVV (As := [.int 0]) (rest := []) cx hw hA (t_X2_begin l G ad (a0 + 3) (rl_X1_9 q0) (0 : Int32) μ7 gμ8) (rl_X1_9 q0) rfl ml_X1_53 im_X2_begin se_X2_begin in_X2 co_X2_begin rfl hd_X2_begin rfl ⟨(Nat.le_of_ble_eq_true rfl), (Nat.le_of_ble_eq_true rfl)⟩ hl.1 rfl (Nat.le_of_ble_eq_true rfl) dX1_begin_40 ⟨rfl, rfl⟩ (fun H locs hw => ?_)
  refine lv_iconst (v := 0) hx hb dX1_begin_43 (by decide) ?_
  refine lv_istore_n (lv' := [(1, .int 0), (0, .ref (ad a0))]) hx hb dX1_begin_44 rfl hl (by decide) rfl (fun ls hl => ?_)
  exact t_X1_begin_b45 l G ad _  FUEL a0 q0 (0 : Int32) μ8 h p e s m below meth c A ls H locs cx hr hlk hA (lv_sub hl [1, 0] rfl) hw

theorem p_X1_clear_ex : ∃ f : Nat → Mem → Option Mem, ∀ (a0 : Nat) (μ : Mem), f a0 μ = bw (p_X1_begin a0 μ) (fun μ1 => some μ1) := ⟨fun (a0 : Nat) (μ : Mem) => bw (p_X1_begin a0 μ) (fun μ1 => some μ1), fun _ _ => rfl⟩
noncomputable def p_X1_clear : Nat → Mem → Option Mem := Classical.choose p_X1_clear_ex
theorem p_X1_clear_eq (a0 : Nat) (μ : Mem) : p_X1_clear a0 μ = bw (p_X1_begin a0 μ) (fun μ1 => some μ1) := Classical.choose_spec p_X1_clear_ex a0 μ
set_option maxHeartbeats 4000000 in
set_option maxRecDepth 100000 in
theorem t_X1_clear (l : Launch) (G : Gt) (ad : Nat → Nat) (a0 : Nat) (q0 : sh 0 a0 = (0, 0)) (μ : Mem) {μz : Mem} (h : p_X1_clear a0 μ = some μz) : Mt l yX1_clear cX1_clear 1 none ({ frames := 2, cells := 0, slots := 0, locals := 42 } : Room) G [.ref (ad a0)] (wd 0 G ad μ) (eV 0 G ad μz) := by
  refine Bk.mt (by decide) rfl (Nat.le_of_ble_eq_true rfl) ?_
  intro p e s m below meth c A ls H locs cx hr hlk hA hl hw
  have hx := cx.1
  have hb := cx.2.1
  have hl : lv_has ls 1 [(0, .ref (ad a0))] := hl
  rw [p_X1_clear_eq] at h
  refine lv_aload_n hx hb dX1_clear_0 rfl (lv_at hl 0 rfl) ?_
  obtain ⟨μ1, gμ1, h⟩ := bw_some h
  refine g_callVV (As := []) (rest := []) cx hw hA (t_X1_begin l G ad a0 q0 μ gμ1) q0 rfl ml_X1_28 im_X1_begin se_X1_begin in_X1 co_X1_begin rfl hd_X1_begin rfl ⟨(Nat.le_of_ble_eq_true rfl), (Nat.le_of_ble_eq_true rfl)⟩ hl.1 rfl (Nat.le_of_ble_eq_true rfl) dX1_clear_1 ⟨rfl, rfl⟩ (fun H locs hw => ?_)
  exact g_vret cx hr hlk hw h dX1_clear_4

theorem p_X1_isRunning_ex : ∃ f : Nat → Mem → Option (Int32 × Mem), ∀ (a0 : Nat) (μ : Mem), f a0 μ = (if (μ.1 a0 0) = (-1 : Int32) then some ((1 : Int32), μ) else some ((0 : Int32), μ)) := ⟨fun (a0 : Nat) (μ : Mem) => (if (μ.1 a0 0) = (-1 : Int32) then some ((1 : Int32), μ) else some ((0 : Int32), μ)), fun _ _ => rfl⟩
noncomputable def p_X1_isRunning : Nat → Mem → Option (Int32 × Mem) := Classical.choose p_X1_isRunning_ex
theorem p_X1_isRunning_eq (a0 : Nat) (μ : Mem) : p_X1_isRunning a0 μ = (if (μ.1 a0 0) = (-1 : Int32) then some ((1 : Int32), μ) else some ((0 : Int32), μ)) := Classical.choose_spec p_X1_isRunning_ex a0 μ
set_option maxHeartbeats 4000000 in
set_option maxRecDepth 100000 in
theorem t_X1_isRunning (l : Launch) (G : Gt) (ad : Nat → Nat) (a0 : Nat) (q0 : sh 0 a0 = (0, 0)) (μ : Mem) {r : Int32} {μz : Mem} (h : p_X1_isRunning a0 μ = some (r, μz)) : Mt l yX1_isRunning cX1_isRunning 1 (some .boolean) ({ frames := 0, cells := 0, slots := 0, locals := 0 } : Room) G [.ref (ad a0)] (wd 0 G ad μ) (eI 0 G ad r μz) := by
  refine Bk.mt (by decide) rfl (Nat.le_of_ble_eq_true rfl) ?_
  intro p e s m below meth c A ls H locs cx hr hlk hA hl hw
  have hx := cx.1
  have hb := cx.2.1
  have hl : lv_has ls 1 [(0, .ref (ad a0))] := hl
  rw [p_X1_isRunning_eq] at h
  refine lv_aload_n hx hb dX1_isRunning_0 rfl (lv_at hl 0 rfl) ?_
  refine g_get cx hw inX1 (ci := 0) rfl 0 (by decide) rfl (v := .int (μ.1 a0 0)) q0 rfl fl_X1_31 dX1_isRunning_1 ?_
  refine lv_iconst (v := (-1)) hx hb dX1_isRunning_4 (by decide) ?_
  refine lv_icmp_ne (tgt := 12) hx hb dX1_isRunning_5 (by decide) (fun c1 => ?_) (fun c1 => ?_)
  · rw [if_neg c1] at h
    refine lv_iconst (v := 0) hx hb dX1_isRunning_12 (by decide) ?_
    exact g_zret cx hr hlk rfl hw h dX1_isRunning_13
  · rw [if_pos c1] at h
    refine lv_iconst (v := 1) hx hb dX1_isRunning_8 (by decide) ?_
    refine lv_goto (tgt := 13) hx hb dX1_isRunning_9 (by decide) ?_
    exact g_zret cx hr hlk rfl hw h dX1_isRunning_13

theorem p_X1_beginCall_ex : ∃ f : Nat → Mem → Option (Int32 × Mem), ∀ (a0 : Nat) (μ : Mem), f a0 μ = (if (μ.1 a0 1) < (100 : Int32) then (if (μ.1 a0 2) < (30 : Int32) then bv (sF μ a0 1 ((μ.1 a0 1) + (1 : Int32))) (fun μ3 => bv (sF μ3 a0 2 ((μ3.1 a0 2) + (1 : Int32))) (fun μ4 => bv (sF μ4 a0 3 (imax (μ4.1 a0 3) (μ4.1 a0 2))) (fun μ5 => bd (p_X1_isRunning a0 μ5) (fun r7 μ6 => gd (isB r7) (some (r7, μ6)))))) else bv (sF μ a0 0 (3 : Int32)) (fun μ9 => bd (p_X1_isRunning a0 μ9) (fun r11 μ10 => gd (isB r11) (some (r11, μ10))))) else bv (sF μ a0 0 (1 : Int32)) (fun μ13 => bd (p_X1_isRunning a0 μ13) (fun r15 μ14 => gd (isB r15) (some (r15, μ14))))) := ⟨fun (a0 : Nat) (μ : Mem) => (if (μ.1 a0 1) < (100 : Int32) then (if (μ.1 a0 2) < (30 : Int32) then bv (sF μ a0 1 ((μ.1 a0 1) + (1 : Int32))) (fun μ3 => bv (sF μ3 a0 2 ((μ3.1 a0 2) + (1 : Int32))) (fun μ4 => bv (sF μ4 a0 3 (imax (μ4.1 a0 3) (μ4.1 a0 2))) (fun μ5 => bd (p_X1_isRunning a0 μ5) (fun r7 μ6 => gd (isB r7) (some (r7, μ6)))))) else bv (sF μ a0 0 (3 : Int32)) (fun μ9 => bd (p_X1_isRunning a0 μ9) (fun r11 μ10 => gd (isB r11) (some (r11, μ10))))) else bv (sF μ a0 0 (1 : Int32)) (fun μ13 => bd (p_X1_isRunning a0 μ13) (fun r15 μ14 => gd (isB r15) (some (r15, μ14))))), fun _ _ => rfl⟩
noncomputable def p_X1_beginCall : Nat → Mem → Option (Int32 × Mem) := Classical.choose p_X1_beginCall_ex
theorem p_X1_beginCall_eq (a0 : Nat) (μ : Mem) : p_X1_beginCall a0 μ = (if (μ.1 a0 1) < (100 : Int32) then (if (μ.1 a0 2) < (30 : Int32) then bv (sF μ a0 1 ((μ.1 a0 1) + (1 : Int32))) (fun μ3 => bv (sF μ3 a0 2 ((μ3.1 a0 2) + (1 : Int32))) (fun μ4 => bv (sF μ4 a0 3 (imax (μ4.1 a0 3) (μ4.1 a0 2))) (fun μ5 => bd (p_X1_isRunning a0 μ5) (fun r7 μ6 => gd (isB r7) (some (r7, μ6)))))) else bv (sF μ a0 0 (3 : Int32)) (fun μ9 => bd (p_X1_isRunning a0 μ9) (fun r11 μ10 => gd (isB r11) (some (r11, μ10))))) else bv (sF μ a0 0 (1 : Int32)) (fun μ13 => bd (p_X1_isRunning a0 μ13) (fun r15 μ14 => gd (isB r15) (some (r15, μ14))))) := Classical.choose_spec p_X1_beginCall_ex a0 μ
set_option maxHeartbeats 4000000 in
set_option maxRecDepth 100000 in
theorem t_X1_beginCall (l : Launch) (G : Gt) (ad : Nat → Nat) (a0 : Nat) (q0 : sh 0 a0 = (0, 0)) (μ : Mem) {r : Int32} {μz : Mem} (h : p_X1_beginCall a0 μ = some (r, μz)) : Mt l yX1_beginCall cX1_beginCall 1 (some .boolean) ({ frames := 1, cells := 0, slots := 0, locals := 24 } : Room) G [.ref (ad a0)] (wd 0 G ad μ) (eI 0 G ad r μz) := by
  refine Bk.mt (by decide) rfl (Nat.le_of_ble_eq_true rfl) ?_
  intro p e s m below meth c A ls H locs cx hr hlk hA hl hw
  have hx := cx.1
  have hb := cx.2.1
  have hl : lv_has ls 1 [(0, .ref (ad a0))] := hl
  rw [p_X1_beginCall_eq] at h
  refine lv_aload_n hx hb dX1_beginCall_0 rfl (lv_at hl 0 rfl) ?_
  refine g_get cx hw inX1 (ci := 0) rfl 1 (by decide) rfl (v := .int (μ.1 a0 1)) q0 rfl fl_X1_35 dX1_beginCall_1 ?_
  refine lv_bipush (v := 100) hx hb dX1_beginCall_4 (by decide) ?_
  refine lv_icmp_lt (tgt := 17) hx hb dX1_beginCall_6 (by decide) (fun c1 => ?_) (fun c1 => ?_)
  · rw [if_pos c1] at h
    refine lv_aload_n hx hb dX1_beginCall_17 rfl (lv_at hl 0 rfl) ?_
    refine g_get cx hw inX1 (ci := 0) rfl 2 (by decide) rfl (v := .int (μ.1 a0 2)) q0 rfl fl_X1_38 dX1_beginCall_18 ?_
    refine lv_bipush (v := 30) hx hb dX1_beginCall_21 (by decide) ?_
    refine lv_icmp_lt (tgt := 34) hx hb dX1_beginCall_23 (by decide) (fun c2 => ?_) (fun c2 => ?_)
    · rw [if_pos c2] at h
      refine lv_aload_n hx hb dX1_beginCall_34 rfl (lv_at hl 0 rfl) ?_
      refine lv_dup hx hb dX1_beginCall_35 rfl ?_
      refine g_get cx hw inX1 (ci := 0) rfl 1 (by decide) rfl (v := .int (μ.1 a0 1)) q0 rfl fl_X1_35 dX1_beginCall_36 ?_
      refine lv_iconst (v := 1) hx hb dX1_beginCall_39 (by decide) ?_
      refine lv_iadd hx hb dX1_beginCall_40 ?_
      refine g_put cx hw inX1 (ci := 0) rfl tyX1_ok nmX1 1 (by decide) rfl rfl rfl rfl q0 h fl_X1_35 dX1_beginCall_41 (fun μ3 H locs h hw => ?_)
      refine lv_aload_n hx hb dX1_beginCall_44 rfl (lv_at hl 0 rfl) ?_
      refine lv_dup hx hb dX1_beginCall_45 rfl ?_
      refine g_get cx hw inX1 (ci := 0) rfl 2 (by decide) rfl (v := .int (μ3.1 a0 2)) q0 rfl fl_X1_38 dX1_beginCall_46 ?_
      refine lv_iconst (v := 1) hx hb dX1_beginCall_49 (by decide) ?_
      refine lv_iadd hx hb dX1_beginCall_50 ?_
      refine g_put cx hw inX1 (ci := 0) rfl tyX1_ok nmX1 2 (by decide) rfl rfl rfl rfl q0 h fl_X1_38 dX1_beginCall_51 (fun μ4 H locs h hw => ?_)
      refine lv_aload_n hx hb dX1_beginCall_54 rfl (lv_at hl 0 rfl) ?_
      refine lv_aload_n hx hb dX1_beginCall_55 rfl (lv_at hl 0 rfl) ?_
      refine g_get cx hw inX1 (ci := 0) rfl 3 (by decide) rfl (v := .int (μ4.1 a0 3)) q0 rfl fl_X1_41 dX1_beginCall_56 ?_
      refine lv_aload_n hx hb dX1_beginCall_59 rfl (lv_at hl 0 rfl) ?_
      refine g_get cx hw inX1 (ci := 0) rfl 2 (by decide) rfl (v := .int (μ4.1 a0 2)) q0 rfl fl_X1_38 dX1_beginCall_60 ?_
      refine r_mmax (v := (imax (μ4.1 a0 3) (μ4.1 a0 2))) cx ml_X1_55 hl.1 (Nat.le_of_ble_eq_true rfl) (Nat.le_of_ble_eq_true rfl) (Nat.le_of_ble_eq_true rfl) (Nat.le_of_ble_eq_true rfl) rfl dX1_beginCall_63 ?_
      refine g_put cx hw inX1 (ci := 0) rfl tyX1_ok nmX1 3 (by decide) rfl rfl rfl rfl q0 h fl_X1_41 dX1_beginCall_66 (fun μ5 H locs h hw => ?_)
      refine lv_aload_n hx hb dX1_beginCall_69 rfl (lv_at hl 0 rfl) ?_
      obtain ⟨r7, μ6, gr7, h⟩ := bd_some h
      refine g_callVI (As := []) (rest := []) cx hw hA (t_X1_isRunning l G ad a0 q0 μ5 gr7) q0 rfl ml_X1_61 im_X1_isRunning se_X1_isRunning in_X1 co_X1_isRunning rfl hd_X1_isRunning rfl ⟨(Nat.le_of_ble_eq_true rfl), (Nat.le_of_ble_eq_true rfl)⟩ hl.1 rfl (Nat.le_of_ble_eq_true rfl) dX1_beginCall_70 ⟨rfl, rfl⟩ (fun H locs hw => ?_)
      obtain ⟨c8, h⟩ := gd_some h
      exact g_zret cx hr hlk (isB_n c8) hw h dX1_beginCall_73
    · rw [if_neg c2] at h
      refine lv_aload_n hx hb dX1_beginCall_26 rfl (lv_at hl 0 rfl) ?_
      refine lv_iconst (v := 3) hx hb dX1_beginCall_27 (by decide) ?_
      refine g_put cx hw inX1 (ci := 0) rfl tyX1_ok nmX1 0 (by decide) rfl rfl rfl rfl q0 h fl_X1_31 dX1_beginCall_28 (fun μ9 H locs h hw => ?_)
      refine lv_goto (tgt := 69) hx hb dX1_beginCall_31 (by decide) ?_
      refine lv_aload_n hx hb dX1_beginCall_69 rfl (lv_at hl 0 rfl) ?_
      obtain ⟨r11, μ10, gr11, h⟩ := bd_some h
      refine g_callVI (As := []) (rest := []) cx hw hA (t_X1_isRunning l G ad a0 q0 μ9 gr11) q0 rfl ml_X1_61 im_X1_isRunning se_X1_isRunning in_X1 co_X1_isRunning rfl hd_X1_isRunning rfl ⟨(Nat.le_of_ble_eq_true rfl), (Nat.le_of_ble_eq_true rfl)⟩ hl.1 rfl (Nat.le_of_ble_eq_true rfl) dX1_beginCall_70 ⟨rfl, rfl⟩ (fun H locs hw => ?_)
      obtain ⟨c12, h⟩ := gd_some h
      exact g_zret cx hr hlk (isB_n c12) hw h dX1_beginCall_73
  · rw [if_neg c1] at h
    refine lv_aload_n hx hb dX1_beginCall_9 rfl (lv_at hl 0 rfl) ?_
    refine lv_iconst (v := 1) hx hb dX1_beginCall_10 (by decide) ?_
    refine g_put cx hw inX1 (ci := 0) rfl tyX1_ok nmX1 0 (by decide) rfl rfl rfl rfl q0 h fl_X1_31 dX1_beginCall_11 (fun μ13 H locs h hw => ?_)
    refine lv_goto (tgt := 69) hx hb dX1_beginCall_14 (by decide) ?_
    refine lv_aload_n hx hb dX1_beginCall_69 rfl (lv_at hl 0 rfl) ?_
    obtain ⟨r15, μ14, gr15, h⟩ := bd_some h
    refine g_callVI (As := []) (rest := []) cx hw hA (t_X1_isRunning l G ad a0 q0 μ13 gr15) q0 rfl ml_X1_61 im_X1_isRunning se_X1_isRunning in_X1 co_X1_isRunning rfl hd_X1_isRunning rfl ⟨(Nat.le_of_ble_eq_true rfl), (Nat.le_of_ble_eq_true rfl)⟩ hl.1 rfl (Nat.le_of_ble_eq_true rfl) dX1_beginCall_70 ⟨rfl, rfl⟩ (fun H locs hw => ?_)
    obtain ⟨c16, h⟩ := gd_some h
    exact g_zret cx hr hlk (isB_n c16) hw h dX1_beginCall_73

theorem p_X7_call_ex : ∃ f : Int32 → Int32 → Mem → Option Mem, ∀ (a1 : Int32) (a2 : Int32) (μ : Mem), f a1 a2 μ = bd (p_X3_startOf (sel 2 (μ.2.2 148 3)) a1 μ) (fun r2 μ1 => (if r2 = (-1 : Int32) then bv (sF μ1 (sel 0 (μ1.2.2 148 4)) 0 (4 : Int32)) (fun μ10 => some μ10) else bd (p_X1_beginCall (sel 0 (μ1.2.2 148 4)) μ1) (fun r5 μ4 => (if r5 = (0 : Int32) then some μ4 else bw (p_X8_openFrame a2 (μ4.1 148 5) μ4) (fun μ7 => bv (sF μ7 148 5 r2) (fun μ9 => some μ9)))))) := ⟨fun (a1 : Int32) (a2 : Int32) (μ : Mem) => bd (p_X3_startOf (sel 2 (μ.2.2 148 3)) a1 μ) (fun r2 μ1 => (if r2 = (-1 : Int32) then bv (sF μ1 (sel 0 (μ1.2.2 148 4)) 0 (4 : Int32)) (fun μ10 => some μ10) else bd (p_X1_beginCall (sel 0 (μ1.2.2 148 4)) μ1) (fun r5 μ4 => (if r5 = (0 : Int32) then some μ4 else bw (p_X8_openFrame a2 (μ4.1 148 5) μ4) (fun μ7 => bv (sF μ7 148 5 r2) (fun μ9 => some μ9)))))), fun _ _ _ => rfl⟩
noncomputable def p_X7_call : Int32 → Int32 → Mem → Option Mem := Classical.choose p_X7_call_ex
theorem p_X7_call_eq (a1 : Int32) (a2 : Int32) (μ : Mem) : p_X7_call a1 a2 μ = bd (p_X3_startOf (sel 2 (μ.2.2 148 3)) a1 μ) (fun r2 μ1 => (if r2 = (-1 : Int32) then bv (sF μ1 (sel 0 (μ1.2.2 148 4)) 0 (4 : Int32)) (fun μ10 => some μ10) else bd (p_X1_beginCall (sel 0 (μ1.2.2 148 4)) μ1) (fun r5 μ4 => (if r5 = (0 : Int32) then some μ4 else bw (p_X8_openFrame a2 (μ4.1 148 5) μ4) (fun μ7 => bv (sF μ7 148 5 r2) (fun μ9 => some μ9)))))) := Classical.choose_spec p_X7_call_ex a1 a2 μ
set_option maxHeartbeats 4000000 in
set_option maxRecDepth 100000 in
theorem t_X7_call (l : Launch) (G : Gt) (ad : Nat → Nat) (a1 : Int32) (a2 : Int32) (μ : Mem) {μz : Mem} (h : p_X7_call a1 a2 μ = some μz) : Mt l yX7_call cX7_call 4 none ({ frames := 3, cells := 0, slots := 0, locals := 68 } : Room) G [.ref (ad 148), .int a1, .int a2] (wd 0 G ad μ) (eV 0 G ad μz) := by
  refine Bk.mt (by decide) rfl (Nat.le_of_ble_eq_true rfl) ?_
  intro p e s m below meth c A ls H locs cx hr hlk hA hl hw
  have hx := cx.1
  have hb := cx.2.1
  have hl : lv_has ls 4 [(0, .ref (ad 148)), (1, .int a1), (2, .int a2)] := hl
  rw [p_X7_call_eq] at h
  refine lv_aload_n hx hb dX7_call_0 rfl (lv_at hl 0 rfl) ?_
  refine g_get cx hw inX7 (ci := 6) rfl 3 (by decide) rfl (v := .ref (ad (sel 2 (μ.2.2 148 3)))) shx_148 rfl fl_X7_26 dX7_call_1 ?_
  refine lv_iload_n hx hb dX7_call_4 rfl (lv_at hl 1 rfl) ?_
  obtain ⟨r2, μ1, gr2, h⟩ := bd_some h
  refine g_callVI (As := [.int a1]) (rest := []) cx hw hA (t_X3_startOf l G ad (sel 2 (μ.2.2 148 3)) (sel_2 _) a1 μ gr2) (sel_2 _) rfl ml_X7_160 im_X3_startOf se_X3_startOf in_X3 co_X3_startOf rfl hd_X3_startOf rfl ⟨(Nat.le_of_ble_eq_true rfl), (Nat.le_of_ble_eq_true rfl)⟩ hl.1 rfl (Nat.le_of_ble_eq_true rfl) dX7_call_5 ⟨rfl, rfl⟩ (fun H locs hw => ?_)
  refine lv_istore_n (lv' := [(3, .int r2), (0, .ref (ad 148)), (1, .int a1), (2, .int a2)]) hx hb dX7_call_8 rfl hl (by decide) rfl (fun ls hl => ?_)
  refine lv_iload_n hx hb dX7_call_9 rfl (lv_at hl 0 rfl) ?_
  refine lv_iconst (v := (-1)) hx hb dX7_call_10 (by decide) ?_
  refine lv_icmp_ne (tgt := 25) hx hb dX7_call_11 (by decide) (fun c3 => ?_) (fun c3 => ?_)
  · rw [if_neg c3] at h
    refine lv_aload_n hx hb dX7_call_25 rfl (lv_at hl 1 rfl) ?_
    refine g_get cx hw inX7 (ci := 6) rfl 4 (by decide) rfl (v := .ref (ad (sel 0 (μ1.2.2 148 4)))) shx_148 rfl fl_X7_30 dX7_call_26 ?_
    obtain ⟨r5, μ4, gr5, h⟩ := bd_some h
    refine g_callVI (As := []) (rest := []) cx hw hA (t_X1_beginCall l G ad (sel 0 (μ1.2.2 148 4)) (sel_0 _) μ1 gr5) (sel_0 _) rfl ml_X7_163 im_X1_beginCall se_X1_beginCall in_X1 co_X1_beginCall rfl hd_X1_beginCall rfl ⟨(Nat.le_of_ble_eq_true rfl), (Nat.le_of_ble_eq_true rfl)⟩ hl.1 rfl (Nat.le_of_ble_eq_true rfl) dX7_call_29 ⟨rfl, rfl⟩ (fun H locs hw => ?_)
    refine lv_if_eq (tgt := 52) hx hb dX7_call_32 (by decide) (fun c6 => ?_) (fun c6 => ?_)
    · rw [if_pos c6] at h
      exact g_vret cx hr hlk hw h dX7_call_52
    · rw [if_neg c6] at h
      refine lv_aload_n hx hb dX7_call_35 rfl (lv_at hl 1 rfl) ?_
      refine g_get cx hw inX7 (ci := 6) rfl 0 (by decide) rfl (v := .ref (ad 30)) shx_148 rfl fl_X7_9 dX7_call_36 ?_
      refine lv_iload_n hx hb dX7_call_39 rfl (lv_at hl 3 rfl) ?_
      refine lv_aload_n hx hb dX7_call_40 rfl (lv_at hl 1 rfl) ?_
      refine g_get cx hw inX7 (ci := 6) rfl 5 (by decide) rfl (v := .int (μ4.1 148 5)) shx_148 rfl fl_X7_34 dX7_call_41 ?_
      obtain ⟨μ7, gμ7, h⟩ := bw_some h
      refine g_callVV (As := [.int a2, .int (μ4.1 148 5)]) (rest := []) cx hw hA (t_X8_openFrame l G ad a2 (μ4.1 148 5) μ4 gμ7) shx_30 rfl ml_X7_166 im_X8_openFrame se_X8_openFrame in_X8 co_X8_openFrame rfl hd_X8_openFrame rfl ⟨(Nat.le_of_ble_eq_true rfl), (Nat.le_of_ble_eq_true rfl)⟩ hl.1 rfl (Nat.le_of_ble_eq_true rfl) dX7_call_44 ⟨rfl, rfl⟩ (fun H locs hw => ?_)
      refine lv_aload_n hx hb dX7_call_47 rfl (lv_at hl 1 rfl) ?_
      refine lv_iload_n hx hb dX7_call_48 rfl (lv_at hl 0 rfl) ?_
      refine g_put cx hw inX7 (ci := 6) rfl tyX7_ok nmX7 5 (by decide) rfl rfl rfl rfl shx_148 h fl_X7_34 dX7_call_49 (fun μ9 H locs h hw => ?_)
      exact g_vret cx hr hlk hw h dX7_call_52
  · rw [if_pos c3] at h
    refine lv_aload_n hx hb dX7_call_14 rfl (lv_at hl 1 rfl) ?_
    refine g_get cx hw inX7 (ci := 6) rfl 4 (by decide) rfl (v := .ref (ad (sel 0 (μ1.2.2 148 4)))) shx_148 rfl fl_X7_30 dX7_call_15 ?_
    refine lv_iconst (v := 4) hx hb dX7_call_18 (by decide) ?_
    refine g_put cx hw inX1 (ci := 0) rfl tyX1_ok nmX1 0 (by decide) rfl rfl rfl rfl (sel_0 _) h fl_X7_54 dX7_call_19 (fun μ10 H locs h hw => ?_)
    refine lv_goto (tgt := 52) hx hb dX7_call_22 (by decide) ?_
    exact g_vret cx hr hlk hw h dX7_call_52

theorem p_X7_makePair_ex : ∃ f : Mem → Option Mem, ∀  (μ : Mem), f  μ = bd (p_X8_pop μ) (fun r2 μ1 => bd (p_X8_pop μ1) (fun r4 μ3 => bd (p_X8_isTooHeavy r4 r2 μ3) (fun r6 μ5 => (if r6 = (0 : Int32) then bd (p_X8_pair r4 r2 μ5) (fun r9 μ8 => bw (p_X8_push r9 μ8) (fun μ10 => some μ10)) else bv (sF μ5 (sel 0 (μ5.2.2 148 4)) 0 (2 : Int32)) (fun μ12 => some μ12))))) := ⟨fun  (μ : Mem) => bd (p_X8_pop μ) (fun r2 μ1 => bd (p_X8_pop μ1) (fun r4 μ3 => bd (p_X8_isTooHeavy r4 r2 μ3) (fun r6 μ5 => (if r6 = (0 : Int32) then bd (p_X8_pair r4 r2 μ5) (fun r9 μ8 => bw (p_X8_push r9 μ8) (fun μ10 => some μ10)) else bv (sF μ5 (sel 0 (μ5.2.2 148 4)) 0 (2 : Int32)) (fun μ12 => some μ12))))), fun _ => rfl⟩
noncomputable def p_X7_makePair : Mem → Option Mem := Classical.choose p_X7_makePair_ex
theorem p_X7_makePair_eq  (μ : Mem) : p_X7_makePair  μ = bd (p_X8_pop μ) (fun r2 μ1 => bd (p_X8_pop μ1) (fun r4 μ3 => bd (p_X8_isTooHeavy r4 r2 μ3) (fun r6 μ5 => (if r6 = (0 : Int32) then bd (p_X8_pair r4 r2 μ5) (fun r9 μ8 => bw (p_X8_push r9 μ8) (fun μ10 => some μ10)) else bv (sF μ5 (sel 0 (μ5.2.2 148 4)) 0 (2 : Int32)) (fun μ12 => some μ12))))) := Classical.choose_spec p_X7_makePair_ex  μ
set_option maxHeartbeats 4000000 in
set_option maxRecDepth 100000 in
theorem t_X7_makePair (l : Launch) (G : Gt) (ad : Nat → Nat)  (μ : Mem) {μz : Mem} (h : p_X7_makePair  μ = some μz) : Mt l yX7_makePair cX7_makePair 5 none ({ frames := 3, cells := 0, slots := 0, locals := 68 } : Room) G [.ref (ad 148)] (wd 0 G ad μ) (eV 0 G ad μz) := by
  refine Bk.mt (by decide) rfl (Nat.le_of_ble_eq_true rfl) ?_
  intro p e s m below meth c A ls H locs cx hr hlk hA hl hw
  have hx := cx.1
  have hb := cx.2.1
  have hl : lv_has ls 5 [(0, .ref (ad 148))] := hl
  rw [p_X7_makePair_eq] at h
  refine lv_aload_n hx hb dX7_makePair_0 rfl (lv_at hl 0 rfl) ?_
  refine g_get cx hw inX7 (ci := 6) rfl 0 (by decide) rfl (v := .ref (ad 30)) shx_148 rfl fl_X7_9 dX7_makePair_1 ?_
  obtain ⟨r2, μ1, gr2, h⟩ := bd_some h
  refine g_callVL (As := []) (rest := []) cx hw hA (t_X8_pop l G ad μ gr2) shx_30 rfl ml_X7_110 im_X8_pop se_X8_pop in_X8 co_X8_pop rfl hd_X8_pop rfl ⟨(Nat.le_of_ble_eq_true rfl), (Nat.le_of_ble_eq_true rfl)⟩ hl.1 rfl (Nat.le_of_ble_eq_true rfl) dX7_makePair_4 ⟨rfl, rfl⟩ (fun H locs hw => ?_)
  refine lv_lstore_n (lv' := [(1, .long r2), (0, .ref (ad 148))]) hx hb dX7_makePair_7 rfl hl (by decide) rfl (fun ls hl => ?_)
  refine lv_aload_n hx hb dX7_makePair_8 rfl (lv_at hl 1 rfl) ?_
  refine g_get cx hw inX7 (ci := 6) rfl 0 (by decide) rfl (v := .ref (ad 30)) shx_148 rfl fl_X7_9 dX7_makePair_9 ?_
  obtain ⟨r4, μ3, gr4, h⟩ := bd_some h
  refine g_callVL (As := []) (rest := []) cx hw hA (t_X8_pop l G ad μ1 gr4) shx_30 rfl ml_X7_110 im_X8_pop se_X8_pop in_X8 co_X8_pop rfl hd_X8_pop rfl ⟨(Nat.le_of_ble_eq_true rfl), (Nat.le_of_ble_eq_true rfl)⟩ hl.1 rfl (Nat.le_of_ble_eq_true rfl) dX7_makePair_12 ⟨rfl, rfl⟩ (fun H locs hw => ?_)
  refine lv_lstore_n (lv' := [(3, .long r4), (1, .long r2), (0, .ref (ad 148))]) hx hb dX7_makePair_15 rfl hl (by decide) rfl (fun ls hl => ?_)
  refine lv_aload_n hx hb dX7_makePair_16 rfl (lv_at hl 2 rfl) ?_
  refine g_get cx hw inX7 (ci := 6) rfl 0 (by decide) rfl (v := .ref (ad 30)) shx_148 rfl fl_X7_9 dX7_makePair_17 ?_
  refine lv_lload_n hx hb dX7_makePair_20 rfl (lv_at hl 0 rfl) ?_
  refine lv_lload_n hx hb dX7_makePair_21 rfl (lv_at hl 1 rfl) ?_
  obtain ⟨r6, μ5, gr6, h⟩ := bd_some h
  refine g_callVI (As := [.long r4, .long r2]) (rest := []) cx hw hA (t_X8_isTooHeavy l G ad r4 r2 μ3 gr6) shx_30 rfl ml_X7_152 im_X8_isTooHeavy se_X8_isTooHeavy in_X8 co_X8_isTooHeavy rfl hd_X8_isTooHeavy rfl ⟨(Nat.le_of_ble_eq_true rfl), (Nat.le_of_ble_eq_true rfl)⟩ hl.1 rfl (Nat.le_of_ble_eq_true rfl) dX7_makePair_22 ⟨rfl, rfl⟩ (fun H locs hw => ?_)
  refine lv_if_eq (tgt := 39) hx hb dX7_makePair_25 (by decide) (fun c7 => ?_) (fun c7 => ?_)
  · rw [if_pos c7] at h
    refine lv_aload_n hx hb dX7_makePair_39 rfl (lv_at hl 2 rfl) ?_
    refine g_get cx hw inX7 (ci := 6) rfl 0 (by decide) rfl (v := .ref (ad 30)) shx_148 rfl fl_X7_9 dX7_makePair_40 ?_
    refine lv_aload_n hx hb dX7_makePair_43 rfl (lv_at hl 2 rfl) ?_
    refine g_get cx hw inX7 (ci := 6) rfl 0 (by decide) rfl (v := .ref (ad 30)) shx_148 rfl fl_X7_9 dX7_makePair_44 ?_
    refine lv_lload_n hx hb dX7_makePair_47 rfl (lv_at hl 0 rfl) ?_
    refine lv_lload_n hx hb dX7_makePair_48 rfl (lv_at hl 1 rfl) ?_
    obtain ⟨r9, μ8, gr9, h⟩ := bd_some h
    refine g_callVL (As := [.long r4, .long r2]) (rest := [.ref (ad 30)]) cx hw hA (t_X8_pair l G ad r4 r2 μ5 gr9) shx_30 rfl ml_X7_156 im_X8_pair se_X8_pair in_X8 co_X8_pair rfl hd_X8_pair rfl ⟨(Nat.le_of_ble_eq_true rfl), (Nat.le_of_ble_eq_true rfl)⟩ hl.1 rfl (Nat.le_of_ble_eq_true rfl) dX7_makePair_49 ⟨rfl, rfl⟩ (fun H locs hw => ?_)
    obtain ⟨μ10, gμ10, h⟩ := bw_some h
    refine g_callVV (As := [.long r9]) (rest := []) cx hw hA (t_X8_push l G ad r9 μ8 gμ10) shx_30 rfl ml_X7_57 im_X8_push se_X8_push in_X8 co_X8_push rfl hd_X8_push rfl ⟨(Nat.le_of_ble_eq_true rfl), (Nat.le_of_ble_eq_true rfl)⟩ hl.1 rfl (Nat.le_of_ble_eq_true rfl) dX7_makePair_52 ⟨rfl, rfl⟩ (fun H locs hw => ?_)
    exact g_vret cx hr hlk hw h dX7_makePair_55
  · rw [if_neg c7] at h
    refine lv_aload_n hx hb dX7_makePair_28 rfl (lv_at hl 2 rfl) ?_
    refine g_get cx hw inX7 (ci := 6) rfl 4 (by decide) rfl (v := .ref (ad (sel 0 (μ5.2.2 148 4)))) shx_148 rfl fl_X7_30 dX7_makePair_29 ?_
    refine lv_iconst (v := 2) hx hb dX7_makePair_32 (by decide) ?_
    refine g_put cx hw inX1 (ci := 0) rfl tyX1_ok nmX1 0 (by decide) rfl rfl rfl rfl (sel_0 _) h fl_X7_54 dX7_makePair_33 (fun μ12 H locs h hw => ?_)
    refine lv_goto (tgt := 55) hx hb dX7_makePair_36 (by decide) ?_
    exact g_vret cx hr hlk hw h dX7_makePair_55

theorem p_X1_writeOut_ex : ∃ f : Nat → Int64 → Mem → Option Mem, ∀ (a0 : Nat) (a1 : Int64) (μ : Mem), f a0 a1 μ = (if (60 : Int32) ≤ (μ.1 a0 4) then bv (sF μ a0 4 ((μ.1 a0 4) + (1 : Int32))) (fun μ2 => some μ2) else gd (inb (μ.1 a0 4) 60) (bv (sL μ (a0 + 1) (μ.1 a0 4).toNatClampNeg a1) (fun μ3 => bv (sF μ3 a0 4 ((μ3.1 a0 4) + (1 : Int32))) (fun μ4 => some μ4)))) := ⟨fun (a0 : Nat) (a1 : Int64) (μ : Mem) => (if (60 : Int32) ≤ (μ.1 a0 4) then bv (sF μ a0 4 ((μ.1 a0 4) + (1 : Int32))) (fun μ2 => some μ2) else gd (inb (μ.1 a0 4) 60) (bv (sL μ (a0 + 1) (μ.1 a0 4).toNatClampNeg a1) (fun μ3 => bv (sF μ3 a0 4 ((μ3.1 a0 4) + (1 : Int32))) (fun μ4 => some μ4)))), fun _ _ _ => rfl⟩
noncomputable def p_X1_writeOut : Nat → Int64 → Mem → Option Mem := Classical.choose p_X1_writeOut_ex
theorem p_X1_writeOut_eq (a0 : Nat) (a1 : Int64) (μ : Mem) : p_X1_writeOut a0 a1 μ = (if (60 : Int32) ≤ (μ.1 a0 4) then bv (sF μ a0 4 ((μ.1 a0 4) + (1 : Int32))) (fun μ2 => some μ2) else gd (inb (μ.1 a0 4) 60) (bv (sL μ (a0 + 1) (μ.1 a0 4).toNatClampNeg a1) (fun μ3 => bv (sF μ3 a0 4 ((μ3.1 a0 4) + (1 : Int32))) (fun μ4 => some μ4)))) := Classical.choose_spec p_X1_writeOut_ex a0 a1 μ
set_option maxHeartbeats 4000000 in
set_option maxRecDepth 100000 in
theorem t_X1_writeOut (l : Launch) (G : Gt) (ad : Nat → Nat) (a0 : Nat) (q0 : sh 0 a0 = (0, 0)) (a1 : Int64) (μ : Mem) {μz : Mem} (h : p_X1_writeOut a0 a1 μ = some μz) : Mt l yX1_writeOut cX1_writeOut 3 none ({ frames := 0, cells := 0, slots := 0, locals := 0 } : Room) G [.ref (ad a0), .long a1] (wd 0 G ad μ) (eV 0 G ad μz) := by
  refine Bk.mt (by decide) rfl (Nat.le_of_ble_eq_true rfl) ?_
  intro p e s m below meth c A ls H locs cx hr hlk hA hl hw
  have hx := cx.1
  have hb := cx.2.1
  have hl : lv_has ls 3 [(0, .ref (ad a0)), (1, .long a1)] := hl
  rw [p_X1_writeOut_eq] at h
  refine lv_aload_n hx hb dX1_writeOut_0 rfl (lv_at hl 0 rfl) ?_
  refine g_get cx hw inX1 (ci := 0) rfl 4 (by decide) rfl (v := .int (μ.1 a0 4)) q0 rfl fl_X1_44 dX1_writeOut_1 ?_
  refine lv_bipush (v := 60) hx hb dX1_writeOut_4 (by decide) ?_
  refine lv_icmp_ge (tgt := 19) hx hb dX1_writeOut_6 (by decide) (fun c1 => ?_) (fun c1 => ?_)
  · rw [if_pos c1] at h
    refine lv_aload_n hx hb dX1_writeOut_19 rfl (lv_at hl 0 rfl) ?_
    refine lv_dup hx hb dX1_writeOut_20 rfl ?_
    refine g_get cx hw inX1 (ci := 0) rfl 4 (by decide) rfl (v := .int (μ.1 a0 4)) q0 rfl fl_X1_44 dX1_writeOut_21 ?_
    refine lv_iconst (v := 1) hx hb dX1_writeOut_24 (by decide) ?_
    refine lv_iadd hx hb dX1_writeOut_25 ?_
    refine g_put cx hw inX1 (ci := 0) rfl tyX1_ok nmX1 4 (by decide) rfl rfl rfl rfl q0 h fl_X1_44 dX1_writeOut_26 (fun μ2 H locs h hw => ?_)
    exact g_vret cx hr hlk hw h dX1_writeOut_29
  · rw [if_neg c1] at h
    refine lv_aload_n hx hb dX1_writeOut_9 rfl (lv_at hl 0 rfl) ?_
    refine g_get cx hw inX1 (ci := 0) rfl 7 (by decide) rfl (v := .ref (ad (a0 + 1))) q0 rfl fl_X1_11 dX1_writeOut_10 ?_
    refine lv_aload_n hx hb dX1_writeOut_13 rfl (lv_at hl 0 rfl) ?_
    refine g_get cx hw inX1 (ci := 0) rfl 4 (by decide) rfl (v := .int (μ.1 a0 4)) q0 rfl fl_X1_44 dX1_writeOut_14 ?_
    refine lv_lload_n hx hb dX1_writeOut_17 rfl (lv_at hl 1 rfl) ?_
    refine g_last cx hw (rl_X1_7 q0) h dX1_writeOut_18 (fun μ3 H locs h hw => ?_)
    refine lv_aload_n hx hb dX1_writeOut_19 rfl (lv_at hl 0 rfl) ?_
    refine lv_dup hx hb dX1_writeOut_20 rfl ?_
    refine g_get cx hw inX1 (ci := 0) rfl 4 (by decide) rfl (v := .int (μ3.1 a0 4)) q0 rfl fl_X1_44 dX1_writeOut_21 ?_
    refine lv_iconst (v := 1) hx hb dX1_writeOut_24 (by decide) ?_
    refine lv_iadd hx hb dX1_writeOut_25 ?_
    refine g_put cx hw inX1 (ci := 0) rfl tyX1_ok nmX1 4 (by decide) rfl rfl rfl rfl q0 h fl_X1_44 dX1_writeOut_26 (fun μ4 H locs h hw => ?_)
    exact g_vret cx hr hlk hw h dX1_writeOut_29

theorem p_X1_put_ex : ∃ f : Nat → Int32 → Int64 → Mem → Option (Int64 × Mem), ∀ (a0 : Nat) (a1 : Int32) (a2 : Int64) (μ : Mem), f a0 a1 a2 μ = (if a1 < (0 : Int32) then some (a2, μ) else (if (8 : Int32) ≤ a1 then some (a2, μ) else gd (inb a1 8) (bv (sF μ (a0 + 2) a1.toNatClampNeg (s_X0_bits a2)) (fun μ3 => some (a2, μ3))))) := ⟨fun (a0 : Nat) (a1 : Int32) (a2 : Int64) (μ : Mem) => (if a1 < (0 : Int32) then some (a2, μ) else (if (8 : Int32) ≤ a1 then some (a2, μ) else gd (inb a1 8) (bv (sF μ (a0 + 2) a1.toNatClampNeg (s_X0_bits a2)) (fun μ3 => some (a2, μ3))))), fun _ _ _ _ => rfl⟩
noncomputable def p_X1_put : Nat → Int32 → Int64 → Mem → Option (Int64 × Mem) := Classical.choose p_X1_put_ex
theorem p_X1_put_eq (a0 : Nat) (a1 : Int32) (a2 : Int64) (μ : Mem) : p_X1_put a0 a1 a2 μ = (if a1 < (0 : Int32) then some (a2, μ) else (if (8 : Int32) ≤ a1 then some (a2, μ) else gd (inb a1 8) (bv (sF μ (a0 + 2) a1.toNatClampNeg (s_X0_bits a2)) (fun μ3 => some (a2, μ3))))) := Classical.choose_spec p_X1_put_ex a0 a1 a2 μ
set_option maxHeartbeats 4000000 in
set_option maxRecDepth 100000 in
theorem t_X1_put (l : Launch) (G : Gt) (ad : Nat → Nat) (a0 : Nat) (q0 : sh 0 a0 = (0, 0)) (a1 : Int32) (a2 : Int64) (μ : Mem) {r : Int64} {μz : Mem} (h : p_X1_put a0 a1 a2 μ = some (r, μz)) : Mt l yX1_put cX1_put 4 (some .long) ({ frames := 1, cells := 0, slots := 0, locals := 21 } : Room) G [.ref (ad a0), .int a1, .long a2] (wd 0 G ad μ) (eL 0 G ad r μz) := by
  refine Bk.mt (by decide) rfl (Nat.le_of_ble_eq_true rfl) ?_
  intro p e s m below meth c A ls H locs cx hr hlk hA hl hw
  have hx := cx.1
  have hb := cx.2.1
  have hl : lv_has ls 4 [(0, .ref (ad a0)), (1, .int a1), (2, .long a2)] := hl
  rw [p_X1_put_eq] at h
  refine lv_iload_n hx hb dX1_put_0 rfl (lv_at hl 1 rfl) ?_
  refine lv_if_lt (tgt := 20) hx hb dX1_put_1 (by decide) (fun c1 => ?_) (fun c1 => ?_)
  · rw [if_pos c1] at h
    refine lv_lload_n hx hb dX1_put_20 rfl (lv_at hl 2 rfl) ?_
    exact g_lret cx hr hlk hw h dX1_put_21
  · rw [if_neg c1] at h
    refine lv_iload_n hx hb dX1_put_4 rfl (lv_at hl 1 rfl) ?_
    refine lv_bipush (v := 8) hx hb dX1_put_5 (by decide) ?_
    refine lv_icmp_ge (tgt := 20) hx hb dX1_put_7 (by decide) (fun c2 => ?_) (fun c2 => ?_)
    · rw [if_pos c2] at h
      refine lv_lload_n hx hb dX1_put_20 rfl (lv_at hl 2 rfl) ?_
      exact g_lret cx hr hlk hw h dX1_put_21
    · rw [if_neg c2] at h
      refine lv_aload_n hx hb dX1_put_10 rfl (lv_at hl 0 rfl) ?_
      refine g_get cx hw inX1 (ci := 0) rfl 8 (by decide) rfl (v := .ref (ad (a0 + 2))) q0 rfl fl_X1_15 dX1_put_11 ?_
      refine lv_iload_n hx hb dX1_put_14 rfl (lv_at hl 1 rfl) ?_
      refine lv_lload_n hx hb dX1_put_15 rfl (lv_at hl 2 rfl) ?_
      refine s_callI (As := [.long a2]) (rest := [.int a1, .ref (ad (a0 + 2))]) cx hw hA (t_X0_bits l G a2) ml_X1_78 st_X0_bits in_X0 co_X0_bits hd_X0_bits rfl ⟨(Nat.le_of_ble_eq_true rfl), (Nat.le_of_ble_eq_true rfl)⟩ hl.1 rfl (Nat.le_of_ble_eq_true rfl) dX1_put_16 rfl (fun H locs hw => ?_)
      refine g_iast cx hw (rl_X1_8 q0) h dX1_put_19 (fun μ3 H locs h hw => ?_)
      refine lv_lload_n hx hb dX1_put_20 rfl (lv_at hl 2 rfl) ?_
      exact g_lret cx hr hlk hw h dX1_put_21

theorem p_X1_placeBits_ex : ∃ f : Nat → Int32 → Mem → Option (Int32 × Mem), ∀ (a0 : Nat) (a1 : Int32) (μ : Mem), f a0 a1 μ = (if a1 < (0 : Int32) then some ((0 : Int32), μ) else (if (8 : Int32) ≤ a1 then some ((0 : Int32), μ) else gd (inb a1 8) (some ((μ.1 (a0 + 2) a1.toNatClampNeg), μ)))) := ⟨fun (a0 : Nat) (a1 : Int32) (μ : Mem) => (if a1 < (0 : Int32) then some ((0 : Int32), μ) else (if (8 : Int32) ≤ a1 then some ((0 : Int32), μ) else gd (inb a1 8) (some ((μ.1 (a0 + 2) a1.toNatClampNeg), μ)))), fun _ _ _ => rfl⟩
noncomputable def p_X1_placeBits : Nat → Int32 → Mem → Option (Int32 × Mem) := Classical.choose p_X1_placeBits_ex
theorem p_X1_placeBits_eq (a0 : Nat) (a1 : Int32) (μ : Mem) : p_X1_placeBits a0 a1 μ = (if a1 < (0 : Int32) then some ((0 : Int32), μ) else (if (8 : Int32) ≤ a1 then some ((0 : Int32), μ) else gd (inb a1 8) (some ((μ.1 (a0 + 2) a1.toNatClampNeg), μ)))) := Classical.choose_spec p_X1_placeBits_ex a0 a1 μ
set_option maxHeartbeats 4000000 in
set_option maxRecDepth 100000 in
theorem t_X1_placeBits (l : Launch) (G : Gt) (ad : Nat → Nat) (a0 : Nat) (q0 : sh 0 a0 = (0, 0)) (a1 : Int32) (μ : Mem) {r : Int32} {μz : Mem} (h : p_X1_placeBits a0 a1 μ = some (r, μz)) : Mt l yX1_placeBits cX1_placeBits 2 (some .int) ({ frames := 0, cells := 0, slots := 0, locals := 0 } : Room) G [.ref (ad a0), .int a1] (wd 0 G ad μ) (eI 0 G ad r μz) := by
  refine Bk.mt (by decide) rfl (Nat.le_of_ble_eq_true rfl) ?_
  intro p e s m below meth c A ls H locs cx hr hlk hA hl hw
  have hx := cx.1
  have hb := cx.2.1
  have hl : lv_has ls 2 [(0, .ref (ad a0)), (1, .int a1)] := hl
  rw [p_X1_placeBits_eq] at h
  refine lv_iload_n hx hb dX1_placeBits_0 rfl (lv_at hl 1 rfl) ?_
  refine lv_if_lt (tgt := 19) hx hb dX1_placeBits_1 (by decide) (fun c1 => ?_) (fun c1 => ?_)
  · rw [if_pos c1] at h
    refine lv_iconst (v := 0) hx hb dX1_placeBits_19 (by decide) ?_
    exact g_iret cx hr hlk hw h dX1_placeBits_20
  · rw [if_neg c1] at h
    refine lv_iload_n hx hb dX1_placeBits_4 rfl (lv_at hl 1 rfl) ?_
    refine lv_bipush (v := 8) hx hb dX1_placeBits_5 (by decide) ?_
    refine lv_icmp_ge (tgt := 19) hx hb dX1_placeBits_7 (by decide) (fun c2 => ?_) (fun c2 => ?_)
    · rw [if_pos c2] at h
      refine lv_iconst (v := 0) hx hb dX1_placeBits_19 (by decide) ?_
      exact g_iret cx hr hlk hw h dX1_placeBits_20
    · rw [if_neg c2] at h
      refine lv_aload_n hx hb dX1_placeBits_10 rfl (lv_at hl 0 rfl) ?_
      refine g_get cx hw inX1 (ci := 0) rfl 8 (by decide) rfl (v := .ref (ad (a0 + 2))) q0 rfl fl_X1_15 dX1_placeBits_11 ?_
      refine lv_iload_n hx hb dX1_placeBits_14 rfl (lv_at hl 1 rfl) ?_
      refine g_iald cx hw (rl_X1_8 q0) h dX1_placeBits_15 (fun h => ?_)
      refine lv_goto (tgt := 20) hx hb dX1_placeBits_16 (by decide) ?_
      exact g_iret cx hr hlk hw h dX1_placeBits_20

theorem p_X1_get_ex : ∃ f : Nat → Int32 → Mem → Option (Int64 × Mem), ∀ (a0 : Nat) (a1 : Int32) (μ : Mem), f a0 a1 μ = (if (4 : Int32) ≤ a1 then bd (p_X1_placeBits a0 a1 μ) (fun r3 μ2 => some ((s_X0_make (1 : Int32) r3), μ2)) else bd (p_X1_placeBits a0 a1 μ) (fun r5 μ4 => some ((s_X0_make (0 : Int32) r5), μ4))) := ⟨fun (a0 : Nat) (a1 : Int32) (μ : Mem) => (if (4 : Int32) ≤ a1 then bd (p_X1_placeBits a0 a1 μ) (fun r3 μ2 => some ((s_X0_make (1 : Int32) r3), μ2)) else bd (p_X1_placeBits a0 a1 μ) (fun r5 μ4 => some ((s_X0_make (0 : Int32) r5), μ4))), fun _ _ _ => rfl⟩
noncomputable def p_X1_get : Nat → Int32 → Mem → Option (Int64 × Mem) := Classical.choose p_X1_get_ex
theorem p_X1_get_eq (a0 : Nat) (a1 : Int32) (μ : Mem) : p_X1_get a0 a1 μ = (if (4 : Int32) ≤ a1 then bd (p_X1_placeBits a0 a1 μ) (fun r3 μ2 => some ((s_X0_make (1 : Int32) r3), μ2)) else bd (p_X1_placeBits a0 a1 μ) (fun r5 μ4 => some ((s_X0_make (0 : Int32) r5), μ4))) := Classical.choose_spec p_X1_get_ex a0 a1 μ
set_option maxHeartbeats 4000000 in
set_option maxRecDepth 100000 in
theorem t_X1_get (l : Launch) (G : Gt) (ad : Nat → Nat) (a0 : Nat) (q0 : sh 0 a0 = (0, 0)) (a1 : Int32) (μ : Mem) {r : Int64} {μz : Mem} (h : p_X1_get a0 a1 μ = some (r, μz)) : Mt l yX1_get cX1_get 2 (some .long) ({ frames := 1, cells := 0, slots := 0, locals := 21 } : Room) G [.ref (ad a0), .int a1] (wd 0 G ad μ) (eL 0 G ad r μz) := by
  refine Bk.mt (by decide) rfl (Nat.le_of_ble_eq_true rfl) ?_
  intro p e s m below meth c A ls H locs cx hr hlk hA hl hw
  have hx := cx.1
  have hb := cx.2.1
  have hl : lv_has ls 2 [(0, .ref (ad a0)), (1, .int a1)] := hl
  rw [p_X1_get_eq] at h
  refine lv_iload_n hx hb dX1_get_0 rfl (lv_at hl 1 rfl) ?_
  refine lv_iconst (v := 4) hx hb dX1_get_1 (by decide) ?_
  refine lv_icmp_ge (tgt := 9) hx hb dX1_get_2 (by decide) (fun c1 => ?_) (fun c1 => ?_)
  · rw [if_pos c1] at h
    refine lv_iconst (v := 1) hx hb dX1_get_9 (by decide) ?_
    refine lv_aload_n hx hb dX1_get_10 rfl (lv_at hl 0 rfl) ?_
    refine lv_iload_n hx hb dX1_get_11 rfl (lv_at hl 1 rfl) ?_
    obtain ⟨r3, μ2, gr3, h⟩ := bd_some h
    refine g_callVI (As := [.int a1]) (rest := [.int 1]) cx hw hA (t_X1_placeBits l G ad a0 q0 a1 μ gr3) q0 rfl ml_X1_83 im_X1_placeBits se_X1_placeBits in_X1 co_X1_placeBits rfl hd_X1_placeBits rfl ⟨(Nat.le_of_ble_eq_true rfl), (Nat.le_of_ble_eq_true rfl)⟩ hl.1 rfl (Nat.le_of_ble_eq_true rfl) dX1_get_12 ⟨rfl, rfl⟩ (fun H locs hw => ?_)
    refine s_callL (As := [.int 1, .int r3]) (rest := []) cx hw hA (t_X0_make l G (1 : Int32) r3) ml_X1_87 st_X0_make in_X0 co_X0_make hd_X0_make rfl ⟨(Nat.le_of_ble_eq_true rfl), (Nat.le_of_ble_eq_true rfl)⟩ hl.1 rfl (Nat.le_of_ble_eq_true rfl) dX1_get_15 rfl (fun H locs hw => ?_)
    exact g_lret cx hr hlk hw h dX1_get_18
  · rw [if_neg c1] at h
    refine lv_iconst (v := 0) hx hb dX1_get_5 (by decide) ?_
    refine lv_goto (tgt := 10) hx hb dX1_get_6 (by decide) ?_
    refine lv_aload_n hx hb dX1_get_10 rfl (lv_at hl 0 rfl) ?_
    refine lv_iload_n hx hb dX1_get_11 rfl (lv_at hl 1 rfl) ?_
    obtain ⟨r5, μ4, gr5, h⟩ := bd_some h
    refine g_callVI (As := [.int a1]) (rest := [.int 0]) cx hw hA (t_X1_placeBits l G ad a0 q0 a1 μ gr5) q0 rfl ml_X1_83 im_X1_placeBits se_X1_placeBits in_X1 co_X1_placeBits rfl hd_X1_placeBits rfl ⟨(Nat.le_of_ble_eq_true rfl), (Nat.le_of_ble_eq_true rfl)⟩ hl.1 rfl (Nat.le_of_ble_eq_true rfl) dX1_get_12 ⟨rfl, rfl⟩ (fun H locs hw => ?_)
    refine s_callL (As := [.int 0, .int r5]) (rest := []) cx hw hA (t_X0_make l G (0 : Int32) r5) ml_X1_87 st_X0_make in_X0 co_X0_make hd_X0_make rfl ⟨(Nat.le_of_ble_eq_true rfl), (Nat.le_of_ble_eq_true rfl)⟩ hl.1 rfl (Nat.le_of_ble_eq_true rfl) dX1_get_15 rfl (fun H locs hw => ?_)
    exact g_lret cx hr hlk hw h dX1_get_18

theorem p_X1_endCall_ex : ∃ f : Nat → Mem → Option Mem, ∀ (a0 : Nat) (μ : Mem), f a0 μ = bv (sF μ a0 2 ((μ.1 a0 2) - (1 : Int32))) (fun μ1 => some μ1) := ⟨fun (a0 : Nat) (μ : Mem) => bv (sF μ a0 2 ((μ.1 a0 2) - (1 : Int32))) (fun μ1 => some μ1), fun _ _ => rfl⟩
noncomputable def p_X1_endCall : Nat → Mem → Option Mem := Classical.choose p_X1_endCall_ex
theorem p_X1_endCall_eq (a0 : Nat) (μ : Mem) : p_X1_endCall a0 μ = bv (sF μ a0 2 ((μ.1 a0 2) - (1 : Int32))) (fun μ1 => some μ1) := Classical.choose_spec p_X1_endCall_ex a0 μ
set_option maxHeartbeats 4000000 in
set_option maxRecDepth 100000 in
theorem t_X1_endCall (l : Launch) (G : Gt) (ad : Nat → Nat) (a0 : Nat) (q0 : sh 0 a0 = (0, 0)) (μ : Mem) {μz : Mem} (h : p_X1_endCall a0 μ = some μz) : Mt l yX1_endCall cX1_endCall 1 none ({ frames := 0, cells := 0, slots := 0, locals := 0 } : Room) G [.ref (ad a0)] (wd 0 G ad μ) (eV 0 G ad μz) := by
  refine Bk.mt (by decide) rfl (Nat.le_of_ble_eq_true rfl) ?_
  intro p e s m below meth c A ls H locs cx hr hlk hA hl hw
  have hx := cx.1
  have hb := cx.2.1
  have hl : lv_has ls 1 [(0, .ref (ad a0))] := hl
  rw [p_X1_endCall_eq] at h
  refine lv_aload_n hx hb dX1_endCall_0 rfl (lv_at hl 0 rfl) ?_
  refine lv_dup hx hb dX1_endCall_1 rfl ?_
  refine g_get cx hw inX1 (ci := 0) rfl 2 (by decide) rfl (v := .int (μ.1 a0 2)) q0 rfl fl_X1_38 dX1_endCall_2 ?_
  refine lv_iconst (v := 1) hx hb dX1_endCall_5 (by decide) ?_
  refine lv_isub hx hb dX1_endCall_6 ?_
  refine g_put cx hw inX1 (ci := 0) rfl tyX1_ok nmX1 2 (by decide) rfl rfl rfl rfl q0 h fl_X1_38 dX1_endCall_7 (fun μ1 H locs h hw => ?_)
  exact g_vret cx hr hlk hw h dX1_endCall_10

theorem p_X1_endWith_ex : ∃ f : Nat → Int64 → Mem → Option Mem, ∀ (a0 : Nat) (a2 : Int64) (μ : Mem), f a0 a2 μ = bv (sF μ a0 0 (0 : Int32)) (fun μ1 => bd (p_X8_weightOf a2 μ1) (fun r3 μ2 => bv (sF μ2 a0 5 r3) (fun μ4 => bd (p_X8_deepOf a2 μ4) (fun r6 μ5 => bv (sF μ5 a0 6 r6) (fun μ7 => bw (p_X8_flatten a2 (a0 + 3) μ7) (fun μ8 => some μ8)))))) := ⟨fun (a0 : Nat) (a2 : Int64) (μ : Mem) => bv (sF μ a0 0 (0 : Int32)) (fun μ1 => bd (p_X8_weightOf a2 μ1) (fun r3 μ2 => bv (sF μ2 a0 5 r3) (fun μ4 => bd (p_X8_deepOf a2 μ4) (fun r6 μ5 => bv (sF μ5 a0 6 r6) (fun μ7 => bw (p_X8_flatten a2 (a0 + 3) μ7) (fun μ8 => some μ8)))))), fun _ _ _ => rfl⟩
noncomputable def p_X1_endWith : Nat → Int64 → Mem → Option Mem := Classical.choose p_X1_endWith_ex
theorem p_X1_endWith_eq (a0 : Nat) (a2 : Int64) (μ : Mem) : p_X1_endWith a0 a2 μ = bv (sF μ a0 0 (0 : Int32)) (fun μ1 => bd (p_X8_weightOf a2 μ1) (fun r3 μ2 => bv (sF μ2 a0 5 r3) (fun μ4 => bd (p_X8_deepOf a2 μ4) (fun r6 μ5 => bv (sF μ5 a0 6 r6) (fun μ7 => bw (p_X8_flatten a2 (a0 + 3) μ7) (fun μ8 => some μ8)))))) := Classical.choose_spec p_X1_endWith_ex a0 a2 μ
set_option maxHeartbeats 4000000 in
set_option maxRecDepth 100000 in
theorem t_X1_endWith (l : Launch) (G : Gt) (ad : Nat → Nat) (a0 : Nat) (q0 : sh 0 a0 = (0, 0)) (a2 : Int64) (μ : Mem) {μz : Mem} (h : p_X1_endWith a0 a2 μ = some μz) : Mt l yX1_endWith cX1_endWith 4 none ({ frames := 2, cells := 0, slots := 0, locals := 52 } : Room) G [.ref (ad a0), .ref (ad 30), .long a2] (wd 0 G ad μ) (eV 0 G ad μz) := by
  refine Bk.mt (by decide) rfl (Nat.le_of_ble_eq_true rfl) ?_
  intro p e s m below meth c A ls H locs cx hr hlk hA hl hw
  have hx := cx.1
  have hb := cx.2.1
  have hl : lv_has ls 4 [(0, .ref (ad a0)), (1, .ref (ad 30)), (2, .long a2)] := hl
  rw [p_X1_endWith_eq] at h
  refine lv_aload_n hx hb dX1_endWith_0 rfl (lv_at hl 0 rfl) ?_
  refine lv_iconst (v := 0) hx hb dX1_endWith_1 (by decide) ?_
  refine g_put cx hw inX1 (ci := 0) rfl tyX1_ok nmX1 0 (by decide) rfl rfl rfl rfl q0 h fl_X1_31 dX1_endWith_2 (fun μ1 H locs h hw => ?_)
  refine lv_aload_n hx hb dX1_endWith_5 rfl (lv_at hl 0 rfl) ?_
  refine lv_aload_n hx hb dX1_endWith_6 rfl (lv_at hl 1 rfl) ?_
  refine lv_lload_n hx hb dX1_endWith_7 rfl (lv_at hl 2 rfl) ?_
  obtain ⟨r3, μ2, gr3, h⟩ := bd_some h
  refine g_callVI (As := [.long a2]) (rest := [.ref (ad a0)]) cx hw hA (t_X8_weightOf l G ad a2 μ1 gr3) shx_30 rfl ml_X1_65 im_X8_weightOf se_X8_weightOf in_X8 co_X8_weightOf rfl hd_X8_weightOf rfl ⟨(Nat.le_of_ble_eq_true rfl), (Nat.le_of_ble_eq_true rfl)⟩ hl.1 rfl (Nat.le_of_ble_eq_true rfl) dX1_endWith_8 ⟨rfl, rfl⟩ (fun H locs hw => ?_)
  refine g_put cx hw inX1 (ci := 0) rfl tyX1_ok nmX1 5 (by decide) rfl rfl rfl rfl q0 h fl_X1_47 dX1_endWith_11 (fun μ4 H locs h hw => ?_)
  refine lv_aload_n hx hb dX1_endWith_14 rfl (lv_at hl 0 rfl) ?_
  refine lv_aload_n hx hb dX1_endWith_15 rfl (lv_at hl 1 rfl) ?_
  refine lv_lload_n hx hb dX1_endWith_16 rfl (lv_at hl 2 rfl) ?_
  obtain ⟨r6, μ5, gr6, h⟩ := bd_some h
  refine g_callVI (As := [.long a2]) (rest := [.ref (ad a0)]) cx hw hA (t_X8_deepOf l G ad a2 μ4 gr6) shx_30 rfl ml_X1_71 im_X8_deepOf se_X8_deepOf in_X8 co_X8_deepOf rfl hd_X8_deepOf rfl ⟨(Nat.le_of_ble_eq_true rfl), (Nat.le_of_ble_eq_true rfl)⟩ hl.1 rfl (Nat.le_of_ble_eq_true rfl) dX1_endWith_17 ⟨rfl, rfl⟩ (fun H locs hw => ?_)
  refine g_put cx hw inX1 (ci := 0) rfl tyX1_ok nmX1 6 (by decide) rfl rfl rfl rfl q0 h fl_X1_50 dX1_endWith_20 (fun μ7 H locs h hw => ?_)
  refine lv_aload_n hx hb dX1_endWith_23 rfl (lv_at hl 1 rfl) ?_
  refine lv_lload_n hx hb dX1_endWith_24 rfl (lv_at hl 2 rfl) ?_
  refine lv_aload_n hx hb dX1_endWith_25 rfl (lv_at hl 0 rfl) ?_
  refine g_get cx hw inX1 (ci := 0) rfl 9 (by decide) rfl (v := .ref (ad (a0 + 3))) q0 rfl fl_X1_24 dX1_endWith_26 ?_
  obtain ⟨μ8, gμ8, h⟩ := bw_some h
  refine g_callVV (As := [.long a2, .ref (ad (a0 + 3))]) (rest := []) cx hw hA (t_X8_flatten l G ad a2 (a0 + 3) (rl_X1_9 q0) μ7 gμ8) shx_30 rfl ml_X1_74 im_X8_flatten se_X8_flatten in_X8 co_X8_flatten rfl hd_X8_flatten rfl ⟨(Nat.le_of_ble_eq_true rfl), (Nat.le_of_ble_eq_true rfl)⟩ hl.1 rfl (Nat.le_of_ble_eq_true rfl) dX1_endWith_29 ⟨rfl, rfl⟩ (fun H locs hw => ?_)
  exact g_vret cx hr hlk hw h dX1_endWith_32

theorem p_X7_goBack_ex : ∃ f : Mem → Option Mem, ∀  (μ : Mem), f  μ = bw (p_X1_endCall (sel 0 (μ.2.2 148 4)) μ) (fun μ1 => bd (p_X8_closeFrame μ1) (fun r4 μ3 => bv (sF μ3 148 5 r4) (fun μ5 => (if (1 : Int32) ≤ (μ5.1 30 10) then some μ5 else bd (p_X8_pop μ5) (fun r8 μ7 => bw (p_X1_endWith (sel 0 (μ5.2.2 148 4)) r8 μ7) (fun μ9 => some μ9)))))) := ⟨fun  (μ : Mem) => bw (p_X1_endCall (sel 0 (μ.2.2 148 4)) μ) (fun μ1 => bd (p_X8_closeFrame μ1) (fun r4 μ3 => bv (sF μ3 148 5 r4) (fun μ5 => (if (1 : Int32) ≤ (μ5.1 30 10) then some μ5 else bd (p_X8_pop μ5) (fun r8 μ7 => bw (p_X1_endWith (sel 0 (μ5.2.2 148 4)) r8 μ7) (fun μ9 => some μ9)))))), fun _ => rfl⟩
noncomputable def p_X7_goBack : Mem → Option Mem := Classical.choose p_X7_goBack_ex
theorem p_X7_goBack_eq  (μ : Mem) : p_X7_goBack  μ = bw (p_X1_endCall (sel 0 (μ.2.2 148 4)) μ) (fun μ1 => bd (p_X8_closeFrame μ1) (fun r4 μ3 => bv (sF μ3 148 5 r4) (fun μ5 => (if (1 : Int32) ≤ (μ5.1 30 10) then some μ5 else bd (p_X8_pop μ5) (fun r8 μ7 => bw (p_X1_endWith (sel 0 (μ5.2.2 148 4)) r8 μ7) (fun μ9 => some μ9)))))) := Classical.choose_spec p_X7_goBack_ex  μ
set_option maxHeartbeats 4000000 in
set_option maxRecDepth 100000 in
theorem t_X7_goBack (l : Launch) (G : Gt) (ad : Nat → Nat)  (μ : Mem) {μz : Mem} (h : p_X7_goBack  μ = some μz) : Mt l yX7_goBack cX7_goBack 1 none ({ frames := 3, cells := 0, slots := 0, locals := 75 } : Room) G [.ref (ad 148)] (wd 0 G ad μ) (eV 0 G ad μz) := by
  refine Bk.mt (by decide) rfl (Nat.le_of_ble_eq_true rfl) ?_
  intro p e s m below meth c A ls H locs cx hr hlk hA hl hw
  have hx := cx.1
  have hb := cx.2.1
  have hl : lv_has ls 1 [(0, .ref (ad 148))] := hl
  rw [p_X7_goBack_eq] at h
  refine lv_aload_n hx hb dX7_goBack_0 rfl (lv_at hl 0 rfl) ?_
  refine g_get cx hw inX7 (ci := 6) rfl 4 (by decide) rfl (v := .ref (ad (sel 0 (μ.2.2 148 4)))) shx_148 rfl fl_X7_30 dX7_goBack_1 ?_
  obtain ⟨μ1, gμ1, h⟩ := bw_some h
  refine g_callVV (As := []) (rest := []) cx hw hA (t_X1_endCall l G ad (sel 0 (μ.2.2 148 4)) (sel_0 _) μ gμ1) (sel_0 _) rfl ml_X7_169 im_X1_endCall se_X1_endCall in_X1 co_X1_endCall rfl hd_X1_endCall rfl ⟨(Nat.le_of_ble_eq_true rfl), (Nat.le_of_ble_eq_true rfl)⟩ hl.1 rfl (Nat.le_of_ble_eq_true rfl) dX7_goBack_4 ⟨rfl, rfl⟩ (fun H locs hw => ?_)
  refine lv_aload_n hx hb dX7_goBack_7 rfl (lv_at hl 0 rfl) ?_
  refine lv_aload_n hx hb dX7_goBack_8 rfl (lv_at hl 0 rfl) ?_
  refine g_get cx hw inX7 (ci := 6) rfl 0 (by decide) rfl (v := .ref (ad 30)) shx_148 rfl fl_X7_9 dX7_goBack_9 ?_
  obtain ⟨r4, μ3, gr4, h⟩ := bd_some h
  refine g_callVI (As := []) (rest := [.ref (ad 148)]) cx hw hA (t_X8_closeFrame l G ad μ1 gr4) shx_30 rfl ml_X7_172 im_X8_closeFrame se_X8_closeFrame in_X8 co_X8_closeFrame rfl hd_X8_closeFrame rfl ⟨(Nat.le_of_ble_eq_true rfl), (Nat.le_of_ble_eq_true rfl)⟩ hl.1 rfl (Nat.le_of_ble_eq_true rfl) dX7_goBack_12 ⟨rfl, rfl⟩ (fun H locs hw => ?_)
  refine g_put cx hw inX7 (ci := 6) rfl tyX7_ok nmX7 5 (by decide) rfl rfl rfl rfl shx_148 h fl_X7_34 dX7_goBack_15 (fun μ5 H locs h hw => ?_)
  refine lv_aload_n hx hb dX7_goBack_18 rfl (lv_at hl 0 rfl) ?_
  refine g_get cx hw inX7 (ci := 6) rfl 0 (by decide) rfl (v := .ref (ad 30)) shx_148 rfl fl_X7_9 dX7_goBack_19 ?_
  refine g_get cx hw inX8 (ci := 7) rfl 10 (by decide) rfl (v := .int (μ5.1 30 10)) shx_30 rfl fl_X7_176 dX7_goBack_22 ?_
  refine lv_iconst (v := 1) hx hb dX7_goBack_25 (by decide) ?_
  refine lv_icmp_ge (tgt := 47) hx hb dX7_goBack_26 (by decide) (fun c6 => ?_) (fun c6 => ?_)
  · rw [if_pos c6] at h
    exact g_vret cx hr hlk hw h dX7_goBack_47
  · rw [if_neg c6] at h
    refine lv_aload_n hx hb dX7_goBack_29 rfl (lv_at hl 0 rfl) ?_
    refine g_get cx hw inX7 (ci := 6) rfl 4 (by decide) rfl (v := .ref (ad (sel 0 (μ5.2.2 148 4)))) shx_148 rfl fl_X7_30 dX7_goBack_30 ?_
    refine lv_aload_n hx hb dX7_goBack_33 rfl (lv_at hl 0 rfl) ?_
    refine g_get cx hw inX7 (ci := 6) rfl 0 (by decide) rfl (v := .ref (ad 30)) shx_148 rfl fl_X7_9 dX7_goBack_34 ?_
    refine lv_aload_n hx hb dX7_goBack_37 rfl (lv_at hl 0 rfl) ?_
    refine g_get cx hw inX7 (ci := 6) rfl 0 (by decide) rfl (v := .ref (ad 30)) shx_148 rfl fl_X7_9 dX7_goBack_38 ?_
    obtain ⟨r8, μ7, gr8, h⟩ := bd_some h
    refine g_callVL (As := []) (rest := [.ref (ad 30), .ref (ad (sel 0 (μ5.2.2 148 4)))]) cx hw hA (t_X8_pop l G ad μ5 gr8) shx_30 rfl ml_X7_110 im_X8_pop se_X8_pop in_X8 co_X8_pop rfl hd_X8_pop rfl ⟨(Nat.le_of_ble_eq_true rfl), (Nat.le_of_ble_eq_true rfl)⟩ hl.1 rfl (Nat.le_of_ble_eq_true rfl) dX7_goBack_41 ⟨rfl, rfl⟩ (fun H locs hw => ?_)
    obtain ⟨μ9, gμ9, h⟩ := bw_some h
    refine g_callVV (As := [.ref (ad 30), .long r8]) (rest := []) cx hw hA (t_X1_endWith l G ad (sel 0 (μ5.2.2 148 4)) (sel_0 _) r8 μ7 gμ9) (sel_0 _) rfl ml_X7_179 im_X1_endWith se_X1_endWith in_X1 co_X1_endWith rfl hd_X1_endWith rfl ⟨(Nat.le_of_ble_eq_true rfl), (Nat.le_of_ble_eq_true rfl)⟩ hl.1 rfl (Nat.le_of_ble_eq_true rfl) dX7_goBack_44 ⟨rfl, rfl⟩ (fun H locs hw => ?_)
    exact g_vret cx hr hlk hw h dX7_goBack_47

theorem p_X7_step_ex : ∃ f : Mem → Option Mem, ∀  (μ : Mem), f  μ = bd (p_X3_stepAt (sel 2 (μ.2.2 148 3)) (μ.1 148 5) μ) (fun r2 μ1 => bd (p_X3_markAt (sel 2 (μ1.2.2 148 3)) (μ1.1 148 5) μ1) (fun r4 μ3 => bd (p_X3_bitsAt (sel 2 (μ3.2.2 148 3)) (μ3.1 148 5) μ3) (fun r6 μ5 => bv (sF μ5 148 5 ((μ5.1 148 5) + (1 : Int32))) (fun μ7 => (if r2 = (0 : Int32) then bw (p_X8_push (s_X0_make r4 r6) μ7) (fun μ10 => some μ10) else (if r2 = (1 : Int32) then bd (p_X8_varAt r4 μ7) (fun r14 μ13 => bw (p_X8_push r14 μ13) (fun μ15 => some μ15)) else (if r2 = (2 : Int32) then bd (p_X8_popNum μ7) (fun r19 μ18 => bd (p_X8_popNum μ18) (fun r21 μ20 => bw (p_X8_push (s_X0_apply r4 r21 r19) μ20) (fun μ22 => some μ22))) else (if r2 = (3 : Int32) then bd (p_X8_popNum μ7) (fun r26 μ25 => bw (p_X8_push (s_X0_turn r4 r26) μ25) (fun μ27 => some μ27)) else (if r2 = (4 : Int32) then bd (p_X8_pop μ7) (fun r31 μ30 => (if r4 = (64 : Int32) then bd (p_X8_firstOf r31 μ30) (fun r38 μ37 => bw (p_X8_push r38 μ37) (fun μ39 => some μ39)) else bd (p_X8_secondOf r31 μ30) (fun r34 μ33 => bw (p_X8_push r34 μ33) (fun μ35 => some μ35)))) else (if r2 = (5 : Int32) then bw (p_X7_makePair μ7) (fun μ42 => some μ42) else (if r2 = (6 : Int32) then bd (p_X8_popNum μ7) (fun r46 μ45 => (if (s_X0_isTrue r46) = (0 : Int32) then bv (sF μ45 148 5 r4) (fun μ48 => some μ48) else bv (sF μ45 148 5 (μ45.1 148 5)) (fun μ49 => some μ49))) else (if r2 = (7 : Int32) then bv (sF μ7 148 5 r4) (fun μ51 => some μ51) else (if r2 = (8 : Int32) then some μ7 else (if r2 = (9 : Int32) then bd (p_X8_fromTop (0 : Int32) μ7) (fun r55 μ54 => bd (p_X8_num r55 μ54) (fun r57 μ56 => bw (p_X1_writeOut (sel 0 (μ7.2.2 148 4)) r57 μ56) (fun μ58 => some μ58))) else (if r2 = (10 : Int32) then bd (p_X8_popNum μ7) (fun r62 μ61 => bd (p_X1_put (sel 0 (μ7.2.2 148 4)) r4 (s_X0_stored r4 r62) μ61) (fun r64 μ63 => bw (p_X8_push r64 μ63) (fun μ65 => some μ65))) else (if r2 = (11 : Int32) then bd (p_X1_get (sel 0 (μ7.2.2 148 4)) r4 μ7) (fun r69 μ68 => bw (p_X8_push r69 μ68) (fun μ70 => some μ70)) else (if r2 = (12 : Int32) then bd (p_X8_pop μ7) (fun r74 μ73 => bw (p_X8_setVar r4 r74 μ73) (fun μ75 => some μ75)) else (if r2 = (13 : Int32) then bw (p_X7_call r4 r6 μ7) (fun μ78 => some μ78) else bw (p_X7_goBack μ7) (fun μ80 => some μ80))))))))))))))))))) := ⟨fun  (μ : Mem) => bd (p_X3_stepAt (sel 2 (μ.2.2 148 3)) (μ.1 148 5) μ) (fun r2 μ1 => bd (p_X3_markAt (sel 2 (μ1.2.2 148 3)) (μ1.1 148 5) μ1) (fun r4 μ3 => bd (p_X3_bitsAt (sel 2 (μ3.2.2 148 3)) (μ3.1 148 5) μ3) (fun r6 μ5 => bv (sF μ5 148 5 ((μ5.1 148 5) + (1 : Int32))) (fun μ7 => (if r2 = (0 : Int32) then bw (p_X8_push (s_X0_make r4 r6) μ7) (fun μ10 => some μ10) else (if r2 = (1 : Int32) then bd (p_X8_varAt r4 μ7) (fun r14 μ13 => bw (p_X8_push r14 μ13) (fun μ15 => some μ15)) else (if r2 = (2 : Int32) then bd (p_X8_popNum μ7) (fun r19 μ18 => bd (p_X8_popNum μ18) (fun r21 μ20 => bw (p_X8_push (s_X0_apply r4 r21 r19) μ20) (fun μ22 => some μ22))) else (if r2 = (3 : Int32) then bd (p_X8_popNum μ7) (fun r26 μ25 => bw (p_X8_push (s_X0_turn r4 r26) μ25) (fun μ27 => some μ27)) else (if r2 = (4 : Int32) then bd (p_X8_pop μ7) (fun r31 μ30 => (if r4 = (64 : Int32) then bd (p_X8_firstOf r31 μ30) (fun r38 μ37 => bw (p_X8_push r38 μ37) (fun μ39 => some μ39)) else bd (p_X8_secondOf r31 μ30) (fun r34 μ33 => bw (p_X8_push r34 μ33) (fun μ35 => some μ35)))) else (if r2 = (5 : Int32) then bw (p_X7_makePair μ7) (fun μ42 => some μ42) else (if r2 = (6 : Int32) then bd (p_X8_popNum μ7) (fun r46 μ45 => (if (s_X0_isTrue r46) = (0 : Int32) then bv (sF μ45 148 5 r4) (fun μ48 => some μ48) else bv (sF μ45 148 5 (μ45.1 148 5)) (fun μ49 => some μ49))) else (if r2 = (7 : Int32) then bv (sF μ7 148 5 r4) (fun μ51 => some μ51) else (if r2 = (8 : Int32) then some μ7 else (if r2 = (9 : Int32) then bd (p_X8_fromTop (0 : Int32) μ7) (fun r55 μ54 => bd (p_X8_num r55 μ54) (fun r57 μ56 => bw (p_X1_writeOut (sel 0 (μ7.2.2 148 4)) r57 μ56) (fun μ58 => some μ58))) else (if r2 = (10 : Int32) then bd (p_X8_popNum μ7) (fun r62 μ61 => bd (p_X1_put (sel 0 (μ7.2.2 148 4)) r4 (s_X0_stored r4 r62) μ61) (fun r64 μ63 => bw (p_X8_push r64 μ63) (fun μ65 => some μ65))) else (if r2 = (11 : Int32) then bd (p_X1_get (sel 0 (μ7.2.2 148 4)) r4 μ7) (fun r69 μ68 => bw (p_X8_push r69 μ68) (fun μ70 => some μ70)) else (if r2 = (12 : Int32) then bd (p_X8_pop μ7) (fun r74 μ73 => bw (p_X8_setVar r4 r74 μ73) (fun μ75 => some μ75)) else (if r2 = (13 : Int32) then bw (p_X7_call r4 r6 μ7) (fun μ78 => some μ78) else bw (p_X7_goBack μ7) (fun μ80 => some μ80))))))))))))))))))), fun _ => rfl⟩
noncomputable def p_X7_step : Mem → Option Mem := Classical.choose p_X7_step_ex
theorem p_X7_step_eq  (μ : Mem) : p_X7_step  μ = bd (p_X3_stepAt (sel 2 (μ.2.2 148 3)) (μ.1 148 5) μ) (fun r2 μ1 => bd (p_X3_markAt (sel 2 (μ1.2.2 148 3)) (μ1.1 148 5) μ1) (fun r4 μ3 => bd (p_X3_bitsAt (sel 2 (μ3.2.2 148 3)) (μ3.1 148 5) μ3) (fun r6 μ5 => bv (sF μ5 148 5 ((μ5.1 148 5) + (1 : Int32))) (fun μ7 => (if r2 = (0 : Int32) then bw (p_X8_push (s_X0_make r4 r6) μ7) (fun μ10 => some μ10) else (if r2 = (1 : Int32) then bd (p_X8_varAt r4 μ7) (fun r14 μ13 => bw (p_X8_push r14 μ13) (fun μ15 => some μ15)) else (if r2 = (2 : Int32) then bd (p_X8_popNum μ7) (fun r19 μ18 => bd (p_X8_popNum μ18) (fun r21 μ20 => bw (p_X8_push (s_X0_apply r4 r21 r19) μ20) (fun μ22 => some μ22))) else (if r2 = (3 : Int32) then bd (p_X8_popNum μ7) (fun r26 μ25 => bw (p_X8_push (s_X0_turn r4 r26) μ25) (fun μ27 => some μ27)) else (if r2 = (4 : Int32) then bd (p_X8_pop μ7) (fun r31 μ30 => (if r4 = (64 : Int32) then bd (p_X8_firstOf r31 μ30) (fun r38 μ37 => bw (p_X8_push r38 μ37) (fun μ39 => some μ39)) else bd (p_X8_secondOf r31 μ30) (fun r34 μ33 => bw (p_X8_push r34 μ33) (fun μ35 => some μ35)))) else (if r2 = (5 : Int32) then bw (p_X7_makePair μ7) (fun μ42 => some μ42) else (if r2 = (6 : Int32) then bd (p_X8_popNum μ7) (fun r46 μ45 => (if (s_X0_isTrue r46) = (0 : Int32) then bv (sF μ45 148 5 r4) (fun μ48 => some μ48) else bv (sF μ45 148 5 (μ45.1 148 5)) (fun μ49 => some μ49))) else (if r2 = (7 : Int32) then bv (sF μ7 148 5 r4) (fun μ51 => some μ51) else (if r2 = (8 : Int32) then some μ7 else (if r2 = (9 : Int32) then bd (p_X8_fromTop (0 : Int32) μ7) (fun r55 μ54 => bd (p_X8_num r55 μ54) (fun r57 μ56 => bw (p_X1_writeOut (sel 0 (μ7.2.2 148 4)) r57 μ56) (fun μ58 => some μ58))) else (if r2 = (10 : Int32) then bd (p_X8_popNum μ7) (fun r62 μ61 => bd (p_X1_put (sel 0 (μ7.2.2 148 4)) r4 (s_X0_stored r4 r62) μ61) (fun r64 μ63 => bw (p_X8_push r64 μ63) (fun μ65 => some μ65))) else (if r2 = (11 : Int32) then bd (p_X1_get (sel 0 (μ7.2.2 148 4)) r4 μ7) (fun r69 μ68 => bw (p_X8_push r69 μ68) (fun μ70 => some μ70)) else (if r2 = (12 : Int32) then bd (p_X8_pop μ7) (fun r74 μ73 => bw (p_X8_setVar r4 r74 μ73) (fun μ75 => some μ75)) else (if r2 = (13 : Int32) then bw (p_X7_call r4 r6 μ7) (fun μ78 => some μ78) else bw (p_X7_goBack μ7) (fun μ80 => some μ80))))))))))))))))))) := Classical.choose_spec p_X7_step_ex  μ
set_option maxHeartbeats 4000000 in
set_option maxRecDepth 100000 in
theorem t_X7_step (l : Launch) (G : Gt) (ad : Nat → Nat)  (μ : Mem) {μz : Mem} (h : p_X7_step  μ = some μz) : Mt l yX7_step cX7_step 8 none ({ frames := 5, cells := 0, slots := 0, locals := 135 } : Room) G [.ref (ad 148)] (wd 0 G ad μ) (eV 0 G ad μz) := by
  refine Bk.mt (by decide) rfl (Nat.le_of_ble_eq_true rfl) ?_
  intro p e s m below meth c A ls H locs cx hr hlk hA hl hw
  have hx := cx.1
  have hb := cx.2.1
  have hl : lv_has ls 8 [(0, .ref (ad 148))] := hl
  rw [p_X7_step_eq] at h
  refine lv_aload_n hx hb dX7_step_0 rfl (lv_at hl 0 rfl) ?_
  refine g_get cx hw inX7 (ci := 6) rfl 3 (by decide) rfl (v := .ref (ad (sel 2 (μ.2.2 148 3)))) shx_148 rfl fl_X7_26 dX7_step_1 ?_
  refine lv_aload_n hx hb dX7_step_4 rfl (lv_at hl 0 rfl) ?_
  refine g_get cx hw inX7 (ci := 6) rfl 5 (by decide) rfl (v := .int (μ.1 148 5)) shx_148 rfl fl_X7_34 dX7_step_5 ?_
  obtain ⟨r2, μ1, gr2, h⟩ := bd_some h
  refine g_callVI (As := [.int (μ.1 148 5)]) (rest := []) cx hw hA (t_X3_stepAt l G ad (sel 2 (μ.2.2 148 3)) (sel_2 _) (μ.1 148 5) μ gr2) (sel_2 _) rfl ml_X7_76 im_X3_stepAt se_X3_stepAt in_X3 co_X3_stepAt rfl hd_X3_stepAt rfl ⟨(Nat.le_of_ble_eq_true rfl), (Nat.le_of_ble_eq_true rfl)⟩ hl.1 rfl (Nat.le_of_ble_eq_true rfl) dX7_step_8 ⟨rfl, rfl⟩ (fun H locs hw => ?_)
  refine lv_istore_n (lv' := [(1, .int r2), (0, .ref (ad 148))]) hx hb dX7_step_11 rfl hl (by decide) rfl (fun ls hl => ?_)
  refine lv_aload_n hx hb dX7_step_12 rfl (lv_at hl 1 rfl) ?_
  refine g_get cx hw inX7 (ci := 6) rfl 3 (by decide) rfl (v := .ref (ad (sel 2 (μ1.2.2 148 3)))) shx_148 rfl fl_X7_26 dX7_step_13 ?_
  refine lv_aload_n hx hb dX7_step_16 rfl (lv_at hl 1 rfl) ?_
  refine g_get cx hw inX7 (ci := 6) rfl 5 (by decide) rfl (v := .int (μ1.1 148 5)) shx_148 rfl fl_X7_34 dX7_step_17 ?_
  obtain ⟨r4, μ3, gr4, h⟩ := bd_some h
  refine g_callVI (As := [.int (μ1.1 148 5)]) (rest := []) cx hw hA (t_X3_markAt l G ad (sel 2 (μ1.2.2 148 3)) (sel_2 _) (μ1.1 148 5) μ1 gr4) (sel_2 _) rfl ml_X7_82 im_X3_markAt se_X3_markAt in_X3 co_X3_markAt rfl hd_X3_markAt rfl ⟨(Nat.le_of_ble_eq_true rfl), (Nat.le_of_ble_eq_true rfl)⟩ hl.1 rfl (Nat.le_of_ble_eq_true rfl) dX7_step_20 ⟨rfl, rfl⟩ (fun H locs hw => ?_)
  refine lv_istore_n (lv' := [(2, .int r4), (1, .int r2), (0, .ref (ad 148))]) hx hb dX7_step_23 rfl hl (by decide) rfl (fun ls hl => ?_)
  refine lv_aload_n hx hb dX7_step_24 rfl (lv_at hl 2 rfl) ?_
  refine g_get cx hw inX7 (ci := 6) rfl 3 (by decide) rfl (v := .ref (ad (sel 2 (μ3.2.2 148 3)))) shx_148 rfl fl_X7_26 dX7_step_25 ?_
  refine lv_aload_n hx hb dX7_step_28 rfl (lv_at hl 2 rfl) ?_
  refine g_get cx hw inX7 (ci := 6) rfl 5 (by decide) rfl (v := .int (μ3.1 148 5)) shx_148 rfl fl_X7_34 dX7_step_29 ?_
  obtain ⟨r6, μ5, gr6, h⟩ := bd_some h
  refine g_callVI (As := [.int (μ3.1 148 5)]) (rest := []) cx hw hA (t_X3_bitsAt l G ad (sel 2 (μ3.2.2 148 3)) (sel_2 _) (μ3.1 148 5) μ3 gr6) (sel_2 _) rfl ml_X7_85 im_X3_bitsAt se_X3_bitsAt in_X3 co_X3_bitsAt rfl hd_X3_bitsAt rfl ⟨(Nat.le_of_ble_eq_true rfl), (Nat.le_of_ble_eq_true rfl)⟩ hl.1 rfl (Nat.le_of_ble_eq_true rfl) dX7_step_32 ⟨rfl, rfl⟩ (fun H locs hw => ?_)
  refine lv_istore_n (lv' := [(3, .int r6), (2, .int r4), (1, .int r2), (0, .ref (ad 148))]) hx hb dX7_step_35 rfl hl (by decide) rfl (fun ls hl => ?_)
  refine lv_aload_n hx hb dX7_step_36 rfl (lv_at hl 3 rfl) ?_
  refine lv_dup hx hb dX7_step_37 rfl ?_
  refine g_get cx hw inX7 (ci := 6) rfl 5 (by decide) rfl (v := .int (μ5.1 148 5)) shx_148 rfl fl_X7_34 dX7_step_38 ?_
  refine lv_iconst (v := 1) hx hb dX7_step_41 (by decide) ?_
  refine lv_iadd hx hb dX7_step_42 ?_
  refine g_put cx hw inX7 (ci := 6) rfl tyX7_ok nmX7 5 (by decide) rfl rfl rfl rfl shx_148 h fl_X7_34 dX7_step_43 (fun μ7 H locs h hw => ?_)
  refine lv_iload_n hx hb dX7_step_46 rfl (lv_at hl 2 rfl) ?_
  refine lv_topi (fun v8 ev8 => ?_)
  by_cases c9 : r2 = (0 : Int32)
  · rw [if_pos c9] at h
    have z9 := ev8.trans c9
    subst z9
    refine lv_tableIn (tgt := 116) hx hb dX7_step_47 (by decide +kernel) (by decide +kernel) rfl (by decide) ?_
    refine lv_aload_n hx hb dX7_step_116 rfl (lv_at hl 3 rfl) ?_
    refine g_get cx hw inX7 (ci := 6) rfl 0 (by decide) rfl (v := .ref (ad 30)) shx_148 rfl fl_X7_9 dX7_step_117 ?_
    refine lv_iload_n hx hb dX7_step_120 rfl (lv_at hl 1 rfl) ?_
    refine lv_iload_n hx hb dX7_step_121 rfl (lv_at hl 0 rfl) ?_
    refine s_callL (As := [.int r4, .int r6]) (rest := [.ref (ad 30)]) cx hw hA (t_X0_make l G r4 r6) ml_X7_88 st_X0_make in_X0 co_X0_make hd_X0_make rfl ⟨(Nat.le_of_ble_eq_true rfl), (Nat.le_of_ble_eq_true rfl)⟩ hl.1 rfl (Nat.le_of_ble_eq_true rfl) dX7_step_122 rfl (fun H locs hw => ?_)
    obtain ⟨μ10, gμ10, h⟩ := bw_some h
    refine g_callVV (As := [.long (s_X0_make r4 r6)]) (rest := []) cx hw hA (t_X8_push l G ad (s_X0_make r4 r6) μ7 gμ10) shx_30 rfl ml_X7_57 im_X8_push se_X8_push in_X8 co_X8_push rfl hd_X8_push rfl ⟨(Nat.le_of_ble_eq_true rfl), (Nat.le_of_ble_eq_true rfl)⟩ hl.1 rfl (Nat.le_of_ble_eq_true rfl) dX7_step_125 ⟨rfl, rfl⟩ (fun H locs hw => ?_)
    refine lv_goto (tgt := 397) hx hb dX7_step_128 (by decide) ?_
    exact g_vret cx hr hlk hw h dX7_step_397
  rw [if_neg c9] at h
  by_cases c12 : r2 = (1 : Int32)
  · rw [if_pos c12] at h
    have z9 := ev8.trans c12
    subst z9
    refine lv_tableIn (tgt := 131) hx hb dX7_step_47 (by decide +kernel) (by decide +kernel) rfl (by decide) ?_
    refine lv_aload_n hx hb dX7_step_131 rfl (lv_at hl 3 rfl) ?_
    refine g_get cx hw inX7 (ci := 6) rfl 0 (by decide) rfl (v := .ref (ad 30)) shx_148 rfl fl_X7_9 dX7_step_132 ?_
    refine lv_aload_n hx hb dX7_step_135 rfl (lv_at hl 3 rfl) ?_
    refine g_get cx hw inX7 (ci := 6) rfl 0 (by decide) rfl (v := .ref (ad 30)) shx_148 rfl fl_X7_9 dX7_step_136 ?_
    refine lv_iload_n hx hb dX7_step_139 rfl (lv_at hl 1 rfl) ?_
    obtain ⟨r14, μ13, gr14, h⟩ := bd_some h
    refine g_callVL (As := [.int r4]) (rest := [.ref (ad 30)]) cx hw hA (t_X8_varAt l G ad r4 μ7 gr14) shx_30 rfl ml_X7_94 im_X8_varAt se_X8_varAt in_X8 co_X8_varAt rfl hd_X8_varAt rfl ⟨(Nat.le_of_ble_eq_true rfl), (Nat.le_of_ble_eq_true rfl)⟩ hl.1 rfl (Nat.le_of_ble_eq_true rfl) dX7_step_140 ⟨rfl, rfl⟩ (fun H locs hw => ?_)
    obtain ⟨μ15, gμ15, h⟩ := bw_some h
    refine g_callVV (As := [.long r14]) (rest := []) cx hw hA (t_X8_push l G ad r14 μ13 gμ15) shx_30 rfl ml_X7_57 im_X8_push se_X8_push in_X8 co_X8_push rfl hd_X8_push rfl ⟨(Nat.le_of_ble_eq_true rfl), (Nat.le_of_ble_eq_true rfl)⟩ hl.1 rfl (Nat.le_of_ble_eq_true rfl) dX7_step_143 ⟨rfl, rfl⟩ (fun H locs hw => ?_)
    refine lv_goto (tgt := 397) hx hb dX7_step_146 (by decide) ?_
    exact g_vret cx hr hlk hw h dX7_step_397
  rw [if_neg c12] at h
  by_cases c17 : r2 = (2 : Int32)
  · rw [if_pos c17] at h
    have z9 := ev8.trans c17
    subst z9
    refine lv_tableIn (tgt := 149) hx hb dX7_step_47 (by decide +kernel) (by decide +kernel) rfl (by decide) ?_
    refine lv_aload_n hx hb dX7_step_149 rfl (lv_at hl 3 rfl) ?_
    refine g_get cx hw inX7 (ci := 6) rfl 0 (by decide) rfl (v := .ref (ad 30)) shx_148 rfl fl_X7_9 dX7_step_150 ?_
    obtain ⟨r19, μ18, gr19, h⟩ := bd_some h
    refine g_callVL (As := []) (rest := []) cx hw hA (t_X8_popNum l G ad μ7 gr19) shx_30 rfl ml_X7_98 im_X8_popNum se_X8_popNum in_X8 co_X8_popNum rfl hd_X8_popNum rfl ⟨(Nat.le_of_ble_eq_true rfl), (Nat.le_of_ble_eq_true rfl)⟩ hl.1 rfl (Nat.le_of_ble_eq_true rfl) dX7_step_153 ⟨rfl, rfl⟩ (fun H locs hw => ?_)
    refine lv_lstore (lv' := [(4, .long r19), (3, .int r6), (2, .int r4), (1, .int r2), (0, .ref (ad 148))]) hx hb dX7_step_156 hl (by decide) rfl (fun ls hl => ?_)
    refine lv_aload_n hx hb dX7_step_158 rfl (lv_at hl 4 rfl) ?_
    refine g_get cx hw inX7 (ci := 6) rfl 0 (by decide) rfl (v := .ref (ad 30)) shx_148 rfl fl_X7_9 dX7_step_159 ?_
    refine lv_iload_n hx hb dX7_step_162 rfl (lv_at hl 2 rfl) ?_
    refine lv_aload_n hx hb dX7_step_163 rfl (lv_at hl 4 rfl) ?_
    refine g_get cx hw inX7 (ci := 6) rfl 0 (by decide) rfl (v := .ref (ad 30)) shx_148 rfl fl_X7_9 dX7_step_164 ?_
    obtain ⟨r21, μ20, gr21, h⟩ := bd_some h
    refine g_callVL (As := []) (rest := [.int r4, .ref (ad 30)]) cx hw hA (t_X8_popNum l G ad μ18 gr21) shx_30 rfl ml_X7_98 im_X8_popNum se_X8_popNum in_X8 co_X8_popNum rfl hd_X8_popNum rfl ⟨(Nat.le_of_ble_eq_true rfl), (Nat.le_of_ble_eq_true rfl)⟩ hl.1 rfl (Nat.le_of_ble_eq_true rfl) dX7_step_167 ⟨rfl, rfl⟩ (fun H locs hw => ?_)
    refine lv_lload hx hb dX7_step_170 (lv_at hl 0 rfl) ?_
    refine s_callL (As := [.int r4, .long r21, .long r19]) (rest := [.ref (ad 30)]) cx hw hA (t_X0_apply l G r4 r21 r19) ml_X7_102 st_X0_apply in_X0 co_X0_apply hd_X0_apply rfl ⟨(Nat.le_of_ble_eq_true rfl), (Nat.le_of_ble_eq_true rfl)⟩ hl.1 rfl (Nat.le_of_ble_eq_true rfl) dX7_step_172 rfl (fun H locs hw => ?_)
    obtain ⟨μ22, gμ22, h⟩ := bw_some h
    refine g_callVV (As := [.long (s_X0_apply r4 r21 r19)]) (rest := []) cx hw hA (t_X8_push l G ad (s_X0_apply r4 r21 r19) μ20 gμ22) shx_30 rfl ml_X7_57 im_X8_push se_X8_push in_X8 co_X8_push rfl hd_X8_push rfl ⟨(Nat.le_of_ble_eq_true rfl), (Nat.le_of_ble_eq_true rfl)⟩ hl.1 rfl (Nat.le_of_ble_eq_true rfl) dX7_step_175 ⟨rfl, rfl⟩ (fun H locs hw => ?_)
    refine lv_goto (tgt := 397) hx hb dX7_step_178 (by decide) ?_
    exact g_vret cx hr hlk hw h dX7_step_397
  rw [if_neg c17] at h
  by_cases c24 : r2 = (3 : Int32)
  · rw [if_pos c24] at h
    have z9 := ev8.trans c24
    subst z9
    refine lv_tableIn (tgt := 181) hx hb dX7_step_47 (by decide +kernel) (by decide +kernel) rfl (by decide) ?_
    refine lv_aload_n hx hb dX7_step_181 rfl (lv_at hl 3 rfl) ?_
    refine g_get cx hw inX7 (ci := 6) rfl 0 (by decide) rfl (v := .ref (ad 30)) shx_148 rfl fl_X7_9 dX7_step_182 ?_
    refine lv_iload_n hx hb dX7_step_185 rfl (lv_at hl 1 rfl) ?_
    refine lv_aload_n hx hb dX7_step_186 rfl (lv_at hl 3 rfl) ?_
    refine g_get cx hw inX7 (ci := 6) rfl 0 (by decide) rfl (v := .ref (ad 30)) shx_148 rfl fl_X7_9 dX7_step_187 ?_
    obtain ⟨r26, μ25, gr26, h⟩ := bd_some h
    refine g_callVL (As := []) (rest := [.int r4, .ref (ad 30)]) cx hw hA (t_X8_popNum l G ad μ7 gr26) shx_30 rfl ml_X7_98 im_X8_popNum se_X8_popNum in_X8 co_X8_popNum rfl hd_X8_popNum rfl ⟨(Nat.le_of_ble_eq_true rfl), (Nat.le_of_ble_eq_true rfl)⟩ hl.1 rfl (Nat.le_of_ble_eq_true rfl) dX7_step_190 ⟨rfl, rfl⟩ (fun H locs hw => ?_)
    refine s_callL (As := [.int r4, .long r26]) (rest := [.ref (ad 30)]) cx hw hA (t_X0_turn l G r4 r26) ml_X7_106 st_X0_turn in_X0 co_X0_turn hd_X0_turn rfl ⟨(Nat.le_of_ble_eq_true rfl), (Nat.le_of_ble_eq_true rfl)⟩ hl.1 rfl (Nat.le_of_ble_eq_true rfl) dX7_step_193 rfl (fun H locs hw => ?_)
    obtain ⟨μ27, gμ27, h⟩ := bw_some h
    refine g_callVV (As := [.long (s_X0_turn r4 r26)]) (rest := []) cx hw hA (t_X8_push l G ad (s_X0_turn r4 r26) μ25 gμ27) shx_30 rfl ml_X7_57 im_X8_push se_X8_push in_X8 co_X8_push rfl hd_X8_push rfl ⟨(Nat.le_of_ble_eq_true rfl), (Nat.le_of_ble_eq_true rfl)⟩ hl.1 rfl (Nat.le_of_ble_eq_true rfl) dX7_step_196 ⟨rfl, rfl⟩ (fun H locs hw => ?_)
    refine lv_goto (tgt := 397) hx hb dX7_step_199 (by decide) ?_
    exact g_vret cx hr hlk hw h dX7_step_397
  rw [if_neg c24] at h
  by_cases c29 : r2 = (4 : Int32)
  · rw [if_pos c29] at h
    have z9 := ev8.trans c29
    subst z9
    refine lv_tableIn (tgt := 202) hx hb dX7_step_47 (by decide +kernel) (by decide +kernel) rfl (by decide) ?_
    refine lv_aload_n hx hb dX7_step_202 rfl (lv_at hl 3 rfl) ?_
    refine g_get cx hw inX7 (ci := 6) rfl 0 (by decide) rfl (v := .ref (ad 30)) shx_148 rfl fl_X7_9 dX7_step_203 ?_
    obtain ⟨r31, μ30, gr31, h⟩ := bd_some h
    refine g_callVL (As := []) (rest := []) cx hw hA (t_X8_pop l G ad μ7 gr31) shx_30 rfl ml_X7_110 im_X8_pop se_X8_pop in_X8 co_X8_pop rfl hd_X8_pop rfl ⟨(Nat.le_of_ble_eq_true rfl), (Nat.le_of_ble_eq_true rfl)⟩ hl.1 rfl (Nat.le_of_ble_eq_true rfl) dX7_step_206 ⟨rfl, rfl⟩ (fun H locs hw => ?_)
    refine lv_lstore (lv' := [(6, .long r31), (3, .int r6), (2, .int r4), (1, .int r2), (0, .ref (ad 148))]) hx hb dX7_step_209 hl (by decide) rfl (fun ls hl => ?_)
    refine lv_aload_n hx hb dX7_step_211 rfl (lv_at hl 4 rfl) ?_
    refine g_get cx hw inX7 (ci := 6) rfl 0 (by decide) rfl (v := .ref (ad 30)) shx_148 rfl fl_X7_9 dX7_step_212 ?_
    refine lv_iload_n hx hb dX7_step_215 rfl (lv_at hl 2 rfl) ?_
    refine lv_bipush (v := 64) hx hb dX7_step_216 (by decide) ?_
    refine lv_icmp_ne (tgt := 233) hx hb dX7_step_218 (by decide) (fun c32 => ?_) (fun c32 => ?_)
    · rw [if_neg c32] at h
      refine lv_aload_n hx hb dX7_step_233 rfl (lv_at hl 4 rfl) ?_
      refine g_get cx hw inX7 (ci := 6) rfl 0 (by decide) rfl (v := .ref (ad 30)) shx_148 rfl fl_X7_9 dX7_step_234 ?_
      refine lv_lload hx hb dX7_step_237 (lv_at hl 0 rfl) ?_
      obtain ⟨r34, μ33, gr34, h⟩ := bd_some h
      refine g_callVL (As := [.long r31]) (rest := [.ref (ad 30)]) cx hw hA (t_X8_secondOf l G ad r31 μ30 gr34) shx_30 rfl ml_X7_117 im_X8_secondOf se_X8_secondOf in_X8 co_X8_secondOf rfl hd_X8_secondOf rfl ⟨(Nat.le_of_ble_eq_true rfl), (Nat.le_of_ble_eq_true rfl)⟩ hl.1 rfl (Nat.le_of_ble_eq_true rfl) dX7_step_239 ⟨rfl, rfl⟩ (fun H locs hw => ?_)
      obtain ⟨μ35, gμ35, h⟩ := bw_some h
      refine g_callVV (As := [.long r34]) (rest := []) cx hw hA (t_X8_push l G ad r34 μ33 gμ35) shx_30 rfl ml_X7_57 im_X8_push se_X8_push in_X8 co_X8_push rfl hd_X8_push rfl ⟨(Nat.le_of_ble_eq_true rfl), (Nat.le_of_ble_eq_true rfl)⟩ hl.1 rfl (Nat.le_of_ble_eq_true rfl) dX7_step_242 ⟨rfl, rfl⟩ (fun H locs hw => ?_)
      refine lv_goto (tgt := 397) hx hb dX7_step_245 (by decide) ?_
      exact g_vret cx hr hlk hw h dX7_step_397
    · rw [if_pos c32] at h
      refine lv_aload_n hx hb dX7_step_221 rfl (lv_at hl 4 rfl) ?_
      refine g_get cx hw inX7 (ci := 6) rfl 0 (by decide) rfl (v := .ref (ad 30)) shx_148 rfl fl_X7_9 dX7_step_222 ?_
      refine lv_lload hx hb dX7_step_225 (lv_at hl 0 rfl) ?_
      obtain ⟨r38, μ37, gr38, h⟩ := bd_some h
      refine g_callVL (As := [.long r31]) (rest := [.ref (ad 30)]) cx hw hA (t_X8_firstOf l G ad r31 μ30 gr38) shx_30 rfl ml_X7_113 im_X8_firstOf se_X8_firstOf in_X8 co_X8_firstOf rfl hd_X8_firstOf rfl ⟨(Nat.le_of_ble_eq_true rfl), (Nat.le_of_ble_eq_true rfl)⟩ hl.1 rfl (Nat.le_of_ble_eq_true rfl) dX7_step_227 ⟨rfl, rfl⟩ (fun H locs hw => ?_)
      refine lv_goto (tgt := 242) hx hb dX7_step_230 (by decide) ?_
      obtain ⟨μ39, gμ39, h⟩ := bw_some h
      refine g_callVV (As := [.long r38]) (rest := []) cx hw hA (t_X8_push l G ad r38 μ37 gμ39) shx_30 rfl ml_X7_57 im_X8_push se_X8_push in_X8 co_X8_push rfl hd_X8_push rfl ⟨(Nat.le_of_ble_eq_true rfl), (Nat.le_of_ble_eq_true rfl)⟩ hl.1 rfl (Nat.le_of_ble_eq_true rfl) dX7_step_242 ⟨rfl, rfl⟩ (fun H locs hw => ?_)
      refine lv_goto (tgt := 397) hx hb dX7_step_245 (by decide) ?_
      exact g_vret cx hr hlk hw h dX7_step_397
  rw [if_neg c29] at h
  by_cases c41 : r2 = (5 : Int32)
  · rw [if_pos c41] at h
    have z9 := ev8.trans c41
    subst z9
    refine lv_tableIn (tgt := 248) hx hb dX7_step_47 (by decide +kernel) (by decide +kernel) rfl (by decide) ?_
    refine lv_aload_n hx hb dX7_step_248 rfl (lv_at hl 3 rfl) ?_
    obtain ⟨μ42, gμ42, h⟩ := bw_some h
    refine g_callVV (As := []) (rest := []) cx hw hA (t_X7_makePair l G ad μ7 gμ42) shx_148 rfl ml_X7_120 im_X7_makePair se_X7_makePair in_X7 co_X7_makePair rfl hd_X7_makePair rfl ⟨(Nat.le_of_ble_eq_true rfl), (Nat.le_of_ble_eq_true rfl)⟩ hl.1 rfl (Nat.le_of_ble_eq_true rfl) dX7_step_249 ⟨rfl, rfl⟩ (fun H locs hw => ?_)
    refine lv_goto (tgt := 397) hx hb dX7_step_252 (by decide) ?_
    exact g_vret cx hr hlk hw h dX7_step_397
  rw [if_neg c41] at h
  by_cases c44 : r2 = (6 : Int32)
  · rw [if_pos c44] at h
    have z9 := ev8.trans c44
    subst z9
    refine lv_tableIn (tgt := 255) hx hb dX7_step_47 (by decide +kernel) (by decide +kernel) rfl (by decide) ?_
    refine lv_aload_n hx hb dX7_step_255 rfl (lv_at hl 3 rfl) ?_
    refine lv_aload_n hx hb dX7_step_256 rfl (lv_at hl 3 rfl) ?_
    refine g_get cx hw inX7 (ci := 6) rfl 0 (by decide) rfl (v := .ref (ad 30)) shx_148 rfl fl_X7_9 dX7_step_257 ?_
    obtain ⟨r46, μ45, gr46, h⟩ := bd_some h
    refine g_callVL (As := []) (rest := [.ref (ad 148)]) cx hw hA (t_X8_popNum l G ad μ7 gr46) shx_30 rfl ml_X7_98 im_X8_popNum se_X8_popNum in_X8 co_X8_popNum rfl hd_X8_popNum rfl ⟨(Nat.le_of_ble_eq_true rfl), (Nat.le_of_ble_eq_true rfl)⟩ hl.1 rfl (Nat.le_of_ble_eq_true rfl) dX7_step_260 ⟨rfl, rfl⟩ (fun H locs hw => ?_)
    refine s_callI (As := [.long r46]) (rest := [.ref (ad 148)]) cx hw hA (t_X0_isTrue l G r46) ml_X7_123 st_X0_isTrue in_X0 co_X0_isTrue hd_X0_isTrue rfl ⟨(Nat.le_of_ble_eq_true rfl), (Nat.le_of_ble_eq_true rfl)⟩ hl.1 rfl (Nat.le_of_ble_eq_true rfl) dX7_step_263 rfl (fun H locs hw => ?_)
    refine lv_if_eq (tgt := 276) hx hb dX7_step_266 (by decide) (fun c47 => ?_) (fun c47 => ?_)
    · rw [if_pos c47] at h
      refine lv_iload_n hx hb dX7_step_276 rfl (lv_at hl 1 rfl) ?_
      refine g_put cx hw inX7 (ci := 6) rfl tyX7_ok nmX7 5 (by decide) rfl rfl rfl rfl shx_148 h fl_X7_34 dX7_step_277 (fun μ48 H locs h hw => ?_)
      refine lv_goto (tgt := 397) hx hb dX7_step_280 (by decide) ?_
      exact g_vret cx hr hlk hw h dX7_step_397
    · rw [if_neg c47] at h
      refine lv_aload_n hx hb dX7_step_269 rfl (lv_at hl 3 rfl) ?_
      refine g_get cx hw inX7 (ci := 6) rfl 5 (by decide) rfl (v := .int (μ45.1 148 5)) shx_148 rfl fl_X7_34 dX7_step_270 ?_
      refine lv_goto (tgt := 277) hx hb dX7_step_273 (by decide) ?_
      refine g_put cx hw inX7 (ci := 6) rfl tyX7_ok nmX7 5 (by decide) rfl rfl rfl rfl shx_148 h fl_X7_34 dX7_step_277 (fun μ49 H locs h hw => ?_)
      refine lv_goto (tgt := 397) hx hb dX7_step_280 (by decide) ?_
      exact g_vret cx hr hlk hw h dX7_step_397
  rw [if_neg c44] at h
  by_cases c50 : r2 = (7 : Int32)
  · rw [if_pos c50] at h
    have z9 := ev8.trans c50
    subst z9
    refine lv_tableIn (tgt := 283) hx hb dX7_step_47 (by decide +kernel) (by decide +kernel) rfl (by decide) ?_
    refine lv_aload_n hx hb dX7_step_283 rfl (lv_at hl 3 rfl) ?_
    refine lv_iload_n hx hb dX7_step_284 rfl (lv_at hl 1 rfl) ?_
    refine g_put cx hw inX7 (ci := 6) rfl tyX7_ok nmX7 5 (by decide) rfl rfl rfl rfl shx_148 h fl_X7_34 dX7_step_285 (fun μ51 H locs h hw => ?_)
    refine lv_goto (tgt := 397) hx hb dX7_step_288 (by decide) ?_
    exact g_vret cx hr hlk hw h dX7_step_397
  rw [if_neg c50] at h
  by_cases c52 : r2 = (8 : Int32)
  · rw [if_pos c52] at h
    have z9 := ev8.trans c52
    subst z9
    refine lv_tableIn (tgt := 291) hx hb dX7_step_47 (by decide +kernel) (by decide +kernel) rfl (by decide) ?_
    refine lv_goto (tgt := 397) hx hb dX7_step_291 (by decide) ?_
    exact g_vret cx hr hlk hw h dX7_step_397
  rw [if_neg c52] at h
  by_cases c53 : r2 = (9 : Int32)
  · rw [if_pos c53] at h
    have z9 := ev8.trans c53
    subst z9
    refine lv_tableIn (tgt := 294) hx hb dX7_step_47 (by decide +kernel) (by decide +kernel) rfl (by decide) ?_
    refine lv_aload_n hx hb dX7_step_294 rfl (lv_at hl 3 rfl) ?_
    refine g_get cx hw inX7 (ci := 6) rfl 4 (by decide) rfl (v := .ref (ad (sel 0 (μ7.2.2 148 4)))) shx_148 rfl fl_X7_30 dX7_step_295 ?_
    refine lv_aload_n hx hb dX7_step_298 rfl (lv_at hl 3 rfl) ?_
    refine g_get cx hw inX7 (ci := 6) rfl 0 (by decide) rfl (v := .ref (ad 30)) shx_148 rfl fl_X7_9 dX7_step_299 ?_
    refine lv_aload_n hx hb dX7_step_302 rfl (lv_at hl 3 rfl) ?_
    refine g_get cx hw inX7 (ci := 6) rfl 0 (by decide) rfl (v := .ref (ad 30)) shx_148 rfl fl_X7_9 dX7_step_303 ?_
    refine lv_iconst (v := 0) hx hb dX7_step_306 (by decide) ?_
    obtain ⟨r55, μ54, gr55, h⟩ := bd_some h
    refine g_callVL (As := [.int 0]) (rest := [.ref (ad 30), .ref (ad (sel 0 (μ7.2.2 148 4)))]) cx hw hA (t_X8_fromTop l G ad (0 : Int32) μ7 gr55) shx_30 rfl ml_X7_127 im_X8_fromTop se_X8_fromTop in_X8 co_X8_fromTop rfl hd_X8_fromTop rfl ⟨(Nat.le_of_ble_eq_true rfl), (Nat.le_of_ble_eq_true rfl)⟩ hl.1 rfl (Nat.le_of_ble_eq_true rfl) dX7_step_307 ⟨rfl, rfl⟩ (fun H locs hw => ?_)
    obtain ⟨r57, μ56, gr57, h⟩ := bd_some h
    refine g_callVL (As := [.long r55]) (rest := [.ref (ad (sel 0 (μ7.2.2 148 4)))]) cx hw hA (t_X8_num l G ad r55 μ54 gr57) shx_30 rfl ml_X7_130 im_X8_num se_X8_num in_X8 co_X8_num rfl hd_X8_num rfl ⟨(Nat.le_of_ble_eq_true rfl), (Nat.le_of_ble_eq_true rfl)⟩ hl.1 rfl (Nat.le_of_ble_eq_true rfl) dX7_step_310 ⟨rfl, rfl⟩ (fun H locs hw => ?_)
    obtain ⟨μ58, gμ58, h⟩ := bw_some h
    refine g_callVV (As := [.long r57]) (rest := []) cx hw hA (t_X1_writeOut l G ad (sel 0 (μ7.2.2 148 4)) (sel_0 _) r57 μ56 gμ58) (sel_0 _) rfl ml_X7_133 im_X1_writeOut se_X1_writeOut in_X1 co_X1_writeOut rfl hd_X1_writeOut rfl ⟨(Nat.le_of_ble_eq_true rfl), (Nat.le_of_ble_eq_true rfl)⟩ hl.1 rfl (Nat.le_of_ble_eq_true rfl) dX7_step_313 ⟨rfl, rfl⟩ (fun H locs hw => ?_)
    refine lv_goto (tgt := 397) hx hb dX7_step_316 (by decide) ?_
    exact g_vret cx hr hlk hw h dX7_step_397
  rw [if_neg c53] at h
  by_cases c60 : r2 = (10 : Int32)
  · rw [if_pos c60] at h
    have z9 := ev8.trans c60
    subst z9
    refine lv_tableIn (tgt := 319) hx hb dX7_step_47 (by decide +kernel) (by decide +kernel) rfl (by decide) ?_
    refine lv_aload_n hx hb dX7_step_319 rfl (lv_at hl 3 rfl) ?_
    refine g_get cx hw inX7 (ci := 6) rfl 0 (by decide) rfl (v := .ref (ad 30)) shx_148 rfl fl_X7_9 dX7_step_320 ?_
    refine lv_aload_n hx hb dX7_step_323 rfl (lv_at hl 3 rfl) ?_
    refine g_get cx hw inX7 (ci := 6) rfl 4 (by decide) rfl (v := .ref (ad (sel 0 (μ7.2.2 148 4)))) shx_148 rfl fl_X7_30 dX7_step_324 ?_
    refine lv_iload_n hx hb dX7_step_327 rfl (lv_at hl 1 rfl) ?_
    refine lv_iload_n hx hb dX7_step_328 rfl (lv_at hl 1 rfl) ?_
    refine lv_aload_n hx hb dX7_step_329 rfl (lv_at hl 3 rfl) ?_
    refine g_get cx hw inX7 (ci := 6) rfl 0 (by decide) rfl (v := .ref (ad 30)) shx_148 rfl fl_X7_9 dX7_step_330 ?_
    obtain ⟨r62, μ61, gr62, h⟩ := bd_some h
    refine g_callVL (As := []) (rest := [.int r4, .int r4, .ref (ad (sel 0 (μ7.2.2 148 4))), .ref (ad 30)]) cx hw hA (t_X8_popNum l G ad μ7 gr62) shx_30 rfl ml_X7_98 im_X8_popNum se_X8_popNum in_X8 co_X8_popNum rfl hd_X8_popNum rfl ⟨(Nat.le_of_ble_eq_true rfl), (Nat.le_of_ble_eq_true rfl)⟩ hl.1 rfl (Nat.le_of_ble_eq_true rfl) dX7_step_333 ⟨rfl, rfl⟩ (fun H locs hw => ?_)
    refine s_callL (As := [.int r4, .long r62]) (rest := [.int r4, .ref (ad (sel 0 (μ7.2.2 148 4))), .ref (ad 30)]) cx hw hA (t_X0_stored l G r4 r62) ml_X7_136 st_X0_stored in_X0 co_X0_stored hd_X0_stored rfl ⟨(Nat.le_of_ble_eq_true rfl), (Nat.le_of_ble_eq_true rfl)⟩ hl.1 rfl (Nat.le_of_ble_eq_true rfl) dX7_step_336 rfl (fun H locs hw => ?_)
    obtain ⟨r64, μ63, gr64, h⟩ := bd_some h
    refine g_callVL (As := [.int r4, .long (s_X0_stored r4 r62)]) (rest := [.ref (ad 30)]) cx hw hA (t_X1_put l G ad (sel 0 (μ7.2.2 148 4)) (sel_0 _) r4 (s_X0_stored r4 r62) μ61 gr64) (sel_0 _) rfl ml_X7_139 im_X1_put se_X1_put in_X1 co_X1_put rfl hd_X1_put rfl ⟨(Nat.le_of_ble_eq_true rfl), (Nat.le_of_ble_eq_true rfl)⟩ hl.1 rfl (Nat.le_of_ble_eq_true rfl) dX7_step_339 ⟨rfl, rfl⟩ (fun H locs hw => ?_)
    obtain ⟨μ65, gμ65, h⟩ := bw_some h
    refine g_callVV (As := [.long r64]) (rest := []) cx hw hA (t_X8_push l G ad r64 μ63 gμ65) shx_30 rfl ml_X7_57 im_X8_push se_X8_push in_X8 co_X8_push rfl hd_X8_push rfl ⟨(Nat.le_of_ble_eq_true rfl), (Nat.le_of_ble_eq_true rfl)⟩ hl.1 rfl (Nat.le_of_ble_eq_true rfl) dX7_step_342 ⟨rfl, rfl⟩ (fun H locs hw => ?_)
    refine lv_goto (tgt := 397) hx hb dX7_step_345 (by decide) ?_
    exact g_vret cx hr hlk hw h dX7_step_397
  rw [if_neg c60] at h
  by_cases c67 : r2 = (11 : Int32)
  · rw [if_pos c67] at h
    have z9 := ev8.trans c67
    subst z9
    refine lv_tableIn (tgt := 348) hx hb dX7_step_47 (by decide +kernel) (by decide +kernel) rfl (by decide) ?_
    refine lv_aload_n hx hb dX7_step_348 rfl (lv_at hl 3 rfl) ?_
    refine g_get cx hw inX7 (ci := 6) rfl 0 (by decide) rfl (v := .ref (ad 30)) shx_148 rfl fl_X7_9 dX7_step_349 ?_
    refine lv_aload_n hx hb dX7_step_352 rfl (lv_at hl 3 rfl) ?_
    refine g_get cx hw inX7 (ci := 6) rfl 4 (by decide) rfl (v := .ref (ad (sel 0 (μ7.2.2 148 4)))) shx_148 rfl fl_X7_30 dX7_step_353 ?_
    refine lv_iload_n hx hb dX7_step_356 rfl (lv_at hl 1 rfl) ?_
    obtain ⟨r69, μ68, gr69, h⟩ := bd_some h
    refine g_callVL (As := [.int r4]) (rest := [.ref (ad 30)]) cx hw hA (t_X1_get l G ad (sel 0 (μ7.2.2 148 4)) (sel_0 _) r4 μ7 gr69) (sel_0 _) rfl ml_X7_142 im_X1_get se_X1_get in_X1 co_X1_get rfl hd_X1_get rfl ⟨(Nat.le_of_ble_eq_true rfl), (Nat.le_of_ble_eq_true rfl)⟩ hl.1 rfl (Nat.le_of_ble_eq_true rfl) dX7_step_357 ⟨rfl, rfl⟩ (fun H locs hw => ?_)
    obtain ⟨μ70, gμ70, h⟩ := bw_some h
    refine g_callVV (As := [.long r69]) (rest := []) cx hw hA (t_X8_push l G ad r69 μ68 gμ70) shx_30 rfl ml_X7_57 im_X8_push se_X8_push in_X8 co_X8_push rfl hd_X8_push rfl ⟨(Nat.le_of_ble_eq_true rfl), (Nat.le_of_ble_eq_true rfl)⟩ hl.1 rfl (Nat.le_of_ble_eq_true rfl) dX7_step_360 ⟨rfl, rfl⟩ (fun H locs hw => ?_)
    refine lv_goto (tgt := 397) hx hb dX7_step_363 (by decide) ?_
    exact g_vret cx hr hlk hw h dX7_step_397
  rw [if_neg c67] at h
  by_cases c72 : r2 = (12 : Int32)
  · rw [if_pos c72] at h
    have z9 := ev8.trans c72
    subst z9
    refine lv_tableIn (tgt := 366) hx hb dX7_step_47 (by decide +kernel) (by decide +kernel) rfl (by decide) ?_
    refine lv_aload_n hx hb dX7_step_366 rfl (lv_at hl 3 rfl) ?_
    refine g_get cx hw inX7 (ci := 6) rfl 0 (by decide) rfl (v := .ref (ad 30)) shx_148 rfl fl_X7_9 dX7_step_367 ?_
    refine lv_iload_n hx hb dX7_step_370 rfl (lv_at hl 1 rfl) ?_
    refine lv_aload_n hx hb dX7_step_371 rfl (lv_at hl 3 rfl) ?_
    refine g_get cx hw inX7 (ci := 6) rfl 0 (by decide) rfl (v := .ref (ad 30)) shx_148 rfl fl_X7_9 dX7_step_372 ?_
    obtain ⟨r74, μ73, gr74, h⟩ := bd_some h
    refine g_callVL (As := []) (rest := [.int r4, .ref (ad 30)]) cx hw hA (t_X8_pop l G ad μ7 gr74) shx_30 rfl ml_X7_110 im_X8_pop se_X8_pop in_X8 co_X8_pop rfl hd_X8_pop rfl ⟨(Nat.le_of_ble_eq_true rfl), (Nat.le_of_ble_eq_true rfl)⟩ hl.1 rfl (Nat.le_of_ble_eq_true rfl) dX7_step_375 ⟨rfl, rfl⟩ (fun H locs hw => ?_)
    obtain ⟨μ75, gμ75, h⟩ := bw_some h
    refine g_callVV (As := [.int r4, .long r74]) (rest := []) cx hw hA (t_X8_setVar l G ad r4 r74 μ73 gμ75) shx_30 rfl ml_X7_145 im_X8_setVar se_X8_setVar in_X8 co_X8_setVar rfl hd_X8_setVar rfl ⟨(Nat.le_of_ble_eq_true rfl), (Nat.le_of_ble_eq_true rfl)⟩ hl.1 rfl (Nat.le_of_ble_eq_true rfl) dX7_step_378 ⟨rfl, rfl⟩ (fun H locs hw => ?_)
    refine lv_goto (tgt := 397) hx hb dX7_step_381 (by decide) ?_
    exact g_vret cx hr hlk hw h dX7_step_397
  rw [if_neg c72] at h
  by_cases c77 : r2 = (13 : Int32)
  · rw [if_pos c77] at h
    have z9 := ev8.trans c77
    subst z9
    refine lv_tableIn (tgt := 384) hx hb dX7_step_47 (by decide +kernel) (by decide +kernel) rfl (by decide) ?_
    refine lv_aload_n hx hb dX7_step_384 rfl (lv_at hl 3 rfl) ?_
    refine lv_iload_n hx hb dX7_step_385 rfl (lv_at hl 1 rfl) ?_
    refine lv_iload_n hx hb dX7_step_386 rfl (lv_at hl 0 rfl) ?_
    obtain ⟨μ78, gμ78, h⟩ := bw_some h
    refine g_callVV (As := [.int r4, .int r6]) (rest := []) cx hw hA (t_X7_call l G ad r4 r6 μ7 gμ78) shx_148 rfl ml_X7_64 im_X7_call se_X7_call in_X7 co_X7_call rfl hd_X7_call rfl ⟨(Nat.le_of_ble_eq_true rfl), (Nat.le_of_ble_eq_true rfl)⟩ hl.1 rfl (Nat.le_of_ble_eq_true rfl) dX7_step_387 ⟨rfl, rfl⟩ (fun H locs hw => ?_)
    refine lv_goto (tgt := 397) hx hb dX7_step_390 (by decide) ?_
    exact g_vret cx hr hlk hw h dX7_step_397
  rw [if_neg c77] at h
  rw [ev8]
  refine lv_tableOut (tgt := 393) hx hb dX7_step_47 (sw_out (L := [(0 : Int32), (1 : Int32), (2 : Int32), (3 : Int32), (4 : Int32), (5 : Int32), (6 : Int32), (7 : Int32), (8 : Int32), (9 : Int32), (10 : Int32), (11 : Int32), (12 : Int32), (13 : Int32)]) (by decide +kernel) (by simp only [List.forall_mem_cons]; exact ⟨c9, c12, c17, c24, c29, c41, c44, c50, c52, c53, c60, c67, c72, c77, fun _ q => absurd q List.not_mem_nil⟩)) (by decide) ?_
  refine lv_aload_n hx hb dX7_step_393 rfl (lv_at hl 3 rfl) ?_
  obtain ⟨μ80, gμ80, h⟩ := bw_some h
  refine g_callVV (As := []) (rest := []) cx hw hA (t_X7_goBack l G ad μ7 gμ80) shx_148 rfl ml_X7_149 im_X7_goBack se_X7_goBack in_X7 co_X7_goBack rfl hd_X7_goBack rfl ⟨(Nat.le_of_ble_eq_true rfl), (Nat.le_of_ble_eq_true rfl)⟩ hl.1 rfl (Nat.le_of_ble_eq_true rfl) dX7_step_394 ⟨rfl, rfl⟩ (fun H locs hw => ?_)
  exact g_vret cx hr hlk hw h dX7_step_397

theorem p_X7_runTask_b131_ex : ∃ f : Nat → Int32 → Mem → Option Mem, (∀ (a6 : Int32) (μ : Mem), f  0 a6 μ = none) ∧ (∀ (n : Nat) (a6 : Int32) (μ : Mem), f  (n + 1) a6 μ = (if (1000000 : Int32) ≤ a6 then some μ else bd (p_X1_isRunning (sel 0 (μ.2.2 148 4)) μ) (fun r16 μ15 => (if r16 = (0 : Int32) then some μ15 else bw (p_X7_step μ15) (fun μ18 => bv (a6 + 1) (fun v20 => f n v20 μ18)))))) := ⟨fun n => Nat.rec (fun (a6 : Int32) (μ : Mem) => none) (fun _ ih => fun (a6 : Int32) (μ : Mem) => (if (1000000 : Int32) ≤ a6 then some μ else bd (p_X1_isRunning (sel 0 (μ.2.2 148 4)) μ) (fun r16 μ15 => (if r16 = (0 : Int32) then some μ15 else bw (p_X7_step μ15) (fun μ18 => bv (a6 + 1) (fun v20 => ih v20 μ18)))))) n, fun  _ _ => rfl, fun  _ _ _ => rfl⟩
noncomputable def p_X7_runTask_b131 : Nat → Int32 → Mem → Option Mem := Classical.choose p_X7_runTask_b131_ex
theorem p_X7_runTask_b131_z (a6 : Int32) (μ : Mem) : p_X7_runTask_b131  0 a6 μ = none := (Classical.choose_spec p_X7_runTask_b131_ex).1  a6 μ
theorem p_X7_runTask_b131_s (n : Nat) (a6 : Int32) (μ : Mem) : p_X7_runTask_b131  (n + 1) a6 μ = (if (1000000 : Int32) ≤ a6 then some μ else bd (p_X1_isRunning (sel 0 (μ.2.2 148 4)) μ) (fun r16 μ15 => (if r16 = (0 : Int32) then some μ15 else bw (p_X7_step μ15) (fun μ18 => bv (a6 + 1) (fun v20 => p_X7_runTask_b131  n v20 μ18))))) := (Classical.choose_spec p_X7_runTask_b131_ex).2  n a6 μ
set_option maxHeartbeats 4000000 in
set_option maxRecDepth 100000 in
theorem t_X7_runTask_b131 (l : Launch) (G : Gt) (ad : Nat → Nat) (av : List Value) {μz : Mem} : ∀ (n : Nat) (a6 : Int32) (μ : Mem), p_X7_runTask_b131  n a6 μ = some μz → Bk l cX7_runTask 7 RX7 none ({ frames := 6, cells := 0, slots := 0, locals := 162 } : Room) G av (eV 0 G ad μz) (wd 0 G ad μ) 131 [(0, .ref (ad 148)), (6, .int a6)] [] := by
  intro n
  induction n with
  | zero => intro a6 μ h; rw [p_X7_runTask_b131_z] at h; cases h
  | succ n ih =>
    intro a6 μ h p e s m below meth c A ls H locs cx hr hlk hA hl hw
    have hx := cx.1
    have hb := cx.2.1
    rw [p_X7_runTask_b131_s] at h
    refine lv_iload hx hb dX7_runTask_131 (lv_at hl 1 rfl) ?_
    refine lv_ldc hx hb cx.2.2.2.1 (cx.2.2.2.2.1 _ cs_X7_68) dX7_runTask_133 ?_
    refine lv_icmp_ge (tgt := 158) hx hb dX7_runTask_135 (by decide) (fun c14 => ?_) (fun c14 => ?_)
    · rw [if_pos c14] at h
      exact g_vret cx hr hlk hw h dX7_runTask_158
    · rw [if_neg c14] at h
      refine lv_aload_n hx hb dX7_runTask_138 rfl (lv_at hl 0 rfl) ?_
      refine g_get cx hw inX7 (ci := 6) rfl 4 (by decide) rfl (v := .ref (ad (sel 0 (μ.2.2 148 4)))) shx_148 rfl fl_X7_30 dX7_runTask_139 ?_
      obtain ⟨r16, μ15, gr16, h⟩ := bd_some h
      refine g_callVI (As := []) (rest := []) cx hw hA (t_X1_isRunning l G ad (sel 0 (μ.2.2 148 4)) (sel_0 _) μ gr16) (sel_0 _) rfl ml_X7_69 im_X1_isRunning se_X1_isRunning in_X1 co_X1_isRunning rfl hd_X1_isRunning rfl ⟨(Nat.le_of_ble_eq_true rfl), (Nat.le_of_ble_eq_true rfl)⟩ hl.1 rfl (Nat.le_of_ble_eq_true rfl) dX7_runTask_142 ⟨rfl, rfl⟩ (fun H locs hw => ?_)
      refine lv_if_eq (tgt := 158) hx hb dX7_runTask_145 (by decide) (fun c17 => ?_) (fun c17 => ?_)
      · rw [if_pos c17] at h
        exact g_vret cx hr hlk hw h dX7_runTask_158
      · rw [if_neg c17] at h
        refine lv_aload_n hx hb dX7_runTask_148 rfl (lv_at hl 0 rfl) ?_
        obtain ⟨μ18, gμ18, h⟩ := bw_some h
        refine g_callVV (As := []) (rest := []) cx hw hA (t_X7_step l G ad μ15 gμ18) shx_148 rfl ml_X7_73 im_X7_step se_X7_step in_X7 co_X7_step rfl hd_X7_step rfl ⟨(Nat.le_of_ble_eq_true rfl), (Nat.le_of_ble_eq_true rfl)⟩ hl.1 rfl (Nat.le_of_ble_eq_true rfl) dX7_runTask_149 ⟨rfl, rfl⟩ (fun H locs hw => ?_)
        obtain ⟨v20, ev20, h⟩ := bv_ex h
        refine lv_iinc (v := v20) (lv' := [(6, .int v20), (0, .ref (ad 148))]) hx hb dX7_runTask_152 hl (k := 1) rfl (by rw [ev20]; rfl) (by decide) rfl (fun ls hl => ?_)
        refine lv_goto (tgt := 131) hx hb dX7_runTask_155 (by decide) ?_
        exact ih v20 μ18 h p e s m below meth c A ls H locs cx hr hlk hA (lv_sub hl [1, 0] rfl) hw
theorem p_X7_runTask_b63_ex : ∃ f : Nat → Nat → Int32 → Int32 → Mem → Option Mem, (∀ (a2 : Nat) (a5 : Int32) (a6 : Int32) (μ : Mem), f  0 a2 a5 a6 μ = none) ∧ (∀ (n : Nat) (a2 : Nat) (a5 : Int32) (a6 : Int32) (μ : Mem), f  (n + 1) a2 a5 a6 μ = (if a5 ≤ a6 then bw (p_X7_call (μ.1 a2 3) a5 μ) (fun μ12 => p_X7_runTask_b131  FUEL (0 : Int32) μ12) else gd (inb a6 5) (bd (p_X8_weightOf (μ.2.1 150 a6.toNatClampNeg) μ) (fun r22 μ21 => (if r22 ≤ (40 : Int32) then gd (inb a6 5) (bw (p_X8_push (μ21.2.1 150 a6.toNatClampNeg) μ21) (fun μ24 => bv (a6 + 1) (fun v26 => f n a2 a5 v26 μ24))) else bv (sF μ21 (sel 0 (μ21.2.2 148 4)) 0 (2 : Int32)) (fun μ27 => some μ27)))))) := ⟨fun n => Nat.rec (fun (a2 : Nat) (a5 : Int32) (a6 : Int32) (μ : Mem) => none) (fun _ ih => fun (a2 : Nat) (a5 : Int32) (a6 : Int32) (μ : Mem) => (if a5 ≤ a6 then bw (p_X7_call (μ.1 a2 3) a5 μ) (fun μ12 => p_X7_runTask_b131  FUEL (0 : Int32) μ12) else gd (inb a6 5) (bd (p_X8_weightOf (μ.2.1 150 a6.toNatClampNeg) μ) (fun r22 μ21 => (if r22 ≤ (40 : Int32) then gd (inb a6 5) (bw (p_X8_push (μ21.2.1 150 a6.toNatClampNeg) μ21) (fun μ24 => bv (a6 + 1) (fun v26 => ih a2 a5 v26 μ24))) else bv (sF μ21 (sel 0 (μ21.2.2 148 4)) 0 (2 : Int32)) (fun μ27 => some μ27)))))) n, fun  _ _ _ _ => rfl, fun  _ _ _ _ _ => rfl⟩
noncomputable def p_X7_runTask_b63 : Nat → Nat → Int32 → Int32 → Mem → Option Mem := Classical.choose p_X7_runTask_b63_ex
theorem p_X7_runTask_b63_z (a2 : Nat) (a5 : Int32) (a6 : Int32) (μ : Mem) : p_X7_runTask_b63  0 a2 a5 a6 μ = none := (Classical.choose_spec p_X7_runTask_b63_ex).1  a2 a5 a6 μ
theorem p_X7_runTask_b63_s (n : Nat) (a2 : Nat) (a5 : Int32) (a6 : Int32) (μ : Mem) : p_X7_runTask_b63  (n + 1) a2 a5 a6 μ = (if a5 ≤ a6 then bw (p_X7_call (μ.1 a2 3) a5 μ) (fun μ12 => p_X7_runTask_b131  FUEL (0 : Int32) μ12) else gd (inb a6 5) (bd (p_X8_weightOf (μ.2.1 150 a6.toNatClampNeg) μ) (fun r22 μ21 => (if r22 ≤ (40 : Int32) then gd (inb a6 5) (bw (p_X8_push (μ21.2.1 150 a6.toNatClampNeg) μ21) (fun μ24 => bv (a6 + 1) (fun v26 => p_X7_runTask_b63  n a2 a5 v26 μ24))) else bv (sF μ21 (sel 0 (μ21.2.2 148 4)) 0 (2 : Int32)) (fun μ27 => some μ27))))) := (Classical.choose_spec p_X7_runTask_b63_ex).2  n a2 a5 a6 μ
set_option maxHeartbeats 4000000 in
set_option maxRecDepth 100000 in
theorem t_X7_runTask_b63 (l : Launch) (G : Gt) (ad : Nat → Nat) (av : List Value) {μz : Mem} : ∀ (n : Nat) (a2 : Nat) (q2 : sh 0 a2 = (0, 1)) (a5 : Int32) (a6 : Int32) (μ : Mem), p_X7_runTask_b63  n a2 a5 a6 μ = some μz → Bk l cX7_runTask 7 RX7 none ({ frames := 6, cells := 0, slots := 0, locals := 162 } : Room) G av (eV 0 G ad μz) (wd 0 G ad μ) 63 [(0, .ref (ad 148)), (2, .ref (ad a2)), (5, .int a5), (6, .int a6)] [] := by
  intro n
  induction n with
  | zero => intro a2 q2 a5 a6 μ h; rw [p_X7_runTask_b63_z] at h; cases h
  | succ n ih =>
    intro a2 q2 a5 a6 μ h p e s m below meth c A ls H locs cx hr hlk hA hl hw
    have hx := cx.1
    have hb := cx.2.1
    rw [p_X7_runTask_b63_s] at h
    refine lv_iload hx hb dX7_runTask_63 (lv_at hl 3 rfl) ?_
    refine lv_iload hx hb dX7_runTask_65 (lv_at hl 2 rfl) ?_
    refine lv_icmp_ge (tgt := 118) hx hb dX7_runTask_67 (by decide) (fun c11 => ?_) (fun c11 => ?_)
    · rw [if_pos c11] at h
      refine lv_aload_n hx hb dX7_runTask_118 rfl (lv_at hl 0 rfl) ?_
      refine lv_aload_n hx hb dX7_runTask_119 rfl (lv_at hl 1 rfl) ?_
      refine g_get cx hw inX2 (ci := 1) rfl 3 (by decide) rfl (v := .int (μ.1 a2 3)) q2 rfl fl_X7_61 dX7_runTask_120 ?_
      refine lv_iload hx hb dX7_runTask_123 (lv_at hl 2 rfl) ?_
      obtain ⟨μ12, gμ12, h⟩ := bw_some h
      refine g_callVV (As := [.int (μ.1 a2 3), .int a5]) (rest := []) cx hw hA (t_X7_call l G ad (μ.1 a2 3) a5 μ gμ12) shx_148 rfl ml_X7_64 im_X7_call se_X7_call in_X7 co_X7_call rfl hd_X7_call rfl ⟨(Nat.le_of_ble_eq_true rfl), (Nat.le_of_ble_eq_true rfl)⟩ hl.1 rfl (Nat.le_of_ble_eq_true rfl) dX7_runTask_125 ⟨rfl, rfl⟩ (fun H locs hw => ?_)
      refine lv_iconst (v := 0) hx hb dX7_runTask_128 (by decide) ?_
      refine lv_istore (lv' := [(6, .int 0), (0, .ref (ad 148)), (2, .ref (ad a2)), (5, .int a5)]) hx hb dX7_runTask_129 hl (by decide) rfl (fun ls hl => ?_)
      exact t_X7_runTask_b131 l G ad av  FUEL (0 : Int32) μ12 h p e s m below meth c A ls H locs cx hr hlk hA (lv_sub hl [1, 0] rfl) hw
    · rw [if_neg c11] at h
      refine lv_aload_n hx hb dX7_runTask_70 rfl (lv_at hl 0 rfl) ?_
      refine g_get cx hw inX7 (ci := 6) rfl 0 (by decide) rfl (v := .ref (ad 30)) shx_148 rfl fl_X7_9 dX7_runTask_71 ?_
      refine lv_aload_n hx hb dX7_runTask_74 rfl (lv_at hl 0 rfl) ?_
      refine g_get cx hw inX7 (ci := 6) rfl 2 (by decide) rfl (v := .ref (ad 150)) shx_148 rfl fl_X7_23 dX7_runTask_75 ?_
      refine lv_iload hx hb dX7_runTask_78 (lv_at hl 3 rfl) ?_
      refine g_lald cx hw shx_150 h dX7_runTask_80 (fun h => ?_)
      obtain ⟨r22, μ21, gr22, h⟩ := bd_some h
      refine g_callVI (As := [.long (μ.2.1 150 a6.toNatClampNeg)]) (rest := []) cx hw hA (t_X8_weightOf l G ad (μ.2.1 150 a6.toNatClampNeg) μ gr22) shx_30 rfl ml_X7_50 im_X8_weightOf se_X8_weightOf in_X8 co_X8_weightOf rfl hd_X8_weightOf rfl ⟨(Nat.le_of_ble_eq_true rfl), (Nat.le_of_ble_eq_true rfl)⟩ hl.1 rfl (Nat.le_of_ble_eq_true rfl) dX7_runTask_81 ⟨rfl, rfl⟩ (fun H locs hw => ?_)
      refine lv_bipush (v := 40) hx hb dX7_runTask_84 (by decide) ?_
      refine lv_icmp_le (tgt := 98) hx hb dX7_runTask_86 (by decide) (fun c23 => ?_) (fun c23 => ?_)
      · rw [if_pos c23] at h
        refine lv_aload_n hx hb dX7_runTask_98 rfl (lv_at hl 0 rfl) ?_
        refine g_get cx hw inX7 (ci := 6) rfl 0 (by decide) rfl (v := .ref (ad 30)) shx_148 rfl fl_X7_9 dX7_runTask_99 ?_
        refine lv_aload_n hx hb dX7_runTask_102 rfl (lv_at hl 0 rfl) ?_
        refine g_get cx hw inX7 (ci := 6) rfl 2 (by decide) rfl (v := .ref (ad 150)) shx_148 rfl fl_X7_23 dX7_runTask_103 ?_
        refine lv_iload hx hb dX7_runTask_106 (lv_at hl 3 rfl) ?_
        refine g_lald cx hw shx_150 h dX7_runTask_108 (fun h => ?_)
        obtain ⟨μ24, gμ24, h⟩ := bw_some h
        refine g_callVV (As := [.long (μ21.2.1 150 a6.toNatClampNeg)]) (rest := []) cx hw hA (t_X8_push l G ad (μ21.2.1 150 a6.toNatClampNeg) μ21 gμ24) shx_30 rfl ml_X7_57 im_X8_push se_X8_push in_X8 co_X8_push rfl hd_X8_push rfl ⟨(Nat.le_of_ble_eq_true rfl), (Nat.le_of_ble_eq_true rfl)⟩ hl.1 rfl (Nat.le_of_ble_eq_true rfl) dX7_runTask_109 ⟨rfl, rfl⟩ (fun H locs hw => ?_)
        obtain ⟨v26, ev26, h⟩ := bv_ex h
        refine lv_iinc (v := v26) (lv' := [(6, .int v26), (0, .ref (ad 148)), (2, .ref (ad a2)), (5, .int a5)]) hx hb dX7_runTask_112 hl (k := 3) rfl (by rw [ev26]; rfl) (by decide) rfl (fun ls hl => ?_)
        refine lv_goto (tgt := 63) hx hb dX7_runTask_115 (by decide) ?_
        exact ih a2 q2 a5 v26 μ24 h p e s m below meth c A ls H locs cx hr hlk hA (lv_sub hl [1, 2, 3, 0] rfl) hw
      · rw [if_neg c23] at h
        refine lv_aload_n hx hb dX7_runTask_89 rfl (lv_at hl 0 rfl) ?_
        refine g_get cx hw inX7 (ci := 6) rfl 4 (by decide) rfl (v := .ref (ad (sel 0 (μ21.2.2 148 4)))) shx_148 rfl fl_X7_30 dX7_runTask_90 ?_
        refine lv_iconst (v := 2) hx hb dX7_runTask_93 (by decide) ?_
        refine g_put cx hw inX1 (ci := 0) rfl tyX1_ok nmX1 0 (by decide) rfl rfl rfl rfl (sel_0 _) h fl_X7_54 dX7_runTask_94 (fun μ27 H locs h hw => ?_)
        exact g_vret cx hr hlk hw h dX7_runTask_97
theorem p_X7_runTask_ex : ∃ f : Nat → Nat → Nat → Nat → Mem → Option Mem, ∀ (a1 : Nat) (a2 : Nat) (a3 : Nat) (a4 : Nat) (μ : Mem), f a1 a2 a3 a4 μ = bv (sR μ 148 3 a1) (fun μ1 => bv (sR μ1 148 4 a4) (fun μ2 => bw (p_X1_clear (sel 0 (μ2.2.2 148 4)) μ2) (fun μ3 => bw (p_X8_clear μ3) (fun μ5 => bd (p_X8_build a3 149 149 μ5) (fun r8 μ7 => bd (p_X8_build a2 149 150 μ7) (fun r10 μ9 => p_X7_runTask_b63  FUEL a2 r10 (0 : Int32) μ9)))))) := ⟨fun (a1 : Nat) (a2 : Nat) (a3 : Nat) (a4 : Nat) (μ : Mem) => bv (sR μ 148 3 a1) (fun μ1 => bv (sR μ1 148 4 a4) (fun μ2 => bw (p_X1_clear (sel 0 (μ2.2.2 148 4)) μ2) (fun μ3 => bw (p_X8_clear μ3) (fun μ5 => bd (p_X8_build a3 149 149 μ5) (fun r8 μ7 => bd (p_X8_build a2 149 150 μ7) (fun r10 μ9 => p_X7_runTask_b63  FUEL a2 r10 (0 : Int32) μ9)))))), fun _ _ _ _ _ => rfl⟩
noncomputable def p_X7_runTask : Nat → Nat → Nat → Nat → Mem → Option Mem := Classical.choose p_X7_runTask_ex
theorem p_X7_runTask_eq (a1 : Nat) (a2 : Nat) (a3 : Nat) (a4 : Nat) (μ : Mem) : p_X7_runTask a1 a2 a3 a4 μ = bv (sR μ 148 3 a1) (fun μ1 => bv (sR μ1 148 4 a4) (fun μ2 => bw (p_X1_clear (sel 0 (μ2.2.2 148 4)) μ2) (fun μ3 => bw (p_X8_clear μ3) (fun μ5 => bd (p_X8_build a3 149 149 μ5) (fun r8 μ7 => bd (p_X8_build a2 149 150 μ7) (fun r10 μ9 => p_X7_runTask_b63  FUEL a2 r10 (0 : Int32) μ9)))))) := Classical.choose_spec p_X7_runTask_ex a1 a2 a3 a4 μ
set_option maxHeartbeats 4000000 in
set_option maxRecDepth 100000 in
theorem t_X7_runTask (l : Launch) (G : Gt) (ad : Nat → Nat) (a1 : Nat) (q1 : sh 0 a1 = (0, 2)) (a2 : Nat) (q2 : sh 0 a2 = (0, 1)) (a3 : Nat) (q3 : sh 0 a3 = (0, 1)) (a4 : Nat) (q4 : sh 0 a4 = (0, 0)) (μ : Mem) {μz : Mem} (h : p_X7_runTask a1 a2 a3 a4 μ = some μz) : Mt l yX7_runTask cX7_runTask 7 none ({ frames := 6, cells := 0, slots := 0, locals := 162 } : Room) G [.ref (ad 148), .ref (ad a1), .ref (ad a2), .ref (ad a3), .ref (ad a4)] (wd 0 G ad μ) (eV 0 G ad μz) := by
  refine Bk.mt (by decide) rfl (Nat.le_of_ble_eq_true rfl) ?_
  intro p e s m below meth c A ls H locs cx hr hlk hA hl hw
  have hx := cx.1
  have hb := cx.2.1
  have hl : lv_has ls 7 [(0, .ref (ad 148)), (1, .ref (ad a1)), (2, .ref (ad a2)), (3, .ref (ad a3)), (4, .ref (ad a4))] := hl
  rw [p_X7_runTask_eq] at h
  refine lv_aload_n hx hb dX7_runTask_0 rfl (lv_at hl 0 rfl) ?_
  refine lv_aload_n hx hb dX7_runTask_1 rfl (lv_at hl 1 rfl) ?_
  refine g_putR cx hw inX7 (ci := 6) rfl tyX7_ok nmX7 3 (by decide) rfl rfl rfl rfl shx_148 q1 h fl_X7_26 dX7_runTask_2 (fun μ1 H locs h hw => ?_)
  refine lv_aload_n hx hb dX7_runTask_5 rfl (lv_at hl 0 rfl) ?_
  refine lv_aload hx hb dX7_runTask_6 (lv_at hl 4 rfl) ?_
  refine g_putR cx hw inX7 (ci := 6) rfl tyX7_ok nmX7 4 (by decide) rfl rfl rfl rfl shx_148 q4 h fl_X7_30 dX7_runTask_8 (fun μ2 H locs h hw => ?_)
  refine lv_aload_n hx hb dX7_runTask_11 rfl (lv_at hl 0 rfl) ?_
  refine g_get cx hw inX7 (ci := 6) rfl 4 (by decide) rfl (v := .ref (ad (sel 0 (μ2.2.2 148 4)))) shx_148 rfl fl_X7_30 dX7_runTask_12 ?_
  obtain ⟨μ3, gμ3, h⟩ := bw_some h
  refine g_callVV (As := []) (rest := []) cx hw hA (t_X1_clear l G ad (sel 0 (μ2.2.2 148 4)) (sel_0 _) μ2 gμ3) (sel_0 _) rfl ml_X7_38 im_X1_clear se_X1_clear in_X1 co_X1_clear rfl hd_X1_clear rfl ⟨(Nat.le_of_ble_eq_true rfl), (Nat.le_of_ble_eq_true rfl)⟩ hl.1 rfl (Nat.le_of_ble_eq_true rfl) dX7_runTask_15 ⟨rfl, rfl⟩ (fun H locs hw => ?_)
  refine lv_aload_n hx hb dX7_runTask_18 rfl (lv_at hl 0 rfl) ?_
  refine g_get cx hw inX7 (ci := 6) rfl 0 (by decide) rfl (v := .ref (ad 30)) shx_148 rfl fl_X7_9 dX7_runTask_19 ?_
  obtain ⟨μ5, gμ5, h⟩ := bw_some h
  refine g_callVV (As := []) (rest := []) cx hw hA (t_X8_clear l G ad μ3 gμ5) shx_30 rfl ml_X7_43 im_X8_clear se_X8_clear in_X8 co_X8_clear rfl hd_X8_clear rfl ⟨(Nat.le_of_ble_eq_true rfl), (Nat.le_of_ble_eq_true rfl)⟩ hl.1 rfl (Nat.le_of_ble_eq_true rfl) dX7_runTask_22 ⟨rfl, rfl⟩ (fun H locs hw => ?_)
  refine lv_aload_n hx hb dX7_runTask_25 rfl (lv_at hl 0 rfl) ?_
  refine g_get cx hw inX7 (ci := 6) rfl 0 (by decide) rfl (v := .ref (ad 30)) shx_148 rfl fl_X7_9 dX7_runTask_26 ?_
  refine lv_aload_n hx hb dX7_runTask_29 rfl (lv_at hl 3 rfl) ?_
  refine lv_aload_n hx hb dX7_runTask_30 rfl (lv_at hl 0 rfl) ?_
  refine g_get cx hw inX7 (ci := 6) rfl 1 (by decide) rfl (v := .ref (ad 149)) shx_148 rfl fl_X7_17 dX7_runTask_31 ?_
  refine lv_aload_n hx hb dX7_runTask_34 rfl (lv_at hl 0 rfl) ?_
  refine g_get cx hw inX7 (ci := 6) rfl 1 (by decide) rfl (v := .ref (ad 149)) shx_148 rfl fl_X7_17 dX7_runTask_35 ?_
  obtain ⟨r8, μ7, gr8, h⟩ := bd_some h
  refine g_callVI (As := [.ref (ad a3), .ref (ad 149), .ref (ad 149)]) (rest := []) cx hw hA (t_X8_build l G ad a3 q3 149 (sh_f shx_149) 149 (sh_f shx_149) μ5 gr8) shx_30 rfl ml_X7_46 im_X8_build se_X8_build in_X8 co_X8_build rfl hd_X8_build rfl ⟨(Nat.le_of_ble_eq_true rfl), (Nat.le_of_ble_eq_true rfl)⟩ hl.1 rfl (Nat.le_of_ble_eq_true rfl) dX7_runTask_38 ⟨rfl, rfl⟩ (fun H locs hw => ?_)
  refine lv_pop hx hb dX7_runTask_41 rfl ?_
  refine lv_aload_n hx hb dX7_runTask_42 rfl (lv_at hl 0 rfl) ?_
  refine g_get cx hw inX7 (ci := 6) rfl 0 (by decide) rfl (v := .ref (ad 30)) shx_148 rfl fl_X7_9 dX7_runTask_43 ?_
  refine lv_aload_n hx hb dX7_runTask_46 rfl (lv_at hl 2 rfl) ?_
  refine lv_aload_n hx hb dX7_runTask_47 rfl (lv_at hl 0 rfl) ?_
  refine g_get cx hw inX7 (ci := 6) rfl 1 (by decide) rfl (v := .ref (ad 149)) shx_148 rfl fl_X7_17 dX7_runTask_48 ?_
  refine lv_aload_n hx hb dX7_runTask_51 rfl (lv_at hl 0 rfl) ?_
  refine g_get cx hw inX7 (ci := 6) rfl 2 (by decide) rfl (v := .ref (ad 150)) shx_148 rfl fl_X7_23 dX7_runTask_52 ?_
  obtain ⟨r10, μ9, gr10, h⟩ := bd_some h
  refine g_callVI (As := [.ref (ad a2), .ref (ad 149), .ref (ad 150)]) (rest := []) cx hw hA (t_X8_build l G ad a2 q2 149 (sh_f shx_149) 150 (sh_f shx_150) μ7 gr10) shx_30 rfl ml_X7_46 im_X8_build se_X8_build in_X8 co_X8_build rfl hd_X8_build rfl ⟨(Nat.le_of_ble_eq_true rfl), (Nat.le_of_ble_eq_true rfl)⟩ hl.1 rfl (Nat.le_of_ble_eq_true rfl) dX7_runTask_55 ⟨rfl, rfl⟩ (fun H locs hw => ?_)
  refine lv_istore (lv' := [(5, .int r10), (0, .ref (ad 148)), (1, .ref (ad a1)), (2, .ref (ad a2)), (3, .ref (ad a3)), (4, .ref (ad a4))]) hx hb dX7_runTask_58 hl (by decide) rfl (fun ls hl => ?_)
  refine lv_iconst (v := 0) hx hb dX7_runTask_60 (by decide) ?_
  refine lv_istore (lv' := [(6, .int 0), (5, .int r10), (0, .ref (ad 148)), (1, .ref (ad a1)), (2, .ref (ad a2)), (3, .ref (ad a3)), (4, .ref (ad a4))]) hx hb dX7_runTask_61 hl (by decide) rfl (fun ls hl => ?_)
  exact t_X7_runTask_b63 l G ad _  FUEL a2 q2 r10 (0 : Int32) μ9 h p e s m below meth c A ls H locs cx hr hlk hA (lv_sub hl [2, 4, 1, 0] rfl) hw

theorem p_X6_setRegister_ex : ∃ f : Int32 → Int32 → Int64 → Mem → Option Mem, ∀ (a1 : Int32) (a2 : Int32) (a3 : Int64) (μ : Mem), f a1 a2 a3 μ = bv (a1 + a2) (fun v1 => (if a2 < (0 : Int32) then some μ else (if v1 < (0 : Int32) then some μ else (if (9548 : Int32) ≤ v1 then some μ else gd (inb v1 9548) (bv (sL μ 152 v1.toNatClampNeg a3) (fun μ5 => some μ5)))))) := ⟨fun (a1 : Int32) (a2 : Int32) (a3 : Int64) (μ : Mem) => bv (a1 + a2) (fun v1 => (if a2 < (0 : Int32) then some μ else (if v1 < (0 : Int32) then some μ else (if (9548 : Int32) ≤ v1 then some μ else gd (inb v1 9548) (bv (sL μ 152 v1.toNatClampNeg a3) (fun μ5 => some μ5)))))), fun _ _ _ _ => rfl⟩
noncomputable def p_X6_setRegister : Int32 → Int32 → Int64 → Mem → Option Mem := Classical.choose p_X6_setRegister_ex
theorem p_X6_setRegister_eq (a1 : Int32) (a2 : Int32) (a3 : Int64) (μ : Mem) : p_X6_setRegister a1 a2 a3 μ = bv (a1 + a2) (fun v1 => (if a2 < (0 : Int32) then some μ else (if v1 < (0 : Int32) then some μ else (if (9548 : Int32) ≤ v1 then some μ else gd (inb v1 9548) (bv (sL μ 152 v1.toNatClampNeg a3) (fun μ5 => some μ5)))))) := Classical.choose_spec p_X6_setRegister_ex a1 a2 a3 μ
set_option maxHeartbeats 4000000 in
set_option maxRecDepth 100000 in
theorem t_X6_setRegister (l : Launch) (G : Gt) (ad : Nat → Nat) (a1 : Int32) (a2 : Int32) (a3 : Int64) (μ : Mem) {μz : Mem} (h : p_X6_setRegister a1 a2 a3 μ = some μz) : Mt l yX6_setRegister cX6_setRegister 6 none ({ frames := 0, cells := 0, slots := 0, locals := 0 } : Room) G [.ref (ad 151), .int a1, .int a2, .long a3] (wd 0 G ad μ) (eV 0 G ad μz) := by
  refine Bk.mt (by decide) rfl (Nat.le_of_ble_eq_true rfl) ?_
  intro p e s m below meth c A ls H locs cx hr hlk hA hl hw
  have hx := cx.1
  have hb := cx.2.1
  have hl : lv_has ls 6 [(0, .ref (ad 151)), (1, .int a1), (2, .int a2), (3, .long a3)] := hl
  rw [p_X6_setRegister_eq] at h
  refine lv_iload_n hx hb dX6_setRegister_0 rfl (lv_at hl 1 rfl) ?_
  refine lv_iload_n hx hb dX6_setRegister_1 rfl (lv_at hl 2 rfl) ?_
  refine lv_iadd hx hb dX6_setRegister_2 ?_
  obtain ⟨v1, ev1, h⟩ := bv_ex h
  refine lv_topi (fun y9 z9 => ?_)
  obtain rfl : v1 = y9 := ev1.trans z9.symm
  refine lv_istore (lv' := [(5, .int v1), (0, .ref (ad 151)), (1, .int a1), (2, .int a2), (3, .long a3)]) hx hb dX6_setRegister_3 hl (by decide) rfl (fun ls hl => ?_)
  refine lv_iload_n hx hb dX6_setRegister_5 rfl (lv_at hl 3 rfl) ?_
  refine lv_if_lt (tgt := 32) hx hb dX6_setRegister_6 (by decide) (fun c2 => ?_) (fun c2 => ?_)
  · rw [if_pos c2] at h
    exact g_vret cx hr hlk hw h dX6_setRegister_32
  · rw [if_neg c2] at h
    refine lv_iload hx hb dX6_setRegister_9 (lv_at hl 0 rfl) ?_
    refine lv_if_lt (tgt := 32) hx hb dX6_setRegister_11 (by decide) (fun c3 => ?_) (fun c3 => ?_)
    · rw [if_pos c3] at h
      exact g_vret cx hr hlk hw h dX6_setRegister_32
    · rw [if_neg c3] at h
      refine lv_iload hx hb dX6_setRegister_14 (lv_at hl 0 rfl) ?_
      refine lv_aload_n hx hb dX6_setRegister_16 rfl (lv_at hl 1 rfl) ?_
      refine g_get cx hw inX6 (ci := 5) rfl 1 (by decide) rfl (v := .ref (ad 152)) shx_151 rfl fl_X6_19 dX6_setRegister_17 ?_
      refine g_alen3 cx hw shx_152 (v := 9548) (by decide +kernel) dX6_setRegister_20 ?_
      refine lv_icmp_ge (tgt := 32) hx hb dX6_setRegister_21 (by decide) (fun c4 => ?_) (fun c4 => ?_)
      · rw [if_pos c4] at h
        exact g_vret cx hr hlk hw h dX6_setRegister_32
      · rw [if_neg c4] at h
        refine lv_aload_n hx hb dX6_setRegister_24 rfl (lv_at hl 1 rfl) ?_
        refine g_get cx hw inX6 (ci := 5) rfl 1 (by decide) rfl (v := .ref (ad 152)) shx_151 rfl fl_X6_19 dX6_setRegister_25 ?_
        refine lv_iload hx hb dX6_setRegister_28 (lv_at hl 0 rfl) ?_
        refine lv_lload_n hx hb dX6_setRegister_30 rfl (lv_at hl 4 rfl) ?_
        refine g_last cx hw shx_152 h dX6_setRegister_31 (fun μ5 H locs h hw => ?_)
        exact g_vret cx hr hlk hw h dX6_setRegister_32
