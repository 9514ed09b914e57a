theorem p_X12_goOne_ex : ∃ f : Int32 → Int32 → Int32 → Mem → Option Mem, ∀ (a1 : Int32) (a2 : Int32) (a3 : Int32) (μ : Mem), f a1 a2 a3 μ = (if a1 = (0 : Int32) then bw (p_X12_work a2 μ) (fun μ3 => some μ3) else (if a1 = (1 : Int32) then bw (p_X12_doThing a2 μ) (fun μ6 => some μ6) else (if a1 = (2 : Int32) then bw (p_X12_choose a2 μ) (fun μ9 => some μ9) else (if a1 = (3 : Int32) then bw (p_X12_bindVar a2 μ) (fun μ12 => some μ12) else (if a1 = (4 : Int32) then gd (inb ((μ.1 0 67) + a2) 500) (bv (sF μ 41 ((μ.1 0 67) + a2).toNatClampNeg a3) (fun μ15 => some μ15)) else (if a1 = (5 : Int32) then bw (p_X12_leave μ) (fun μ17 => some μ17) else (if a1 = (6 : Int32) then bw (p_X12_otherwise a2 a3 μ) (fun μ20 => some μ20) else bw (p_X12_whole a2 μ) (fun μ22 => some μ22)))))))) := ⟨fun (a1 : Int32) (a2 : Int32) (a3 : Int32) (μ : Mem) => (if a1 = (0 : Int32) then bw (p_X12_work a2 μ) (fun μ3 => some μ3) else (if a1 = (1 : Int32) then bw (p_X12_doThing a2 μ) (fun μ6 => some μ6) else (if a1 = (2 : Int32) then bw (p_X12_choose a2 μ) (fun μ9 => some μ9) else (if a1 = (3 : Int32) then bw (p_X12_bindVar a2 μ) (fun μ12 => some μ12) else (if a1 = (4 : Int32) then gd (inb ((μ.1 0 67) + a2) 500) (bv (sF μ 41 ((μ.1 0 67) + a2).toNatClampNeg a3) (fun μ15 => some μ15)) else (if a1 = (5 : Int32) then bw (p_X12_leave μ) (fun μ17 => some μ17) else (if a1 = (6 : Int32) then bw (p_X12_otherwise a2 a3 μ) (fun μ20 => some μ20) else bw (p_X12_whole a2 μ) (fun μ22 => some μ22)))))))), fun _ _ _ _ => rfl⟩
noncomputable def p_X12_goOne : Int32 → Int32 → Int32 → Mem → Option Mem := Classical.choose p_X12_goOne_ex
theorem p_X12_goOne_eq (a1 : Int32) (a2 : Int32) (a3 : Int32) (μ : Mem) : p_X12_goOne a1 a2 a3 μ = (if a1 = (0 : Int32) then bw (p_X12_work a2 μ) (fun μ3 => some μ3) else (if a1 = (1 : Int32) then bw (p_X12_doThing a2 μ) (fun μ6 => some μ6) else (if a1 = (2 : Int32) then bw (p_X12_choose a2 μ) (fun μ9 => some μ9) else (if a1 = (3 : Int32) then bw (p_X12_bindVar a2 μ) (fun μ12 => some μ12) else (if a1 = (4 : Int32) then gd (inb ((μ.1 0 67) + a2) 500) (bv (sF μ 41 ((μ.1 0 67) + a2).toNatClampNeg a3) (fun μ15 => some μ15)) else (if a1 = (5 : Int32) then bw (p_X12_leave μ) (fun μ17 => some μ17) else (if a1 = (6 : Int32) then bw (p_X12_otherwise a2 a3 μ) (fun μ20 => some μ20) else bw (p_X12_whole a2 μ) (fun μ22 => some μ22)))))))) := Classical.choose_spec p_X12_goOne_ex a1 a2 a3 μ
set_option maxHeartbeats 4000000 in
set_option maxRecDepth 100000 in
theorem t_X12_goOne (l : Launch) (G : Gt) (ad : Nat → Nat) (a1 : Int32) (a2 : Int32) (a3 : Int32) (μ : Mem) {μz : Mem} (h : p_X12_goOne a1 a2 a3 μ = some μz) : Mt l yX12_goOne cX12_goOne 4 none ({ frames := 10, cells := 0, slots := 0, locals := 232 } : Room) G [.ref (ad 0), .int a1, .int a2, .int a3] (wd 1 G ad μ) (eV 1 G ad μz) := by
  refine Bk.mt (by decide) rfl (Nat.le_of_ble_eq_true rfl) ?_
  intro p e s m below meth c A ls H locs cx hr hlk hA hl hw
  have hx := cx.1
  have hb := cx.2.1
  have hl : lv_has ls 4 [(0, .ref (ad 0)), (1, .int a1), (2, .int a2), (3, .int a3)] := hl
  rw [p_X12_goOne_eq] at h
  refine lv_iload_n hx hb dX12_goOne_0 rfl (lv_at hl 1 rfl) ?_
  refine lv_topi (fun v1 ev1 => ?_)
  by_cases c2 : a1 = (0 : Int32)
  · rw [if_pos c2] at h
    have z9 := ev1.trans c2
    subst z9
    refine lv_tableIn (tgt := 44) hx hb dX12_goOne_1 (by decide +kernel) (by decide +kernel) rfl (by decide) ?_
    refine lv_aload_n hx hb dX12_goOne_44 rfl (lv_at hl 0 rfl) ?_
    refine lv_iload_n hx hb dX12_goOne_45 rfl (lv_at hl 2 rfl) ?_
    obtain ⟨μ3, gμ3, h⟩ := bw_some h
    refine g_callVV (As := [.int a2]) (rest := []) cx hw hA (t_X12_work l G ad a2 μ gμ3) shm_0 rfl ml_X12_564 im_X12_work se_X12_work in_X12 co_X12_work rfl hd_X12_work rfl ⟨(Nat.le_of_ble_eq_true rfl), (Nat.le_of_ble_eq_true rfl)⟩ hl.1 rfl (Nat.le_of_ble_eq_true rfl) dX12_goOne_46 ⟨rfl, rfl⟩ (fun H locs hw => ?_)
    refine lv_goto (tgt := 112) hx hb dX12_goOne_49 (by decide) ?_
    exact g_vret cx hr hlk hw h dX12_goOne_112
  rw [if_neg c2] at h
  by_cases c5 : a1 = (1 : Int32)
  · rw [if_pos c5] at h
    have z9 := ev1.trans c5
    subst z9
    refine lv_tableIn (tgt := 52) hx hb dX12_goOne_1 (by decide +kernel) (by decide +kernel) rfl (by decide) ?_
    refine lv_aload_n hx hb dX12_goOne_52 rfl (lv_at hl 0 rfl) ?_
    refine lv_iload_n hx hb dX12_goOne_53 rfl (lv_at hl 2 rfl) ?_
    obtain ⟨μ6, gμ6, h⟩ := bw_some h
    refine g_callVV (As := [.int a2]) (rest := []) cx hw hA (t_X12_doThing l G ad a2 μ gμ6) shm_0 rfl ml_X12_567 im_X12_doThing se_X12_doThing in_X12 co_X12_doThing rfl hd_X12_doThing rfl ⟨(Nat.le_of_ble_eq_true rfl), (Nat.le_of_ble_eq_true rfl)⟩ hl.1 rfl (Nat.le_of_ble_eq_true rfl) dX12_goOne_54 ⟨rfl, rfl⟩ (fun H locs hw => ?_)
    refine lv_goto (tgt := 112) hx hb dX12_goOne_57 (by decide) ?_
    exact g_vret cx hr hlk hw h dX12_goOne_112
  rw [if_neg c5] at h
  by_cases c8 : a1 = (2 : Int32)
  · rw [if_pos c8] at h
    have z9 := ev1.trans c8
    subst z9
    refine lv_tableIn (tgt := 60) hx hb dX12_goOne_1 (by decide +kernel) (by decide +kernel) rfl (by decide) ?_
    refine lv_aload_n hx hb dX12_goOne_60 rfl (lv_at hl 0 rfl) ?_
    refine lv_iload_n hx hb dX12_goOne_61 rfl (lv_at hl 2 rfl) ?_
    obtain ⟨μ9, gμ9, h⟩ := bw_some h
    refine g_callVV (As := [.int a2]) (rest := []) cx hw hA (t_X12_choose l G ad a2 μ gμ9) shm_0 rfl ml_X12_570 im_X12_choose se_X12_choose in_X12 co_X12_choose rfl hd_X12_choose rfl ⟨(Nat.le_of_ble_eq_true rfl), (Nat.le_of_ble_eq_true rfl)⟩ hl.1 rfl (Nat.le_of_ble_eq_true rfl) dX12_goOne_62 ⟨rfl, rfl⟩ (fun H locs hw => ?_)
    refine lv_goto (tgt := 112) hx hb dX12_goOne_65 (by decide) ?_
    exact g_vret cx hr hlk hw h dX12_goOne_112
  rw [if_neg c8] at h
  by_cases c11 : a1 = (3 : Int32)
  · rw [if_pos c11] at h
    have z9 := ev1.trans c11
    subst z9
    refine lv_tableIn (tgt := 68) hx hb dX12_goOne_1 (by decide +kernel) (by decide +kernel) rfl (by decide) ?_
    refine lv_aload_n hx hb dX12_goOne_68 rfl (lv_at hl 0 rfl) ?_
    refine lv_iload_n hx hb dX12_goOne_69 rfl (lv_at hl 2 rfl) ?_
    obtain ⟨μ12, gμ12, h⟩ := bw_some h
    refine g_callVV (As := [.int a2]) (rest := []) cx hw hA (t_X12_bindVar l G ad a2 μ gμ12) shm_0 rfl ml_X12_573 im_X12_bindVar se_X12_bindVar in_X12 co_X12_bindVar rfl hd_X12_bindVar rfl ⟨(Nat.le_of_ble_eq_true rfl), (Nat.le_of_ble_eq_true rfl)⟩ hl.1 rfl (Nat.le_of_ble_eq_true rfl) dX12_goOne_70 ⟨rfl, rfl⟩ (fun H locs hw => ?_)
    refine lv_goto (tgt := 112) hx hb dX12_goOne_73 (by decide) ?_
    exact g_vret cx hr hlk hw h dX12_goOne_112
  rw [if_neg c11] at h
  by_cases c14 : a1 = (4 : Int32)
  · rw [if_pos c14] at h
    have z9 := ev1.trans c14
    subst z9
    refine lv_tableIn (tgt := 76) hx hb dX12_goOne_1 (by decide +kernel) (by decide +kernel) rfl (by decide) ?_
    refine lv_aload_n hx hb dX12_goOne_76 rfl (lv_at hl 0 rfl) ?_
    refine g_get cx hw inX12 (ci := 11) rfl 64 (by decide) rfl (v := .ref (ad 41)) shm_0 rfl fl_X12_139 dX12_goOne_77 ?_
    refine lv_aload_n hx hb dX12_goOne_80 rfl (lv_at hl 0 rfl) ?_
    refine g_get cx hw inX12 (ci := 11) rfl 67 (by decide) rfl (v := .int (μ.1 0 67)) shm_0 rfl fl_X12_554 dX12_goOne_81 ?_
    refine lv_iload_n hx hb dX12_goOne_84 rfl (lv_at hl 2 rfl) ?_
    refine lv_iadd hx hb dX12_goOne_85 ?_
    refine lv_iload_n hx hb dX12_goOne_86 rfl (lv_at hl 3 rfl) ?_
    refine g_iast cx hw shm_41 h dX12_goOne_87 (fun μ15 H locs h hw => ?_)
    refine lv_goto (tgt := 112) hx hb dX12_goOne_88 (by decide) ?_
    exact g_vret cx hr hlk hw h dX12_goOne_112
  rw [if_neg c14] at h
  by_cases c16 : a1 = (5 : Int32)
  · rw [if_pos c16] at h
    have z9 := ev1.trans c16
    subst z9
    refine lv_tableIn (tgt := 91) hx hb dX12_goOne_1 (by decide +kernel) (by decide +kernel) rfl (by decide) ?_
    refine lv_aload_n hx hb dX12_goOne_91 rfl (lv_at hl 0 rfl) ?_
    obtain ⟨μ17, gμ17, h⟩ := bw_some h
    refine g_callVV (As := []) (rest := []) cx hw hA (t_X12_leave l G ad μ gμ17) shm_0 rfl ml_X12_576 im_X12_leave se_X12_leave in_X12 co_X12_leave rfl hd_X12_leave rfl ⟨(Nat.le_of_ble_eq_true rfl), (Nat.le_of_ble_eq_true rfl)⟩ hl.1 rfl (Nat.le_of_ble_eq_true rfl) dX12_goOne_92 ⟨rfl, rfl⟩ (fun H locs hw => ?_)
    refine lv_goto (tgt := 112) hx hb dX12_goOne_95 (by decide) ?_
    exact g_vret cx hr hlk hw h dX12_goOne_112
  rw [if_neg c16] at h
  by_cases c19 : a1 = (6 : Int32)
  · rw [if_pos c19] at h
    have z9 := ev1.trans c19
    subst z9
    refine lv_tableIn (tgt := 98) hx hb dX12_goOne_1 (by decide +kernel) (by decide +kernel) rfl (by decide) ?_
    refine lv_aload_n hx hb dX12_goOne_98 rfl (lv_at hl 0 rfl) ?_
    refine lv_iload_n hx hb dX12_goOne_99 rfl (lv_at hl 2 rfl) ?_
    refine lv_iload_n hx hb dX12_goOne_100 rfl (lv_at hl 3 rfl) ?_
    obtain ⟨μ20, gμ20, h⟩ := bw_some h
    refine g_callVV (As := [.int a2, .int a3]) (rest := []) cx hw hA (t_X12_otherwise l G ad a2 a3 μ gμ20) shm_0 rfl ml_X12_579 im_X12_otherwise se_X12_otherwise in_X12 co_X12_otherwise rfl hd_X12_otherwise rfl ⟨(Nat.le_of_ble_eq_true rfl), (Nat.le_of_ble_eq_true rfl)⟩ hl.1 rfl (Nat.le_of_ble_eq_true rfl) dX12_goOne_101 ⟨rfl, rfl⟩ (fun H locs hw => ?_)
    refine lv_goto (tgt := 112) hx hb dX12_goOne_104 (by decide) ?_
    exact g_vret cx hr hlk hw h dX12_goOne_112
  rw [if_neg c19] at h
  rw [ev1]
  refine lv_tableOut (tgt := 107) hx hb dX12_goOne_1 (sw_out (L := [(0 : Int32), (1 : Int32), (2 : Int32), (3 : Int32), (4 : Int32), (5 : Int32), (6 : Int32)]) (by decide +kernel) (by simp only [List.forall_mem_cons]; exact ⟨c2, c5, c8, c11, c14, c16, c19, fun _ q => absurd q List.not_mem_nil⟩)) (by decide) ?_
  refine lv_aload_n hx hb dX12_goOne_107 rfl (lv_at hl 0 rfl) ?_
  refine lv_iload_n hx hb dX12_goOne_108 rfl (lv_at hl 2 rfl) ?_
  obtain ⟨μ22, gμ22, h⟩ := bw_some h
  refine g_callVV (As := [.int a2]) (rest := []) cx hw hA (t_X12_whole l G ad a2 μ gμ22) shm_0 rfl ml_X12_582 im_X12_whole se_X12_whole in_X12 co_X12_whole rfl hd_X12_whole rfl ⟨(Nat.le_of_ble_eq_true rfl), (Nat.le_of_ble_eq_true rfl)⟩ hl.1 rfl (Nat.le_of_ble_eq_true rfl) dX12_goOne_109 ⟨rfl, rfl⟩ (fun H locs hw => ?_)
  exact g_vret cx hr hlk hw h dX12_goOne_112

theorem p_X12_goAll_b0_ex : ∃ f : Nat → Mem → Option Mem, (∀  (μ : Mem), f  0  μ = none) ∧ (∀ (n : Nat)  (μ : Mem), f  (n + 1)  μ = (if (μ.1 0 65) ≤ (0 : Int32) then some μ else (if (μ.1 0 68) = (0 : Int32) then bv (sF μ 0 65 ((μ.1 0 65) - (1 : Int32))) (fun μ3 => gd (inb (μ3.1 0 65) 6000) (gd (inb (μ3.1 0 65) 6000) (gd (inb (μ3.1 0 65) 6000) (bw (p_X12_goOne (μ3.1 37 (μ3.1 0 65).toNatClampNeg) (μ3.1 38 (μ3.1 0 65).toNatClampNeg) (μ3.1 39 (μ3.1 0 65).toNatClampNeg) μ3) (fun μ4 => f n μ4))))) else some μ))) := ⟨fun n => Nat.rec (fun  (μ : Mem) => none) (fun _ ih => fun  (μ : Mem) => (if (μ.1 0 65) ≤ (0 : Int32) then some μ else (if (μ.1 0 68) = (0 : Int32) then bv (sF μ 0 65 ((μ.1 0 65) - (1 : Int32))) (fun μ3 => gd (inb (μ3.1 0 65) 6000) (gd (inb (μ3.1 0 65) 6000) (gd (inb (μ3.1 0 65) 6000) (bw (p_X12_goOne (μ3.1 37 (μ3.1 0 65).toNatClampNeg) (μ3.1 38 (μ3.1 0 65).toNatClampNeg) (μ3.1 39 (μ3.1 0 65).toNatClampNeg) μ3) (fun μ4 => ih μ4))))) else some μ))) n, fun   _ => rfl, fun  _  _ => rfl⟩
noncomputable def p_X12_goAll_b0 : Nat → Mem → Option Mem := Classical.choose p_X12_goAll_b0_ex
theorem p_X12_goAll_b0_z  (μ : Mem) : p_X12_goAll_b0  0  μ = none := (Classical.choose_spec p_X12_goAll_b0_ex).1   μ
theorem p_X12_goAll_b0_s (n : Nat)  (μ : Mem) : p_X12_goAll_b0  (n + 1)  μ = (if (μ.1 0 65) ≤ (0 : Int32) then some μ else (if (μ.1 0 68) = (0 : Int32) then bv (sF μ 0 65 ((μ.1 0 65) - (1 : Int32))) (fun μ3 => gd (inb (μ3.1 0 65) 6000) (gd (inb (μ3.1 0 65) 6000) (gd (inb (μ3.1 0 65) 6000) (bw (p_X12_goOne (μ3.1 37 (μ3.1 0 65).toNatClampNeg) (μ3.1 38 (μ3.1 0 65).toNatClampNeg) (μ3.1 39 (μ3.1 0 65).toNatClampNeg) μ3) (fun μ4 => p_X12_goAll_b0  n μ4))))) else some μ)) := (Classical.choose_spec p_X12_goAll_b0_ex).2  n  μ
set_option maxHeartbeats 4000000 in
set_option maxRecDepth 100000 in
theorem t_X12_goAll_b0 (l : Launch) (G : Gt) (ad : Nat → Nat) (av : List Value) {μz : Mem} : ∀ (n : Nat)  (μ : Mem), p_X12_goAll_b0  n  μ = some μz → Bk l cX12_goAll 1 RX12 none ({ frames := 11, cells := 0, slots := 0, locals := 255 } : Room) G av (eV 1 G ad μz) (wd 1 G ad μ) 0 [(0, .ref (ad 0))] [] := by
  intro n
  induction n with
  | zero => intro  μ h; rw [p_X12_goAll_b0_z] at h; cases h
  | succ n ih =>
    intro  μ h p e s m below meth c A ls H locs cx hr hlk hA hl hw
    have hx := cx.1
    have hb := cx.2.1
    rw [p_X12_goAll_b0_s] at h
    refine lv_aload_n hx hb dX12_goAll_0 rfl (lv_at hl 0 rfl) ?_
    refine g_get cx hw inX12 (ci := 11) rfl 65 (by decide) rfl (v := .int (μ.1 0 65)) shm_0 rfl fl_X12_545 dX12_goAll_1 ?_
    refine lv_if_le (tgt := 58) hx hb dX12_goAll_4 (by decide) (fun c1 => ?_) (fun c1 => ?_)
    · rw [if_pos c1] at h
      exact g_vret cx hr hlk hw h dX12_goAll_58
    · rw [if_neg c1] at h
      refine lv_aload_n hx hb dX12_goAll_7 rfl (lv_at hl 0 rfl) ?_
      refine g_get cx hw inX12 (ci := 11) rfl 68 (by decide) rfl (v := .int (μ.1 0 68)) shm_0 rfl fl_X12_557 dX12_goAll_8 ?_
      refine lv_if_ne (tgt := 58) hx hb dX12_goAll_11 (by decide) (fun c2 => ?_) (fun c2 => ?_)
      · rw [if_neg c2] at h
        exact g_vret cx hr hlk hw h dX12_goAll_58
      · rw [if_pos c2] at h
        refine lv_aload_n hx hb dX12_goAll_14 rfl (lv_at hl 0 rfl) ?_
        refine lv_dup hx hb dX12_goAll_15 rfl ?_
        refine g_get cx hw inX12 (ci := 11) rfl 65 (by decide) rfl (v := .int (μ.1 0 65)) shm_0 rfl fl_X12_545 dX12_goAll_16 ?_
        refine lv_iconst (v := 1) hx hb dX12_goAll_19 (by decide) ?_
        refine lv_isub hx hb dX12_goAll_20 ?_
        refine g_put cx hw inX12 (ci := 11) rfl tyX12_ok nmX12 65 (by decide) rfl rfl rfl rfl shm_0 h fl_X12_545 dX12_goAll_21 (fun μ3 H locs h hw => ?_)
        refine lv_aload_n hx hb dX12_goAll_24 rfl (lv_at hl 0 rfl) ?_
        refine lv_aload_n hx hb dX12_goAll_25 rfl (lv_at hl 0 rfl) ?_
        refine g_get cx hw inX12 (ci := 11) rfl 60 (by decide) rfl (v := .ref (ad 37)) shm_0 rfl fl_X12_127 dX12_goAll_26 ?_
        refine lv_aload_n hx hb dX12_goAll_29 rfl (lv_at hl 0 rfl) ?_
        refine g_get cx hw inX12 (ci := 11) rfl 65 (by decide) rfl (v := .int (μ3.1 0 65)) shm_0 rfl fl_X12_545 dX12_goAll_30 ?_
        refine g_iald cx hw shm_37 h dX12_goAll_33 (fun h => ?_)
        refine lv_aload_n hx hb dX12_goAll_34 rfl (lv_at hl 0 rfl) ?_
        refine g_get cx hw inX12 (ci := 11) rfl 61 (by decide) rfl (v := .ref (ad 38)) shm_0 rfl fl_X12_130 dX12_goAll_35 ?_
        refine lv_aload_n hx hb dX12_goAll_38 rfl (lv_at hl 0 rfl) ?_
        refine g_get cx hw inX12 (ci := 11) rfl 65 (by decide) rfl (v := .int (μ3.1 0 65)) shm_0 rfl fl_X12_545 dX12_goAll_39 ?_
        refine g_iald cx hw shm_38 h dX12_goAll_42 (fun h => ?_)
        refine lv_aload_n hx hb dX12_goAll_43 rfl (lv_at hl 0 rfl) ?_
        refine g_get cx hw inX12 (ci := 11) rfl 62 (by decide) rfl (v := .ref (ad 39)) shm_0 rfl fl_X12_133 dX12_goAll_44 ?_
        refine lv_aload_n hx hb dX12_goAll_47 rfl (lv_at hl 0 rfl) ?_
        refine g_get cx hw inX12 (ci := 11) rfl 65 (by decide) rfl (v := .int (μ3.1 0 65)) shm_0 rfl fl_X12_545 dX12_goAll_48 ?_
        refine g_iald cx hw shm_39 h dX12_goAll_51 (fun h => ?_)
        obtain ⟨μ4, gμ4, h⟩ := bw_some h
        refine g_callVV (As := [.int (μ3.1 37 (μ3.1 0 65).toNatClampNeg), .int (μ3.1 38 (μ3.1 0 65).toNatClampNeg), .int (μ3.1 39 (μ3.1 0 65).toNatClampNeg)]) (rest := []) cx hw hA (t_X12_goOne l G ad (μ3.1 37 (μ3.1 0 65).toNatClampNeg) (μ3.1 38 (μ3.1 0 65).toNatClampNeg) (μ3.1 39 (μ3.1 0 65).toNatClampNeg) μ3 gμ4) shm_0 rfl ml_X12_560 im_X12_goOne se_X12_goOne in_X12 co_X12_goOne rfl hd_X12_goOne rfl ⟨(Nat.le_of_ble_eq_true rfl), (Nat.le_of_ble_eq_true rfl)⟩ hl.1 rfl (Nat.le_of_ble_eq_true rfl) dX12_goAll_52 ⟨rfl, rfl⟩ (fun H locs hw => ?_)
        refine lv_goto (tgt := 0) hx hb dX12_goAll_55 (by decide) ?_
        exact ih μ4 h p e s m below meth c A ls H locs cx hr hlk hA (lv_sub hl [0] rfl) hw
theorem p_X12_goAll_ex : ∃ f : Mem → Option Mem, ∀  (μ : Mem), f  μ = p_X12_goAll_b0  FUEL μ := ⟨fun  (μ : Mem) => p_X12_goAll_b0  FUEL μ, fun _ => rfl⟩
noncomputable def p_X12_goAll : Mem → Option Mem := Classical.choose p_X12_goAll_ex
theorem p_X12_goAll_eq  (μ : Mem) : p_X12_goAll  μ = p_X12_goAll_b0  FUEL μ := Classical.choose_spec p_X12_goAll_ex  μ
set_option maxHeartbeats 4000000 in
set_option maxRecDepth 100000 in
theorem t_X12_goAll (l : Launch) (G : Gt) (ad : Nat → Nat)  (μ : Mem) {μz : Mem} (h : p_X12_goAll  μ = some μz) : Mt l yX12_goAll cX12_goAll 1 none ({ frames := 11, cells := 0, slots := 0, locals := 255 } : Room) G [.ref (ad 0)] (wd 1 G ad μ) (eV 1 G ad μz) := by
  refine Bk.mt (by decide) rfl (Nat.le_of_ble_eq_true rfl) ?_
  intro p e s m below meth c A ls H locs cx hr hlk hA hl hw
  have hx := cx.1
  have hb := cx.2.1
  have hl : lv_has ls 1 [(0, .ref (ad 0))] := hl
  rw [p_X12_goAll_eq] at h
  exact t_X12_goAll_b0 l G ad _  FUEL μ h p e s m below meth c A ls H locs cx hr hlk hA (lv_sub hl [0] rfl) hw

theorem p_X12_makeVariant_b137_ex : ∃ f : Nat → Int32 → Int32 → Int32 → Mem → Option Mem, (∀ (a1 : Int32) (a3 : Int32) (a4 : Int32) (μ : Mem), f  0 a1 a3 a4 μ = none) ∧ (∀ (n : Nat) (a1 : Int32) (a3 : Int32) (a4 : Int32) (μ : Mem), f  (n + 1) a1 a3 a4 μ = gd (inb a3 73) ((if (μ.1 3 a3.toNatClampNeg) ≤ a4 then gd (inb a3 73) (bw (p_X12_push (0 : Int32) (μ.1 5 a3.toNatClampNeg) (0 : Int32) μ) (fun μ14 => bw (p_X12_goAll μ14) (fun μ16 => (if (μ16.1 0 68) = (0 : Int32) then bd (p_X12_gone μ16) (fun r20 μ19 => bd (p_X12_lift r20 μ19) (fun r22 μ21 => gd (inb a1 25) (bv (sF μ21 63 a1.toNatClampNeg (μ21.1 0 87)) (fun μ23 => gd (inb a1 25) (bv (sF μ23 64 a1.toNatClampNeg (μ23.1 0 88)) (fun μ24 => gd (inb r22 100000) (gd (inb (μ24.1 0 88) 4200) (bv (sF μ24 53 (μ24.1 0 88).toNatClampNeg (μ24.1 30 r22.toNatClampNeg)) (fun μ25 => gd (inb r22 100000) (gd (inb (μ25.1 0 88) 4200) (bv (sF μ25 54 (μ25.1 0 88).toNatClampNeg (μ25.1 31 r22.toNatClampNeg)) (fun μ26 => bv (sF μ26 0 88 ((μ26.1 0 88) + (1 : Int32))) (fun μ27 => gd (inb a1 25) (bv (sF μ27 65 a1.toNatClampNeg (μ27.1 0 93)) (fun μ28 => some μ28))))))))))))))) else some μ16)))) else gd (inb (((5 : Int32) * a3) + a4) 365) (bd (p_X12_unbuild μ) (fun r30 μ29 => gd (inb (μ.1 4 (((5 : Int32) * a3) + a4).toNatClampNeg) 500) (bv (sF μ29 41 (μ.1 4 (((5 : Int32) * a3) + a4).toNatClampNeg).toNatClampNeg r30) (fun μ31 => bv (a4 + 1) (fun v32 => f n a1 a3 v32 μ31)))))))) := ⟨fun n => Nat.rec (fun (a1 : Int32) (a3 : Int32) (a4 : Int32) (μ : Mem) => none) (fun _ ih => fun (a1 : Int32) (a3 : Int32) (a4 : Int32) (μ : Mem) => gd (inb a3 73) ((if (μ.1 3 a3.toNatClampNeg) ≤ a4 then gd (inb a3 73) (bw (p_X12_push (0 : Int32) (μ.1 5 a3.toNatClampNeg) (0 : Int32) μ) (fun μ14 => bw (p_X12_goAll μ14) (fun μ16 => (if (μ16.1 0 68) = (0 : Int32) then bd (p_X12_gone μ16) (fun r20 μ19 => bd (p_X12_lift r20 μ19) (fun r22 μ21 => gd (inb a1 25) (bv (sF μ21 63 a1.toNatClampNeg (μ21.1 0 87)) (fun μ23 => gd (inb a1 25) (bv (sF μ23 64 a1.toNatClampNeg (μ23.1 0 88)) (fun μ24 => gd (inb r22 100000) (gd (inb (μ24.1 0 88) 4200) (bv (sF μ24 53 (μ24.1 0 88).toNatClampNeg (μ24.1 30 r22.toNatClampNeg)) (fun μ25 => gd (inb r22 100000) (gd (inb (μ25.1 0 88) 4200) (bv (sF μ25 54 (μ25.1 0 88).toNatClampNeg (μ25.1 31 r22.toNatClampNeg)) (fun μ26 => bv (sF μ26 0 88 ((μ26.1 0 88) + (1 : Int32))) (fun μ27 => gd (inb a1 25) (bv (sF μ27 65 a1.toNatClampNeg (μ27.1 0 93)) (fun μ28 => some μ28))))))))))))))) else some μ16)))) else gd (inb (((5 : Int32) * a3) + a4) 365) (bd (p_X12_unbuild μ) (fun r30 μ29 => gd (inb (μ.1 4 (((5 : Int32) * a3) + a4).toNatClampNeg) 500) (bv (sF μ29 41 (μ.1 4 (((5 : Int32) * a3) + a4).toNatClampNeg).toNatClampNeg r30) (fun μ31 => bv (a4 + 1) (fun v32 => ih a1 a3 v32 μ31)))))))) n, fun  _ _ _ _ => rfl, fun  _ _ _ _ _ => rfl⟩
noncomputable def p_X12_makeVariant_b137 : Nat → Int32 → Int32 → Int32 → Mem → Option Mem := Classical.choose p_X12_makeVariant_b137_ex
theorem p_X12_makeVariant_b137_z (a1 : Int32) (a3 : Int32) (a4 : Int32) (μ : Mem) : p_X12_makeVariant_b137  0 a1 a3 a4 μ = none := (Classical.choose_spec p_X12_makeVariant_b137_ex).1  a1 a3 a4 μ
theorem p_X12_makeVariant_b137_s (n : Nat) (a1 : Int32) (a3 : Int32) (a4 : Int32) (μ : Mem) : p_X12_makeVariant_b137  (n + 1) a1 a3 a4 μ = gd (inb a3 73) ((if (μ.1 3 a3.toNatClampNeg) ≤ a4 then gd (inb a3 73) (bw (p_X12_push (0 : Int32) (μ.1 5 a3.toNatClampNeg) (0 : Int32) μ) (fun μ14 => bw (p_X12_goAll μ14) (fun μ16 => (if (μ16.1 0 68) = (0 : Int32) then bd (p_X12_gone μ16) (fun r20 μ19 => bd (p_X12_lift r20 μ19) (fun r22 μ21 => gd (inb a1 25) (bv (sF μ21 63 a1.toNatClampNeg (μ21.1 0 87)) (fun μ23 => gd (inb a1 25) (bv (sF μ23 64 a1.toNatClampNeg (μ23.1 0 88)) (fun μ24 => gd (inb r22 100000) (gd (inb (μ24.1 0 88) 4200) (bv (sF μ24 53 (μ24.1 0 88).toNatClampNeg (μ24.1 30 r22.toNatClampNeg)) (fun μ25 => gd (inb r22 100000) (gd (inb (μ25.1 0 88) 4200) (bv (sF μ25 54 (μ25.1 0 88).toNatClampNeg (μ25.1 31 r22.toNatClampNeg)) (fun μ26 => bv (sF μ26 0 88 ((μ26.1 0 88) + (1 : Int32))) (fun μ27 => gd (inb a1 25) (bv (sF μ27 65 a1.toNatClampNeg (μ27.1 0 93)) (fun μ28 => some μ28))))))))))))))) else some μ16)))) else gd (inb (((5 : Int32) * a3) + a4) 365) (bd (p_X12_unbuild μ) (fun r30 μ29 => gd (inb (μ.1 4 (((5 : Int32) * a3) + a4).toNatClampNeg) 500) (bv (sF μ29 41 (μ.1 4 (((5 : Int32) * a3) + a4).toNatClampNeg).toNatClampNeg r30) (fun μ31 => bv (a4 + 1) (fun v32 => p_X12_makeVariant_b137  n a1 a3 v32 μ31))))))) := (Classical.choose_spec p_X12_makeVariant_b137_ex).2  n a1 a3 a4 μ
set_option maxHeartbeats 4000000 in
set_option maxRecDepth 100000 in
theorem t_X12_makeVariant_b137 (l : Launch) (G : Gt) (ad : Nat → Nat) (av : List Value) {μz : Mem} : ∀ (n : Nat) (a1 : Int32) (a3 : Int32) (a4 : Int32) (μ : Mem), p_X12_makeVariant_b137  n a1 a3 a4 μ = some μz → Bk l cX12_makeVariant 5 RX12 none ({ frames := 12, cells := 0, slots := 0, locals := 275 } : Room) G av (eV 1 G ad μz) (wd 1 G ad μ) 137 [(0, .ref (ad 0)), (1, .int a1), (3, .int a3), (4, .int a4)] [] := by
  intro n
  induction n with
  | zero => intro a1 a3 a4 μ h; rw [p_X12_makeVariant_b137_z] at h; cases h
  | succ n ih =>
    intro a1 a3 a4 μ h p e s m below meth c A ls H locs cx hr hlk hA hl hw
    have hx := cx.1
    have hb := cx.2.1
    rw [p_X12_makeVariant_b137_s] at h
    refine lv_iload hx hb dX12_makeVariant_137 (lv_at hl 3 rfl) ?_
    refine lv_aload_n hx hb dX12_makeVariant_139 rfl (lv_at hl 0 rfl) ?_
    refine g_get cx hw inX12 (ci := 11) rfl 9 (by decide) rfl (v := .ref (ad 3)) shm_0 rfl fl_X12_21 dX12_makeVariant_140 ?_
    refine lv_iload_n hx hb dX12_makeVariant_143 rfl (lv_at hl 2 rfl) ?_
    refine g_iald cx hw shm_3 h dX12_makeVariant_144 (fun h => ?_)
    refine lv_icmp_ge (tgt := 174) hx hb dX12_makeVariant_145 (by decide) (fun c13 => ?_) (fun c13 => ?_)
    · rw [if_pos c13] at h
      refine lv_aload_n hx hb dX12_makeVariant_174 rfl (lv_at hl 0 rfl) ?_
      refine lv_iconst (v := 0) hx hb dX12_makeVariant_175 (by decide) ?_
      refine lv_aload_n hx hb dX12_makeVariant_176 rfl (lv_at hl 0 rfl) ?_
      refine g_get cx hw inX12 (ci := 11) rfl 11 (by decide) rfl (v := .ref (ad 5)) shm_0 rfl fl_X12_27 dX12_makeVariant_177 ?_
      refine lv_iload_n hx hb dX12_makeVariant_180 rfl (lv_at hl 2 rfl) ?_
      refine g_iald cx hw shm_5 h dX12_makeVariant_181 (fun h => ?_)
      refine lv_iconst (v := 0) hx hb dX12_makeVariant_182 (by decide) ?_
      obtain ⟨μ14, gμ14, h⟩ := bw_some h
      refine g_callVV (As := [.int 0, .int (μ.1 5 a3.toNatClampNeg), .int 0]) (rest := []) cx hw hA (t_X12_push l G ad (0 : Int32) (μ.1 5 a3.toNatClampNeg) (0 : Int32) μ gμ14) shm_0 rfl ml_X12_588 im_X12_push se_X12_push in_X12 co_X12_push rfl hd_X12_push rfl ⟨(Nat.le_of_ble_eq_true rfl), (Nat.le_of_ble_eq_true rfl)⟩ hl.1 rfl (Nat.le_of_ble_eq_true rfl) dX12_makeVariant_183 ⟨rfl, rfl⟩ (fun H locs hw => ?_)
      refine lv_aload_n hx hb dX12_makeVariant_186 rfl (lv_at hl 0 rfl) ?_
      obtain ⟨μ16, gμ16, h⟩ := bw_some h
      refine g_callVV (As := []) (rest := []) cx hw hA (t_X12_goAll l G ad μ14 gμ16) shm_0 rfl ml_X12_767 im_X12_goAll se_X12_goAll in_X12 co_X12_goAll rfl hd_X12_goAll rfl ⟨(Nat.le_of_ble_eq_true rfl), (Nat.le_of_ble_eq_true rfl)⟩ hl.1 rfl (Nat.le_of_ble_eq_true rfl) dX12_makeVariant_187 ⟨rfl, rfl⟩ (fun H locs hw => ?_)
      refine lv_aload_n hx hb dX12_makeVariant_190 rfl (lv_at hl 0 rfl) ?_
      refine g_get cx hw inX12 (ci := 11) rfl 68 (by decide) rfl (v := .int (μ16.1 0 68)) shm_0 rfl fl_X12_557 dX12_makeVariant_191 ?_
      refine lv_if_eq (tgt := 198) hx hb dX12_makeVariant_194 (by decide) (fun c18 => ?_) (fun c18 => ?_)
      · rw [if_pos c18] at h
        refine lv_aload_n hx hb dX12_makeVariant_198 rfl (lv_at hl 0 rfl) ?_
        refine lv_aload_n hx hb dX12_makeVariant_199 rfl (lv_at hl 0 rfl) ?_
        obtain ⟨r20, μ19, gr20, h⟩ := bd_some h
        refine g_callVI (As := []) (rest := [.ref (ad 0)]) cx hw hA (t_X12_gone l G ad μ16 gr20) shm_0 rfl ml_X12_594 im_X12_gone se_X12_gone in_X12 co_X12_gone rfl hd_X12_gone rfl ⟨(Nat.le_of_ble_eq_true rfl), (Nat.le_of_ble_eq_true rfl)⟩ hl.1 rfl (Nat.le_of_ble_eq_true rfl) dX12_makeVariant_200 ⟨rfl, rfl⟩ (fun H locs hw => ?_)
        obtain ⟨r22, μ21, gr22, h⟩ := bd_some h
        refine g_callVI (As := [.int r20]) (rest := []) cx hw hA (t_X12_lift l G ad r20 μ19 gr22) shm_0 rfl ml_X12_701 im_X12_lift se_X12_lift in_X12 co_X12_lift rfl hd_X12_lift rfl ⟨(Nat.le_of_ble_eq_true rfl), (Nat.le_of_ble_eq_true rfl)⟩ hl.1 rfl (Nat.le_of_ble_eq_true rfl) dX12_makeVariant_203 ⟨rfl, rfl⟩ (fun H locs hw => ?_)
        refine lv_istore (lv' := [(4, .int r22), (0, .ref (ad 0)), (1, .int a1), (3, .int a3)]) hx hb dX12_makeVariant_206 hl (by decide) rfl (fun ls hl => ?_)
        refine lv_aload_n hx hb dX12_makeVariant_208 rfl (lv_at hl 1 rfl) ?_
        refine g_get cx hw inX12 (ci := 11) rfl 106 (by decide) rfl (v := .ref (ad 63)) shm_0 rfl fl_X12_205 dX12_makeVariant_209 ?_
        refine lv_iload_n hx hb dX12_makeVariant_212 rfl (lv_at hl 2 rfl) ?_
        refine lv_aload_n hx hb dX12_makeVariant_213 rfl (lv_at hl 1 rfl) ?_
        refine g_get cx hw inX12 (ci := 11) rfl 87 (by decide) rfl (v := .int (μ21.1 0 87)) shm_0 rfl fl_X12_682 dX12_makeVariant_214 ?_
        refine g_iast cx hw shm_63 h dX12_makeVariant_217 (fun μ23 H locs h hw => ?_)
        refine lv_aload_n hx hb dX12_makeVariant_218 rfl (lv_at hl 1 rfl) ?_
        refine g_get cx hw inX12 (ci := 11) rfl 107 (by decide) rfl (v := .ref (ad 64)) shm_0 rfl fl_X12_208 dX12_makeVariant_219 ?_
        refine lv_iload_n hx hb dX12_makeVariant_222 rfl (lv_at hl 2 rfl) ?_
        refine lv_aload_n hx hb dX12_makeVariant_223 rfl (lv_at hl 1 rfl) ?_
        refine g_get cx hw inX12 (ci := 11) rfl 88 (by decide) rfl (v := .int (μ23.1 0 88)) shm_0 rfl fl_X12_685 dX12_makeVariant_224 ?_
        refine g_iast cx hw shm_64 h dX12_makeVariant_227 (fun μ24 H locs h hw => ?_)
        refine lv_aload_n hx hb dX12_makeVariant_228 rfl (lv_at hl 1 rfl) ?_
        refine g_get cx hw inX12 (ci := 11) rfl 85 (by decide) rfl (v := .ref (ad 53)) shm_0 rfl fl_X12_175 dX12_makeVariant_229 ?_
        refine lv_aload_n hx hb dX12_makeVariant_232 rfl (lv_at hl 1 rfl) ?_
        refine g_get cx hw inX12 (ci := 11) rfl 88 (by decide) rfl (v := .int (μ24.1 0 88)) shm_0 rfl fl_X12_685 dX12_makeVariant_233 ?_
        refine lv_aload_n hx hb dX12_makeVariant_236 rfl (lv_at hl 1 rfl) ?_
        refine g_get cx hw inX12 (ci := 11) rfl 51 (by decide) rfl (v := .ref (ad 30)) shm_0 rfl fl_X12_106 dX12_makeVariant_237 ?_
        refine lv_iload hx hb dX12_makeVariant_240 (lv_at hl 0 rfl) ?_
        refine g_iald cx hw shm_30 h dX12_makeVariant_242 (fun h => ?_)
        refine g_iast cx hw shm_53 h dX12_makeVariant_243 (fun μ25 H locs h hw => ?_)
        refine lv_aload_n hx hb dX12_makeVariant_244 rfl (lv_at hl 1 rfl) ?_
        refine g_get cx hw inX12 (ci := 11) rfl 86 (by decide) rfl (v := .ref (ad 54)) shm_0 rfl fl_X12_178 dX12_makeVariant_245 ?_
        refine lv_aload_n hx hb dX12_makeVariant_248 rfl (lv_at hl 1 rfl) ?_
        refine g_get cx hw inX12 (ci := 11) rfl 88 (by decide) rfl (v := .int (μ25.1 0 88)) shm_0 rfl fl_X12_685 dX12_makeVariant_249 ?_
        refine lv_aload_n hx hb dX12_makeVariant_252 rfl (lv_at hl 1 rfl) ?_
        refine g_get cx hw inX12 (ci := 11) rfl 52 (by decide) rfl (v := .ref (ad 31)) shm_0 rfl fl_X12_109 dX12_makeVariant_253 ?_
        refine lv_iload hx hb dX12_makeVariant_256 (lv_at hl 0 rfl) ?_
        refine g_iald cx hw shm_31 h dX12_makeVariant_258 (fun h => ?_)
        refine g_iast cx hw shm_54 h dX12_makeVariant_259 (fun μ26 H locs h hw => ?_)
        refine lv_aload_n hx hb dX12_makeVariant_260 rfl (lv_at hl 1 rfl) ?_
        refine lv_dup hx hb dX12_makeVariant_261 rfl ?_
        refine g_get cx hw inX12 (ci := 11) rfl 88 (by decide) rfl (v := .int (μ26.1 0 88)) shm_0 rfl fl_X12_685 dX12_makeVariant_262 ?_
        refine lv_iconst (v := 1) hx hb dX12_makeVariant_265 (by decide) ?_
        refine lv_iadd hx hb dX12_makeVariant_266 ?_
        refine g_put cx hw inX12 (ci := 11) rfl tyX12_ok nmX12 88 (by decide) rfl rfl rfl rfl shm_0 h fl_X12_685 dX12_makeVariant_267 (fun μ27 H locs h hw => ?_)
        refine lv_aload_n hx hb dX12_makeVariant_270 rfl (lv_at hl 1 rfl) ?_
        refine g_get cx hw inX12 (ci := 11) rfl 108 (by decide) rfl (v := .ref (ad 65)) shm_0 rfl fl_X12_211 dX12_makeVariant_271 ?_
        refine lv_iload_n hx hb dX12_makeVariant_274 rfl (lv_at hl 2 rfl) ?_
        refine lv_aload_n hx hb dX12_makeVariant_275 rfl (lv_at hl 1 rfl) ?_
        refine g_get cx hw inX12 (ci := 11) rfl 93 (by decide) rfl (v := .int (μ27.1 0 93)) shm_0 rfl fl_X12_691 dX12_makeVariant_276 ?_
        refine g_iast cx hw shm_65 h dX12_makeVariant_279 (fun μ28 H locs h hw => ?_)
        exact g_vret cx hr hlk hw h dX12_makeVariant_280
      · rw [if_neg c18] at h
        exact g_vret cx hr hlk hw h dX12_makeVariant_197
    · rw [if_neg c13] at h
      refine lv_aload_n hx hb dX12_makeVariant_148 rfl (lv_at hl 0 rfl) ?_
      refine g_get cx hw inX12 (ci := 11) rfl 64 (by decide) rfl (v := .ref (ad 41)) shm_0 rfl fl_X12_139 dX12_makeVariant_149 ?_
      refine lv_aload_n hx hb dX12_makeVariant_152 rfl (lv_at hl 0 rfl) ?_
      refine g_get cx hw inX12 (ci := 11) rfl 10 (by decide) rfl (v := .ref (ad 4)) shm_0 rfl fl_X12_24 dX12_makeVariant_153 ?_
      refine lv_iconst (v := 5) hx hb dX12_makeVariant_156 (by decide) ?_
      refine lv_iload_n hx hb dX12_makeVariant_157 rfl (lv_at hl 2 rfl) ?_
      refine lv_imul hx hb dX12_makeVariant_158 ?_
      refine lv_iload hx hb dX12_makeVariant_159 (lv_at hl 3 rfl) ?_
      refine lv_iadd hx hb dX12_makeVariant_161 ?_
      refine g_iald cx hw shm_4 h dX12_makeVariant_162 (fun h => ?_)
      refine lv_aload_n hx hb dX12_makeVariant_163 rfl (lv_at hl 0 rfl) ?_
      obtain ⟨r30, μ29, gr30, h⟩ := bd_some h
      refine g_callVI (As := []) (rest := [.int (μ.1 4 (((5 : Int32) * a3) + a4).toNatClampNeg), .ref (ad 41)]) cx hw hA (t_X12_unbuild l G ad μ gr30) shm_0 rfl ml_X12_536 im_X12_unbuild se_X12_unbuild in_X12 co_X12_unbuild rfl hd_X12_unbuild rfl ⟨(Nat.le_of_ble_eq_true rfl), (Nat.le_of_ble_eq_true rfl)⟩ hl.1 rfl (Nat.le_of_ble_eq_true rfl) dX12_makeVariant_164 ⟨rfl, rfl⟩ (fun H locs hw => ?_)
      refine g_iast cx hw shm_41 h dX12_makeVariant_167 (fun μ31 H locs h hw => ?_)
      obtain ⟨v32, ev32, h⟩ := bv_ex h
      refine lv_iinc (v := v32) (lv' := [(4, .int v32), (0, .ref (ad 0)), (1, .int a1), (3, .int a3)]) hx hb dX12_makeVariant_168 hl (k := 3) rfl (by rw [ev32]; rfl) (by decide) rfl (fun ls hl => ?_)
      refine lv_goto (tgt := 137) hx hb dX12_makeVariant_171 (by decide) ?_
      exact ih a1 a3 v32 μ31 h p e s m below meth c A ls H locs cx hr hlk hA (lv_sub hl [1, 2, 3, 0] rfl) hw
theorem p_X12_makeVariant_b118_ex : ∃ f : (Int32 → Int32 → Int32 → Mem → Option Mem) → Int32 → Int32 → Int32 → Int32 → Int32 → Mem → Option Mem, ∀ (K61 : Int32 → Int32 → Int32 → Mem → Option Mem) (a1 : Int32) (a2 : Int32) (a3 : Int32) (k0 : Int32) (k1 : Int32) (μ : Mem), f K61 a1 a2 a3 k0 k1 μ = bw (p_X12_buildOne k1 k0 μ) (fun μ37 => bv (a3 + (-1)) (fun v39 => K61 a1 a2 v39 μ37)) := ⟨fun (K61 : Int32 → Int32 → Int32 → Mem → Option Mem) (a1 : Int32) (a2 : Int32) (a3 : Int32) (k0 : Int32) (k1 : Int32) (μ : Mem) => bw (p_X12_buildOne k1 k0 μ) (fun μ37 => bv (a3 + (-1)) (fun v39 => K61 a1 a2 v39 μ37)), fun _ _ _ _ _ _ _ => rfl⟩
noncomputable def p_X12_makeVariant_b118 : (Int32 → Int32 → Int32 → Mem → Option Mem) → Int32 → Int32 → Int32 → Int32 → Int32 → Mem → Option Mem := Classical.choose p_X12_makeVariant_b118_ex
theorem p_X12_makeVariant_b118_eq (K61 : Int32 → Int32 → Int32 → Mem → Option Mem) (a1 : Int32) (a2 : Int32) (a3 : Int32) (k0 : Int32) (k1 : Int32) (μ : Mem) : p_X12_makeVariant_b118 K61 a1 a2 a3 k0 k1 μ = bw (p_X12_buildOne k1 k0 μ) (fun μ37 => bv (a3 + (-1)) (fun v39 => K61 a1 a2 v39 μ37)) := Classical.choose_spec p_X12_makeVariant_b118_ex K61 a1 a2 a3 k0 k1 μ
set_option maxHeartbeats 4000000 in
set_option maxRecDepth 100000 in
theorem t_X12_makeVariant_b118 (l : Launch) (G : Gt) (ad : Nat → Nat) (av : List Value) {μz : Mem} (K61 : Int32 → Int32 → Int32 → Mem → Option Mem) (hK61 : ∀ (z1 : Int32) (z2 : Int32) (z3 : Int32) (μ1 : Mem), K61 z1 z2 z3 μ1 = some μz → Bk l cX12_makeVariant 5 RX12 none ({ frames := 12, cells := 0, slots := 0, locals := 275 } : Room) G av (eV 1 G ad μz) (wd 1 G ad μ1) 61 [(0, .ref (ad 0)), (1, .int z1), (2, .int z2), (3, .int z3)] []) (a1 : Int32) (a2 : Int32) (a3 : Int32) (k0 : Int32) (k1 : Int32) (μ : Mem) (h : p_X12_makeVariant_b118 K61 a1 a2 a3 k0 k1 μ = some μz) : Bk l cX12_makeVariant 5 RX12 none ({ frames := 12, cells := 0, slots := 0, locals := 275 } : Room) G av (eV 1 G ad μz) (wd 1 G ad μ) 118 [(0, .ref (ad 0)), (1, .int a1), (2, .int a2), (3, .int a3)] [.int k0, .int k1, .ref (ad 0)] := by
  intro p e s m below meth c A ls H locs cx hr hlk hA hl hw
  have hx := cx.1
  have hb := cx.2.1
  rw [p_X12_makeVariant_b118_eq] at h
  obtain ⟨μ37, gμ37, h⟩ := bw_some h
  refine g_callVV (As := [.int k1, .int k0]) (rest := []) cx hw hA (t_X12_buildOne l G ad k1 k0 μ gμ37) shm_0 rfl ml_X12_542 im_X12_buildOne se_X12_buildOne in_X12 co_X12_buildOne rfl hd_X12_buildOne rfl ⟨(Nat.le_of_ble_eq_true rfl), (Nat.le_of_ble_eq_true rfl)⟩ hl.1 rfl (Nat.le_of_ble_eq_true rfl) dX12_makeVariant_118 ⟨rfl, rfl⟩ (fun H locs hw => ?_)
  obtain ⟨v39, ev39, h⟩ := bv_ex h
  refine lv_iinc (v := v39) (lv' := [(3, .int v39), (0, .ref (ad 0)), (1, .int a1), (2, .int a2)]) hx hb dX12_makeVariant_121 hl (k := 3) rfl (by rw [ev39]; rfl) (by decide) rfl (fun ls hl => ?_)
  refine lv_goto (tgt := 61) hx hb dX12_makeVariant_124 (by decide) ?_
  exact hK61 a1 a2 v39 μ37 h p e s m below meth c A ls H locs cx hr hlk hA (lv_sub hl [1, 2, 3, 0] rfl) hw
theorem p_X12_makeVariant_b91_ex : ∃ f : (Int32 → Int32 → Int32 → Mem → Option Mem) → Int32 → Int32 → Int32 → Int32 → Int32 → Mem → Option Mem, ∀ (K61 : Int32 → Int32 → Int32 → Mem → Option Mem) (a1 : Int32) (a3 : Int32) (a4 : Int32) (k0 : Int32) (k1 : Int32) (μ : Mem), f K61 a1 a3 a4 k0 k1 μ = bv (k1 - k0) (fun v35 => (if a4 = (3 : Int32) then p_X12_makeVariant_b118 K61 a1 v35 a3 v35 a4 μ else gd (inb (((210 : Int32) * a1) + a3) 5250) (p_X12_makeVariant_b118 K61 a1 v35 a3 (μ.1 61 (((210 : Int32) * a1) + a3).toNatClampNeg) a4 μ))) := ⟨fun (K61 : Int32 → Int32 → Int32 → Mem → Option Mem) (a1 : Int32) (a3 : Int32) (a4 : Int32) (k0 : Int32) (k1 : Int32) (μ : Mem) => bv (k1 - k0) (fun v35 => (if a4 = (3 : Int32) then p_X12_makeVariant_b118 K61 a1 v35 a3 v35 a4 μ else gd (inb (((210 : Int32) * a1) + a3) 5250) (p_X12_makeVariant_b118 K61 a1 v35 a3 (μ.1 61 (((210 : Int32) * a1) + a3).toNatClampNeg) a4 μ))), fun _ _ _ _ _ _ _ => rfl⟩
noncomputable def p_X12_makeVariant_b91 : (Int32 → Int32 → Int32 → Mem → Option Mem) → Int32 → Int32 → Int32 → Int32 → Int32 → Mem → Option Mem := Classical.choose p_X12_makeVariant_b91_ex
theorem p_X12_makeVariant_b91_eq (K61 : Int32 → Int32 → Int32 → Mem → Option Mem) (a1 : Int32) (a3 : Int32) (a4 : Int32) (k0 : Int32) (k1 : Int32) (μ : Mem) : p_X12_makeVariant_b91 K61 a1 a3 a4 k0 k1 μ = bv (k1 - k0) (fun v35 => (if a4 = (3 : Int32) then p_X12_makeVariant_b118 K61 a1 v35 a3 v35 a4 μ else gd (inb (((210 : Int32) * a1) + a3) 5250) (p_X12_makeVariant_b118 K61 a1 v35 a3 (μ.1 61 (((210 : Int32) * a1) + a3).toNatClampNeg) a4 μ))) := Classical.choose_spec p_X12_makeVariant_b91_ex K61 a1 a3 a4 k0 k1 μ
set_option maxHeartbeats 4000000 in
set_option maxRecDepth 100000 in
theorem t_X12_makeVariant_b91 (l : Launch) (G : Gt) (ad : Nat → Nat) (av : List Value) {μz : Mem} (K61 : Int32 → Int32 → Int32 → Mem → Option Mem) (hK61 : ∀ (z1 : Int32) (z2 : Int32) (z3 : Int32) (μ1 : Mem), K61 z1 z2 z3 μ1 = some μz → Bk l cX12_makeVariant 5 RX12 none ({ frames := 12, cells := 0, slots := 0, locals := 275 } : Room) G av (eV 1 G ad μz) (wd 1 G ad μ1) 61 [(0, .ref (ad 0)), (1, .int z1), (2, .int z2), (3, .int z3)] []) (a1 : Int32) (a3 : Int32) (a4 : Int32) (k0 : Int32) (k1 : Int32) (μ : Mem) (h : p_X12_makeVariant_b91 K61 a1 a3 a4 k0 k1 μ = some μz) : Bk l cX12_makeVariant 5 RX12 none ({ frames := 12, cells := 0, slots := 0, locals := 275 } : Room) G av (eV 1 G ad μz) (wd 1 G ad μ) 91 [(0, .ref (ad 0)), (1, .int a1), (3, .int a3), (4, .int a4)] [.int k0, .int k1] := by
  intro p e s m below meth c A ls H locs cx hr hlk hA hl hw
  have hx := cx.1
  have hb := cx.2.1
  rw [p_X12_makeVariant_b91_eq] at h
  refine lv_isub hx hb dX12_makeVariant_91 ?_
  obtain ⟨v35, ev35, h⟩ := bv_ex h
  refine lv_topi (fun y9 z9 => ?_)
  obtain rfl : v35 = y9 := ev35.trans z9.symm
  refine lv_istore_n (lv' := [(2, .int v35), (0, .ref (ad 0)), (1, .int a1), (3, .int a3), (4, .int a4)]) hx hb dX12_makeVariant_92 rfl hl (by decide) rfl (fun ls hl => ?_)
  refine lv_aload_n hx hb dX12_makeVariant_93 rfl (lv_at hl 1 rfl) ?_
  refine lv_iload hx hb dX12_makeVariant_94 (lv_at hl 4 rfl) ?_
  refine lv_iload hx hb dX12_makeVariant_96 (lv_at hl 4 rfl) ?_
  refine lv_iconst (v := 3) hx hb dX12_makeVariant_98 (by decide) ?_
  refine lv_icmp_ne (tgt := 106) hx hb dX12_makeVariant_99 (by decide) (fun c36 => ?_) (fun c36 => ?_)
  · rw [if_neg c36] at h
    refine lv_aload_n hx hb dX12_makeVariant_106 rfl (lv_at hl 1 rfl) ?_
    refine g_get cx hw inX12 (ci := 11) rfl 104 (by decide) rfl (v := .ref (ad 61)) shm_0 rfl fl_X12_199 dX12_makeVariant_107 ?_
    refine lv_sipush (v := 210) hx hb dX12_makeVariant_110 (by decide) ?_
    refine lv_iload_n hx hb dX12_makeVariant_113 rfl (lv_at hl 2 rfl) ?_
    refine lv_imul hx hb dX12_makeVariant_114 ?_
    refine lv_iload_n hx hb dX12_makeVariant_115 rfl (lv_at hl 3 rfl) ?_
    refine lv_iadd hx hb dX12_makeVariant_116 ?_
    refine g_iald cx hw shm_61 h dX12_makeVariant_117 (fun h => ?_)
    exact t_X12_makeVariant_b118 l G ad av K61 hK61 a1 v35 a3 (μ.1 61 (((210 : Int32) * a1) + a3).toNatClampNeg) a4 μ h p e s m below meth c A ls H locs cx hr hlk hA (lv_sub hl [1, 2, 0, 3] rfl) hw
  · rw [if_pos c36] at h
    refine lv_iload_n hx hb dX12_makeVariant_102 rfl (lv_at hl 0 rfl) ?_
    refine lv_goto (tgt := 118) hx hb dX12_makeVariant_103 (by decide) ?_
    exact t_X12_makeVariant_b118 l G ad av K61 hK61 a1 v35 a3 v35 a4 μ h p e s m below meth c A ls H locs cx hr hlk hA (lv_sub hl [1, 2, 0, 3] rfl) hw
theorem p_X12_makeVariant_b61_ex : ∃ f : Nat → Int32 → Int32 → Int32 → Mem → Option Mem, (∀ (a1 : Int32) (a2 : Int32) (a3 : Int32) (μ : Mem), f  0 a1 a2 a3 μ = none) ∧ (∀ (n : Nat) (a1 : Int32) (a2 : Int32) (a3 : Int32) (μ : Mem), f  (n + 1) a1 a2 a3 μ = (if a3 < (0 : Int32) then gd (inb a1 25) (bv (μ.1 57 a1.toNatClampNeg) (fun v12 => p_X12_makeVariant_b137  FUEL a1 v12 (0 : Int32) μ)) else gd (inb (((210 : Int32) * a1) + a3) 5250) (bv (μ.1 60 (((210 : Int32) * a1) + a3).toNatClampNeg) (fun v33 => (if v33 = (3 : Int32) then p_X12_makeVariant_b91 (f n) a1 a3 v33 (1 : Int32) a2 μ else p_X12_makeVariant_b91 (f n) a1 a3 v33 (0 : Int32) a2 μ))))) := ⟨fun n => Nat.rec (fun (a1 : Int32) (a2 : Int32) (a3 : Int32) (μ : Mem) => none) (fun _ ih => fun (a1 : Int32) (a2 : Int32) (a3 : Int32) (μ : Mem) => (if a3 < (0 : Int32) then gd (inb a1 25) (bv (μ.1 57 a1.toNatClampNeg) (fun v12 => p_X12_makeVariant_b137  FUEL a1 v12 (0 : Int32) μ)) else gd (inb (((210 : Int32) * a1) + a3) 5250) (bv (μ.1 60 (((210 : Int32) * a1) + a3).toNatClampNeg) (fun v33 => (if v33 = (3 : Int32) then p_X12_makeVariant_b91 (ih) a1 a3 v33 (1 : Int32) a2 μ else p_X12_makeVariant_b91 (ih) a1 a3 v33 (0 : Int32) a2 μ))))) n, fun  _ _ _ _ => rfl, fun  _ _ _ _ _ => rfl⟩
noncomputable def p_X12_makeVariant_b61 : Nat → Int32 → Int32 → Int32 → Mem → Option Mem := Classical.choose p_X12_makeVariant_b61_ex
theorem p_X12_makeVariant_b61_z (a1 : Int32) (a2 : Int32) (a3 : Int32) (μ : Mem) : p_X12_makeVariant_b61  0 a1 a2 a3 μ = none := (Classical.choose_spec p_X12_makeVariant_b61_ex).1  a1 a2 a3 μ
theorem p_X12_makeVariant_b61_s (n : Nat) (a1 : Int32) (a2 : Int32) (a3 : Int32) (μ : Mem) : p_X12_makeVariant_b61  (n + 1) a1 a2 a3 μ = (if a3 < (0 : Int32) then gd (inb a1 25) (bv (μ.1 57 a1.toNatClampNeg) (fun v12 => p_X12_makeVariant_b137  FUEL a1 v12 (0 : Int32) μ)) else gd (inb (((210 : Int32) * a1) + a3) 5250) (bv (μ.1 60 (((210 : Int32) * a1) + a3).toNatClampNeg) (fun v33 => (if v33 = (3 : Int32) then p_X12_makeVariant_b91 (p_X12_makeVariant_b61  n) a1 a3 v33 (1 : Int32) a2 μ else p_X12_makeVariant_b91 (p_X12_makeVariant_b61  n) a1 a3 v33 (0 : Int32) a2 μ)))) := (Classical.choose_spec p_X12_makeVariant_b61_ex).2  n a1 a2 a3 μ
set_option maxHeartbeats 4000000 in
set_option maxRecDepth 100000 in
theorem t_X12_makeVariant_b61 (l : Launch) (G : Gt) (ad : Nat → Nat) (av : List Value) {μz : Mem} : ∀ (n : Nat) (a1 : Int32) (a2 : Int32) (a3 : Int32) (μ : Mem), p_X12_makeVariant_b61  n a1 a2 a3 μ = some μz → Bk l cX12_makeVariant 5 RX12 none ({ frames := 12, cells := 0, slots := 0, locals := 275 } : Room) G av (eV 1 G ad μz) (wd 1 G ad μ) 61 [(0, .ref (ad 0)), (1, .int a1), (2, .int a2), (3, .int a3)] [] := by
  intro n
  induction n with
  | zero => intro a1 a2 a3 μ h; rw [p_X12_makeVariant_b61_z] at h; cases h
  | succ n ih =>
    intro a1 a2 a3 μ h p e s m below meth c A ls H locs cx hr hlk hA hl hw
    have hx := cx.1
    have hb := cx.2.1
    rw [p_X12_makeVariant_b61_s] at h
    refine lv_iload_n hx hb dX12_makeVariant_61 rfl (lv_at hl 3 rfl) ?_
    refine lv_if_lt (tgt := 127) hx hb dX12_makeVariant_62 (by decide) (fun c11 => ?_) (fun c11 => ?_)
    · rw [if_pos c11] at h
      refine lv_aload_n hx hb dX12_makeVariant_127 rfl (lv_at hl 0 rfl) ?_
      refine g_get cx hw inX12 (ci := 11) rfl 100 (by decide) rfl (v := .ref (ad 57)) shm_0 rfl fl_X12_187 dX12_makeVariant_128 ?_
      refine lv_iload_n hx hb dX12_makeVariant_131 rfl (lv_at hl 1 rfl) ?_
      refine g_iald cx hw shm_57 h dX12_makeVariant_132 (fun h => ?_)
      obtain ⟨v12, ev12, h⟩ := bv_ex h
      refine lv_topi (fun y9 z9 => ?_)
      obtain rfl : v12 = y9 := ev12.trans z9.symm
      refine lv_istore_n (lv' := [(3, .int v12), (0, .ref (ad 0)), (1, .int a1), (2, .int a2)]) hx hb dX12_makeVariant_133 rfl hl (by decide) rfl (fun ls hl => ?_)
      refine lv_iconst (v := 0) hx hb dX12_makeVariant_134 (by decide) ?_
      refine lv_istore (lv' := [(4, .int 0), (3, .int v12), (0, .ref (ad 0)), (1, .int a1), (2, .int a2)]) hx hb dX12_makeVariant_135 hl (by decide) rfl (fun ls hl => ?_)
      exact t_X12_makeVariant_b137 l G ad av  FUEL a1 v12 (0 : Int32) μ h p e s m below meth c A ls H locs cx hr hlk hA (lv_sub hl [2, 3, 1, 0] rfl) hw
    · rw [if_neg c11] at h
      refine lv_aload_n hx hb dX12_makeVariant_65 rfl (lv_at hl 0 rfl) ?_
      refine g_get cx hw inX12 (ci := 11) rfl 103 (by decide) rfl (v := .ref (ad 60)) shm_0 rfl fl_X12_196 dX12_makeVariant_66 ?_
      refine lv_sipush (v := 210) hx hb dX12_makeVariant_69 (by decide) ?_
      refine lv_iload_n hx hb dX12_makeVariant_72 rfl (lv_at hl 1 rfl) ?_
      refine lv_imul hx hb dX12_makeVariant_73 ?_
      refine lv_iload_n hx hb dX12_makeVariant_74 rfl (lv_at hl 3 rfl) ?_
      refine lv_iadd hx hb dX12_makeVariant_75 ?_
      refine g_iald cx hw shm_60 h dX12_makeVariant_76 (fun h => ?_)
      obtain ⟨v33, ev33, h⟩ := bv_ex h
      refine lv_topi (fun y9 z9 => ?_)
      obtain rfl : v33 = y9 := ev33.trans z9.symm
      refine lv_istore (lv' := [(4, .int v33), (0, .ref (ad 0)), (1, .int a1), (2, .int a2), (3, .int a3)]) hx hb dX12_makeVariant_77 hl (by decide) rfl (fun ls hl => ?_)
      refine lv_iload_n hx hb dX12_makeVariant_79 rfl (lv_at hl 3 rfl) ?_
      refine lv_iload hx hb dX12_makeVariant_80 (lv_at hl 0 rfl) ?_
      refine lv_iconst (v := 3) hx hb dX12_makeVariant_82 (by decide) ?_
      refine lv_icmp_ne (tgt := 90) hx hb dX12_makeVariant_83 (by decide) (fun c34 => ?_) (fun c34 => ?_)
      · rw [if_neg c34] at h
        refine lv_iconst (v := 0) hx hb dX12_makeVariant_90 (by decide) ?_
        exact t_X12_makeVariant_b91 l G ad av _ ih a1 a3 v33 (0 : Int32) a2 μ h p e s m below meth c A ls H locs cx hr hlk hA (lv_sub hl [1, 2, 4, 0] rfl) hw
      · rw [if_pos c34] at h
        refine lv_iconst (v := 1) hx hb dX12_makeVariant_86 (by decide) ?_
        refine lv_goto (tgt := 91) hx hb dX12_makeVariant_87 (by decide) ?_
        exact t_X12_makeVariant_b91 l G ad av _ ih a1 a3 v33 (1 : Int32) a2 μ h p e s m below meth c A ls H locs cx hr hlk hA (lv_sub hl [1, 2, 4, 0] rfl) hw
theorem p_X12_makeVariant_ex : ∃ f : Int32 → Mem → Option Mem, ∀ (a1 : Int32) (μ : Mem), f a1 μ = bw (p_X12_begin (1 : Int32) μ) (fun μ1 => bv (sF μ1 0 111 a1) (fun μ3 => bv (sF μ3 0 90 (0 : Int32)) (fun μ4 => bv (sF μ4 0 92 (0 : Int32)) (fun μ5 => gd (inb a1 25) (bv (sF μ5 0 93 (μ5.1 59 a1.toNatClampNeg)) (fun μ6 => gd (inb a1 25) (bv (sF μ6 62 a1.toNatClampNeg (μ6.1 0 87)) (fun μ7 => gd (inb a1 25) (bv (μ7.1 59 a1.toNatClampNeg) (fun v8 => bv (sF μ7 0 58 (0 : Int32)) (fun μ9 => gd (inb a1 25) (bv ((μ9.1 58 a1.toNatClampNeg) - (1 : Int32)) (fun v10 => p_X12_makeVariant_b61  FUEL a1 v8 v10 μ9))))))))))))) := ⟨fun (a1 : Int32) (μ : Mem) => bw (p_X12_begin (1 : Int32) μ) (fun μ1 => bv (sF μ1 0 111 a1) (fun μ3 => bv (sF μ3 0 90 (0 : Int32)) (fun μ4 => bv (sF μ4 0 92 (0 : Int32)) (fun μ5 => gd (inb a1 25) (bv (sF μ5 0 93 (μ5.1 59 a1.toNatClampNeg)) (fun μ6 => gd (inb a1 25) (bv (sF μ6 62 a1.toNatClampNeg (μ6.1 0 87)) (fun μ7 => gd (inb a1 25) (bv (μ7.1 59 a1.toNatClampNeg) (fun v8 => bv (sF μ7 0 58 (0 : Int32)) (fun μ9 => gd (inb a1 25) (bv ((μ9.1 58 a1.toNatClampNeg) - (1 : Int32)) (fun v10 => p_X12_makeVariant_b61  FUEL a1 v8 v10 μ9))))))))))))), fun _ _ => rfl⟩
noncomputable def p_X12_makeVariant : Int32 → Mem → Option Mem := Classical.choose p_X12_makeVariant_ex
theorem p_X12_makeVariant_eq (a1 : Int32) (μ : Mem) : p_X12_makeVariant a1 μ = bw (p_X12_begin (1 : Int32) μ) (fun μ1 => bv (sF μ1 0 111 a1) (fun μ3 => bv (sF μ3 0 90 (0 : Int32)) (fun μ4 => bv (sF μ4 0 92 (0 : Int32)) (fun μ5 => gd (inb a1 25) (bv (sF μ5 0 93 (μ5.1 59 a1.toNatClampNeg)) (fun μ6 => gd (inb a1 25) (bv (sF μ6 62 a1.toNatClampNeg (μ6.1 0 87)) (fun μ7 => gd (inb a1 25) (bv (μ7.1 59 a1.toNatClampNeg) (fun v8 => bv (sF μ7 0 58 (0 : Int32)) (fun μ9 => gd (inb a1 25) (bv ((μ9.1 58 a1.toNatClampNeg) - (1 : Int32)) (fun v10 => p_X12_makeVariant_b61  FUEL a1 v8 v10 μ9))))))))))))) := Classical.choose_spec p_X12_makeVariant_ex a1 μ
set_option maxHeartbeats 4000000 in
set_option maxRecDepth 100000 in
theorem t_X12_makeVariant (l : Launch) (G : Gt) (ad : Nat → Nat) (a1 : Int32) (μ : Mem) {μz : Mem} (h : p_X12_makeVariant a1 μ = some μz) : Mt l yX12_makeVariant cX12_makeVariant 5 none ({ frames := 12, cells := 0, slots := 0, locals := 275 } : Room) G [.ref (ad 0), .int a1] (wd 1 G ad μ) (eV 1 G ad μz) := by
  refine Bk.mt (by decide) rfl (Nat.le_of_ble_eq_true rfl) ?_
  intro p e s m below meth c A ls H locs cx hr hlk hA hl hw
  have hx := cx.1
  have hb := cx.2.1
  have hl : lv_has ls 5 [(0, .ref (ad 0)), (1, .int a1)] := hl
  rw [p_X12_makeVariant_eq] at h
  refine lv_aload_n hx hb dX12_makeVariant_0 rfl (lv_at hl 0 rfl) ?_
  refine lv_iconst (v := 1) hx hb dX12_makeVariant_1 (by decide) ?_
  obtain ⟨μ1, gμ1, h⟩ := bw_some h
  refine g_callVV (As := [.int 1]) (rest := []) cx hw hA (t_X12_begin l G ad (1 : Int32) μ gμ1) shm_0 rfl ml_X12_763 im_X12_begin se_X12_begin in_X12 co_X12_begin rfl hd_X12_begin rfl ⟨(Nat.le_of_ble_eq_true rfl), (Nat.le_of_ble_eq_true rfl)⟩ hl.1 rfl (Nat.le_of_ble_eq_true rfl) dX12_makeVariant_2 ⟨rfl, rfl⟩ (fun H locs hw => ?_)
  refine lv_aload_n hx hb dX12_makeVariant_5 rfl (lv_at hl 0 rfl) ?_
  refine lv_iload_n hx hb dX12_makeVariant_6 rfl (lv_at hl 1 rfl) ?_
  refine g_put cx hw inX12 (ci := 11) rfl tyX12_ok nmX12 111 (by decide) rfl rfl rfl rfl shm_0 h fl_X12_742 dX12_makeVariant_7 (fun μ3 H locs h hw => ?_)
  refine lv_aload_n hx hb dX12_makeVariant_10 rfl (lv_at hl 0 rfl) ?_
  refine lv_iconst (v := 0) hx hb dX12_makeVariant_11 (by decide) ?_
  refine g_put cx hw inX12 (ci := 11) rfl tyX12_ok nmX12 90 (by decide) rfl rfl rfl rfl shm_0 h fl_X12_612 dX12_makeVariant_12 (fun μ4 H locs h hw => ?_)
  refine lv_aload_n hx hb dX12_makeVariant_15 rfl (lv_at hl 0 rfl) ?_
  refine lv_iconst (v := 0) hx hb dX12_makeVariant_16 (by decide) ?_
  refine g_put cx hw inX12 (ci := 11) rfl tyX12_ok nmX12 92 (by decide) rfl rfl rfl rfl shm_0 h fl_X12_679 dX12_makeVariant_17 (fun μ5 H locs h hw => ?_)
  refine lv_aload_n hx hb dX12_makeVariant_20 rfl (lv_at hl 0 rfl) ?_
  refine lv_aload_n hx hb dX12_makeVariant_21 rfl (lv_at hl 0 rfl) ?_
  refine g_get cx hw inX12 (ci := 11) rfl 102 (by decide) rfl (v := .ref (ad 59)) shm_0 rfl fl_X12_193 dX12_makeVariant_22 ?_
  refine lv_iload_n hx hb dX12_makeVariant_25 rfl (lv_at hl 1 rfl) ?_
  refine g_iald cx hw shm_59 h dX12_makeVariant_26 (fun h => ?_)
  refine g_put cx hw inX12 (ci := 11) rfl tyX12_ok nmX12 93 (by decide) rfl rfl rfl rfl shm_0 h fl_X12_691 dX12_makeVariant_27 (fun μ6 H locs h hw => ?_)
  refine lv_aload_n hx hb dX12_makeVariant_30 rfl (lv_at hl 0 rfl) ?_
  refine g_get cx hw inX12 (ci := 11) rfl 105 (by decide) rfl (v := .ref (ad 62)) shm_0 rfl fl_X12_202 dX12_makeVariant_31 ?_
  refine lv_iload_n hx hb dX12_makeVariant_34 rfl (lv_at hl 1 rfl) ?_
  refine lv_aload_n hx hb dX12_makeVariant_35 rfl (lv_at hl 0 rfl) ?_
  refine g_get cx hw inX12 (ci := 11) rfl 87 (by decide) rfl (v := .int (μ6.1 0 87)) shm_0 rfl fl_X12_682 dX12_makeVariant_36 ?_
  refine g_iast cx hw shm_62 h dX12_makeVariant_39 (fun μ7 H locs h hw => ?_)
  refine lv_aload_n hx hb dX12_makeVariant_40 rfl (lv_at hl 0 rfl) ?_
  refine g_get cx hw inX12 (ci := 11) rfl 102 (by decide) rfl (v := .ref (ad 59)) shm_0 rfl fl_X12_193 dX12_makeVariant_41 ?_
  refine lv_iload_n hx hb dX12_makeVariant_44 rfl (lv_at hl 1 rfl) ?_
  refine g_iald cx hw shm_59 h dX12_makeVariant_45 (fun h => ?_)
  obtain ⟨v8, ev8, h⟩ := bv_ex h
  refine lv_topi (fun y9 z9 => ?_)
  obtain rfl : v8 = y9 := ev8.trans z9.symm
  refine lv_istore_n (lv' := [(2, .int v8), (0, .ref (ad 0)), (1, .int a1)]) hx hb dX12_makeVariant_46 rfl hl (by decide) rfl (fun ls hl => ?_)
  refine lv_aload_n hx hb dX12_makeVariant_47 rfl (lv_at hl 1 rfl) ?_
  refine lv_iconst (v := 0) hx hb dX12_makeVariant_48 (by decide) ?_
  refine g_put cx hw inX12 (ci := 11) rfl tyX12_ok nmX12 58 (by decide) rfl rfl rfl rfl shm_0 h fl_X12_530 dX12_makeVariant_49 (fun μ9 H locs h hw => ?_)
  refine lv_aload_n hx hb dX12_makeVariant_52 rfl (lv_at hl 1 rfl) ?_
  refine g_get cx hw inX12 (ci := 11) rfl 101 (by decide) rfl (v := .ref (ad 58)) shm_0 rfl fl_X12_190 dX12_makeVariant_53 ?_
  refine lv_iload_n hx hb dX12_makeVariant_56 rfl (lv_at hl 2 rfl) ?_
  refine g_iald cx hw shm_58 h dX12_makeVariant_57 (fun h => ?_)
  refine lv_iconst (v := 1) hx hb dX12_makeVariant_58 (by decide) ?_
  refine lv_isub hx hb dX12_makeVariant_59 ?_
  obtain ⟨v10, ev10, h⟩ := bv_ex h
  refine lv_topi (fun y9 z9 => ?_)
  obtain rfl : v10 = y9 := ev10.trans z9.symm
  refine lv_istore_n (lv' := [(3, .int v10), (2, .int v8), (0, .ref (ad 0)), (1, .int a1)]) hx hb dX12_makeVariant_60 rfl hl (by decide) rfl (fun ls hl => ?_)
  exact t_X12_makeVariant_b61 l G ad _  FUEL a1 v8 v10 μ9 h p e s m below meth c A ls H locs cx hr hlk hA (lv_sub hl [2, 3, 1, 0] rfl) hw

theorem p_X12_buildTask_b84_ex : ∃ f : Nat → Int32 → Mem → Option Mem, (∀ (a3 : Int32) (μ : Mem), f  0 a3 μ = none) ∧ (∀ (n : Nat) (a3 : Int32) (μ : Mem), f  (n + 1) a3 μ = (if (μ.1 0 43) ≤ a3 then some μ else bd (p_X12_unbuild μ) (fun r7 μ6 => gd (inb a3 5) (bv (sF μ6 45 a3.toNatClampNeg r7) (fun μ8 => bv (a3 + 1) (fun v9 => f n v9 μ8)))))) := ⟨fun n => Nat.rec (fun (a3 : Int32) (μ : Mem) => none) (fun _ ih => fun (a3 : Int32) (μ : Mem) => (if (μ.1 0 43) ≤ a3 then some μ else bd (p_X12_unbuild μ) (fun r7 μ6 => gd (inb a3 5) (bv (sF μ6 45 a3.toNatClampNeg r7) (fun μ8 => bv (a3 + 1) (fun v9 => ih v9 μ8)))))) n, fun  _ _ => rfl, fun  _ _ _ => rfl⟩
noncomputable def p_X12_buildTask_b84 : Nat → Int32 → Mem → Option Mem := Classical.choose p_X12_buildTask_b84_ex
theorem p_X12_buildTask_b84_z (a3 : Int32) (μ : Mem) : p_X12_buildTask_b84  0 a3 μ = none := (Classical.choose_spec p_X12_buildTask_b84_ex).1  a3 μ
theorem p_X12_buildTask_b84_s (n : Nat) (a3 : Int32) (μ : Mem) : p_X12_buildTask_b84  (n + 1) a3 μ = (if (μ.1 0 43) ≤ a3 then some μ else bd (p_X12_unbuild μ) (fun r7 μ6 => gd (inb a3 5) (bv (sF μ6 45 a3.toNatClampNeg r7) (fun μ8 => bv (a3 + 1) (fun v9 => p_X12_buildTask_b84  n v9 μ8))))) := (Classical.choose_spec p_X12_buildTask_b84_ex).2  n a3 μ
set_option maxHeartbeats 4000000 in
set_option maxRecDepth 100000 in
theorem t_X12_buildTask_b84 (l : Launch) (G : Gt) (ad : Nat → Nat) (av : List Value) {μz : Mem} : ∀ (n : Nat) (a3 : Int32) (μ : Mem), p_X12_buildTask_b84  n a3 μ = some μz → Bk l cX12_buildTask 4 RX12 none ({ frames := 3, cells := 0, slots := 0, locals := 68 } : Room) G av (eV 1 G ad μz) (wd 1 G ad μ) 84 [(0, .ref (ad 0)), (3, .int a3)] [] := by
  intro n
  induction n with
  | zero => intro a3 μ h; rw [p_X12_buildTask_b84_z] at h; cases h
  | succ n ih =>
    intro a3 μ h p e s m below meth c A ls H locs cx hr hlk hA hl hw
    have hx := cx.1
    have hb := cx.2.1
    rw [p_X12_buildTask_b84_s] at h
    refine lv_iload_n hx hb dX12_buildTask_84 rfl (lv_at hl 1 rfl) ?_
    refine lv_aload_n hx hb dX12_buildTask_85 rfl (lv_at hl 0 rfl) ?_
    refine g_get cx hw inX12 (ci := 11) rfl 43 (by decide) rfl (v := .int (μ.1 0 43)) shm_0 rfl fl_X12_503 dX12_buildTask_86 ?_
    refine lv_icmp_ge (tgt := 108) hx hb dX12_buildTask_89 (by decide) (fun c5 => ?_) (fun c5 => ?_)
    · rw [if_pos c5] at h
      exact g_vret cx hr hlk hw h dX12_buildTask_108
    · rw [if_neg c5] at h
      refine lv_aload_n hx hb dX12_buildTask_92 rfl (lv_at hl 0 rfl) ?_
      refine g_get cx hw inX12 (ci := 11) rfl 74 (by decide) rfl (v := .ref (ad 45)) shm_0 rfl fl_X12_151 dX12_buildTask_93 ?_
      refine lv_iload_n hx hb dX12_buildTask_96 rfl (lv_at hl 1 rfl) ?_
      refine lv_aload_n hx hb dX12_buildTask_97 rfl (lv_at hl 0 rfl) ?_
      obtain ⟨r7, μ6, gr7, h⟩ := bd_some h
      refine g_callVI (As := []) (rest := [.int a3, .ref (ad 45)]) cx hw hA (t_X12_unbuild l G ad μ gr7) shm_0 rfl ml_X12_536 im_X12_unbuild se_X12_unbuild in_X12 co_X12_unbuild rfl hd_X12_unbuild rfl ⟨(Nat.le_of_ble_eq_true rfl), (Nat.le_of_ble_eq_true rfl)⟩ hl.1 rfl (Nat.le_of_ble_eq_true rfl) dX12_buildTask_98 ⟨rfl, rfl⟩ (fun H locs hw => ?_)
      refine g_iast cx hw shm_45 h dX12_buildTask_101 (fun μ8 H locs h hw => ?_)
      obtain ⟨v9, ev9, h⟩ := bv_ex h
      refine lv_iinc (v := v9) (lv' := [(3, .int v9), (0, .ref (ad 0))]) hx hb dX12_buildTask_102 hl (k := 1) rfl (by rw [ev9]; rfl) (by decide) rfl (fun ls hl => ?_)
      refine lv_goto (tgt := 84) hx hb dX12_buildTask_105 (by decide) ?_
      exact ih v9 μ8 h p e s m below meth c A ls H locs cx hr hlk hA (lv_sub hl [1, 0] rfl) hw
theorem p_X12_buildTask_b76_ex : ∃ f : (Int32 → Int32 → Int32 → Mem → Option Mem) → Int32 → Int32 → Int32 → Mem → Option Mem, ∀ (K17 : Int32 → Int32 → Int32 → Mem → Option Mem) (a1 : Int32) (a2 : Int32) (a3 : Int32) (μ : Mem), f K17 a1 a2 a3 μ = bv (a3 + (-1)) (fun v17 => K17 a1 a2 v17 μ) := ⟨fun (K17 : Int32 → Int32 → Int32 → Mem → Option Mem) (a1 : Int32) (a2 : Int32) (a3 : Int32) (μ : Mem) => bv (a3 + (-1)) (fun v17 => K17 a1 a2 v17 μ), fun _ _ _ _ _ => rfl⟩
noncomputable def p_X12_buildTask_b76 : (Int32 → Int32 → Int32 → Mem → Option Mem) → Int32 → Int32 → Int32 → Mem → Option Mem := Classical.choose p_X12_buildTask_b76_ex
theorem p_X12_buildTask_b76_eq (K17 : Int32 → Int32 → Int32 → Mem → Option Mem) (a1 : Int32) (a2 : Int32) (a3 : Int32) (μ : Mem) : p_X12_buildTask_b76 K17 a1 a2 a3 μ = bv (a3 + (-1)) (fun v17 => K17 a1 a2 v17 μ) := Classical.choose_spec p_X12_buildTask_b76_ex K17 a1 a2 a3 μ
set_option maxHeartbeats 4000000 in
set_option maxRecDepth 100000 in
theorem t_X12_buildTask_b76 (l : Launch) (G : Gt) (ad : Nat → Nat) (av : List Value) {μz : Mem} (K17 : Int32 → Int32 → Int32 → Mem → Option Mem) (hK17 : ∀ (z1 : Int32) (z2 : Int32) (z3 : Int32) (μ1 : Mem), K17 z1 z2 z3 μ1 = some μz → Bk l cX12_buildTask 4 RX12 none ({ frames := 3, cells := 0, slots := 0, locals := 68 } : Room) G av (eV 1 G ad μz) (wd 1 G ad μ1) 17 [(0, .ref (ad 0)), (1, .int z1), (2, .int z2), (3, .int z3)] []) (a1 : Int32) (a2 : Int32) (a3 : Int32) (μ : Mem) (h : p_X12_buildTask_b76 K17 a1 a2 a3 μ = some μz) : Bk l cX12_buildTask 4 RX12 none ({ frames := 3, cells := 0, slots := 0, locals := 68 } : Room) G av (eV 1 G ad μz) (wd 1 G ad μ) 76 [(0, .ref (ad 0)), (1, .int a1), (2, .int a2), (3, .int a3)] [] := by
  intro p e s m below meth c A ls H locs cx hr hlk hA hl hw
  have hx := cx.1
  have hb := cx.2.1
  rw [p_X12_buildTask_b76_eq] at h
  obtain ⟨v17, ev17, h⟩ := bv_ex h
  refine lv_iinc (v := v17) (lv' := [(3, .int v17), (0, .ref (ad 0)), (1, .int a1), (2, .int a2)]) hx hb dX12_buildTask_76 hl (k := 3) rfl (by rw [ev17]; rfl) (by decide) rfl (fun ls hl => ?_)
  refine lv_goto (tgt := 17) hx hb dX12_buildTask_79 (by decide) ?_
  exact hK17 a1 a2 v17 μ h p e s m below meth c A ls H locs cx hr hlk hA (lv_sub hl [1, 2, 3, 0] rfl) hw
theorem p_X12_buildTask_b73_ex : ∃ f : (Int32 → Int32 → Int32 → Mem → Option Mem) → Int32 → Int32 → Int32 → Int32 → Mem → Option Mem, ∀ (K17 : Int32 → Int32 → Int32 → Mem → Option Mem) (a1 : Int32) (a2 : Int32) (a3 : Int32) (k0 : Int32) (μ : Mem), f K17 a1 a2 a3 k0 μ = bw (p_X12_build k0 μ) (fun μ15 => p_X12_buildTask_b76 K17 a1 a2 a3 μ15) := ⟨fun (K17 : Int32 → Int32 → Int32 → Mem → Option Mem) (a1 : Int32) (a2 : Int32) (a3 : Int32) (k0 : Int32) (μ : Mem) => bw (p_X12_build k0 μ) (fun μ15 => p_X12_buildTask_b76 K17 a1 a2 a3 μ15), fun _ _ _ _ _ _ => rfl⟩
noncomputable def p_X12_buildTask_b73 : (Int32 → Int32 → Int32 → Mem → Option Mem) → Int32 → Int32 → Int32 → Int32 → Mem → Option Mem := Classical.choose p_X12_buildTask_b73_ex
theorem p_X12_buildTask_b73_eq (K17 : Int32 → Int32 → Int32 → Mem → Option Mem) (a1 : Int32) (a2 : Int32) (a3 : Int32) (k0 : Int32) (μ : Mem) : p_X12_buildTask_b73 K17 a1 a2 a3 k0 μ = bw (p_X12_build k0 μ) (fun μ15 => p_X12_buildTask_b76 K17 a1 a2 a3 μ15) := Classical.choose_spec p_X12_buildTask_b73_ex K17 a1 a2 a3 k0 μ
set_option maxHeartbeats 4000000 in
set_option maxRecDepth 100000 in
theorem t_X12_buildTask_b73 (l : Launch) (G : Gt) (ad : Nat → Nat) (av : List Value) {μz : Mem} (K17 : Int32 → Int32 → Int32 → Mem → Option Mem) (hK17 : ∀ (z1 : Int32) (z2 : Int32) (z3 : Int32) (μ1 : Mem), K17 z1 z2 z3 μ1 = some μz → Bk l cX12_buildTask 4 RX12 none ({ frames := 3, cells := 0, slots := 0, locals := 68 } : Room) G av (eV 1 G ad μz) (wd 1 G ad μ1) 17 [(0, .ref (ad 0)), (1, .int z1), (2, .int z2), (3, .int z3)] []) (a1 : Int32) (a2 : Int32) (a3 : Int32) (k0 : Int32) (μ : Mem) (h : p_X12_buildTask_b73 K17 a1 a2 a3 k0 μ = some μz) : Bk l cX12_buildTask 4 RX12 none ({ frames := 3, cells := 0, slots := 0, locals := 68 } : Room) G av (eV 1 G ad μz) (wd 1 G ad μ) 73 [(0, .ref (ad 0)), (1, .int a1), (2, .int a2), (3, .int a3)] [.int k0, .ref (ad 0)] := by
  intro p e s m below meth c A ls H locs cx hr hlk hA hl hw
  have hx := cx.1
  have hb := cx.2.1
  rw [p_X12_buildTask_b73_eq] at h
  obtain ⟨μ15, gμ15, h⟩ := bw_some h
  refine g_callVV (As := [.int k0]) (rest := []) cx hw hA (t_X12_build l G ad k0 μ gμ15) shm_0 rfl ml_X12_533 im_X12_build se_X12_build in_X12 co_X12_build rfl hd_X12_build rfl ⟨(Nat.le_of_ble_eq_true rfl), (Nat.le_of_ble_eq_true rfl)⟩ hl.1 rfl (Nat.le_of_ble_eq_true rfl) dX12_buildTask_73 ⟨rfl, rfl⟩ (fun H locs hw => ?_)
  exact t_X12_buildTask_b76 l G ad av K17 hK17 a1 a2 a3 μ15 h p e s m below meth c A ls H locs cx hr hlk hA (lv_sub hl [0, 1, 2, 3] rfl) hw
theorem p_X12_buildTask_b17_ex : ∃ f : Nat → Int32 → Int32 → Int32 → Mem → Option Mem, (∀ (a1 : Int32) (a2 : Int32) (a3 : Int32) (μ : Mem), f  0 a1 a2 a3 μ = none) ∧ (∀ (n : Nat) (a1 : Int32) (a2 : Int32) (a3 : Int32) (μ : Mem), f  (n + 1) a1 a2 a3 μ = (if a3 < (0 : Int32) then p_X12_buildTask_b84  FUEL (0 : Int32) μ else gd (inb a3 30) ((if (μ.1 25 a3.toNatClampNeg) = (3 : Int32) then bv (a2 + (-1)) (fun v11 => (if a1 = (0 : Int32) then bd (p_X12_node (3 : Int32) v11 μ) (fun r14 μ13 => p_X12_buildTask_b73 (f n) a1 v11 a3 r14 μ13) else gd (inb v11 8) (p_X12_buildTask_b73 (f n) a1 v11 a3 (μ.1 36 v11.toNatClampNeg) μ))) else gd (inb a3 30) (gd (inb a3 30) (bw (p_X12_buildOne (μ.1 25 a3.toNatClampNeg) (μ.1 26 a3.toNatClampNeg) μ) (fun μ18 => p_X12_buildTask_b76 (f n) a1 a2 a3 μ18))))))) := ⟨fun n => Nat.rec (fun (a1 : Int32) (a2 : Int32) (a3 : Int32) (μ : Mem) => none) (fun _ ih => fun (a1 : Int32) (a2 : Int32) (a3 : Int32) (μ : Mem) => (if a3 < (0 : Int32) then p_X12_buildTask_b84  FUEL (0 : Int32) μ else gd (inb a3 30) ((if (μ.1 25 a3.toNatClampNeg) = (3 : Int32) then bv (a2 + (-1)) (fun v11 => (if a1 = (0 : Int32) then bd (p_X12_node (3 : Int32) v11 μ) (fun r14 μ13 => p_X12_buildTask_b73 (ih) a1 v11 a3 r14 μ13) else gd (inb v11 8) (p_X12_buildTask_b73 (ih) a1 v11 a3 (μ.1 36 v11.toNatClampNeg) μ))) else gd (inb a3 30) (gd (inb a3 30) (bw (p_X12_buildOne (μ.1 25 a3.toNatClampNeg) (μ.1 26 a3.toNatClampNeg) μ) (fun μ18 => p_X12_buildTask_b76 (ih) a1 a2 a3 μ18))))))) n, fun  _ _ _ _ => rfl, fun  _ _ _ _ _ => rfl⟩
noncomputable def p_X12_buildTask_b17 : Nat → Int32 → Int32 → Int32 → Mem → Option Mem := Classical.choose p_X12_buildTask_b17_ex
theorem p_X12_buildTask_b17_z (a1 : Int32) (a2 : Int32) (a3 : Int32) (μ : Mem) : p_X12_buildTask_b17  0 a1 a2 a3 μ = none := (Classical.choose_spec p_X12_buildTask_b17_ex).1  a1 a2 a3 μ
theorem p_X12_buildTask_b17_s (n : Nat) (a1 : Int32) (a2 : Int32) (a3 : Int32) (μ : Mem) : p_X12_buildTask_b17  (n + 1) a1 a2 a3 μ = (if a3 < (0 : Int32) then p_X12_buildTask_b84  FUEL (0 : Int32) μ else gd (inb a3 30) ((if (μ.1 25 a3.toNatClampNeg) = (3 : Int32) then bv (a2 + (-1)) (fun v11 => (if a1 = (0 : Int32) then bd (p_X12_node (3 : Int32) v11 μ) (fun r14 μ13 => p_X12_buildTask_b73 (p_X12_buildTask_b17  n) a1 v11 a3 r14 μ13) else gd (inb v11 8) (p_X12_buildTask_b73 (p_X12_buildTask_b17  n) a1 v11 a3 (μ.1 36 v11.toNatClampNeg) μ))) else gd (inb a3 30) (gd (inb a3 30) (bw (p_X12_buildOne (μ.1 25 a3.toNatClampNeg) (μ.1 26 a3.toNatClampNeg) μ) (fun μ18 => p_X12_buildTask_b76 (p_X12_buildTask_b17  n) a1 a2 a3 μ18)))))) := (Classical.choose_spec p_X12_buildTask_b17_ex).2  n a1 a2 a3 μ
set_option maxHeartbeats 4000000 in
set_option maxRecDepth 100000 in
theorem t_X12_buildTask_b17 (l : Launch) (G : Gt) (ad : Nat → Nat) (av : List Value) {μz : Mem} : ∀ (n : Nat) (a1 : Int32) (a2 : Int32) (a3 : Int32) (μ : Mem), p_X12_buildTask_b17  n a1 a2 a3 μ = some μz → Bk l cX12_buildTask 4 RX12 none ({ frames := 3, cells := 0, slots := 0, locals := 68 } : Room) G av (eV 1 G ad μz) (wd 1 G ad μ) 17 [(0, .ref (ad 0)), (1, .int a1), (2, .int a2), (3, .int a3)] [] := by
  intro n
  induction n with
  | zero => intro a1 a2 a3 μ h; rw [p_X12_buildTask_b17_z] at h; cases h
  | succ n ih =>
    intro a1 a2 a3 μ h p e s m below meth c A ls H locs cx hr hlk hA hl hw
    have hx := cx.1
    have hb := cx.2.1
    rw [p_X12_buildTask_b17_s] at h
    refine lv_iload_n hx hb dX12_buildTask_17 rfl (lv_at hl 3 rfl) ?_
    refine lv_if_lt (tgt := 82) hx hb dX12_buildTask_18 (by decide) (fun c4 => ?_) (fun c4 => ?_)
    · rw [if_pos c4] at h
      refine lv_iconst (v := 0) hx hb dX12_buildTask_82 (by decide) ?_
      refine lv_istore_n (lv' := [(3, .int 0), (0, .ref (ad 0)), (1, .int a1), (2, .int a2)]) hx hb dX12_buildTask_83 rfl hl (by decide) rfl (fun ls hl => ?_)
      exact t_X12_buildTask_b84 l G ad av  FUEL (0 : Int32) μ h p e s m below meth c A ls H locs cx hr hlk hA (lv_sub hl [1, 0] rfl) hw
    · rw [if_neg c4] at h
      refine lv_aload_n hx hb dX12_buildTask_21 rfl (lv_at hl 0 rfl) ?_
      refine g_get cx hw inX12 (ci := 11) rfl 38 (by decide) rfl (v := .ref (ad 25)) shm_0 rfl fl_X12_87 dX12_buildTask_22 ?_
      refine lv_iload_n hx hb dX12_buildTask_25 rfl (lv_at hl 3 rfl) ?_
      refine g_iald cx hw shm_25 h dX12_buildTask_26 (fun h => ?_)
      refine lv_iconst (v := 3) hx hb dX12_buildTask_27 (by decide) ?_
      refine lv_icmp_eq (tgt := 50) hx hb dX12_buildTask_28 (by decide) (fun c10 => ?_) (fun c10 => ?_)
      · rw [if_pos c10] at h
        obtain ⟨v11, ev11, h⟩ := bv_ex h
        refine lv_iinc (v := v11) (lv' := [(2, .int v11), (0, .ref (ad 0)), (1, .int a1), (3, .int a3)]) hx hb dX12_buildTask_50 hl (k := 2) rfl (by rw [ev11]; rfl) (by decide) rfl (fun ls hl => ?_)
        refine lv_aload_n hx hb dX12_buildTask_53 rfl (lv_at hl 1 rfl) ?_
        refine lv_iload_n hx hb dX12_buildTask_54 rfl (lv_at hl 2 rfl) ?_
        refine lv_if_eq (tgt := 67) hx hb dX12_buildTask_55 (by decide) (fun c12 => ?_) (fun c12 => ?_)
        · rw [if_pos c12] at h
          refine lv_aload_n hx hb dX12_buildTask_67 rfl (lv_at hl 1 rfl) ?_
          refine lv_iconst (v := 3) hx hb dX12_buildTask_68 (by decide) ?_
          refine lv_iload_n hx hb dX12_buildTask_69 rfl (lv_at hl 0 rfl) ?_
          obtain ⟨r14, μ13, gr14, h⟩ := bd_some h
          refine g_callVI (As := [.int 3, .int v11]) (rest := [.ref (ad 0)]) cx hw hA (t_X12_node l G ad (3 : Int32) v11 μ gr14) shm_0 rfl ml_X12_527 im_X12_node se_X12_node in_X12 co_X12_node rfl hd_X12_node rfl ⟨(Nat.le_of_ble_eq_true rfl), (Nat.le_of_ble_eq_true rfl)⟩ hl.1 rfl (Nat.le_of_ble_eq_true rfl) dX12_buildTask_70 ⟨rfl, rfl⟩ (fun H locs hw => ?_)
          exact t_X12_buildTask_b73 l G ad av _ ih a1 v11 a3 r14 μ13 h p e s m below meth c A ls H locs cx hr hlk hA (lv_sub hl [1, 2, 0, 3] rfl) hw
        · rw [if_neg c12] at h
          refine lv_aload_n hx hb dX12_buildTask_58 rfl (lv_at hl 1 rfl) ?_
          refine g_get cx hw inX12 (ci := 11) rfl 59 (by decide) rfl (v := .ref (ad 36)) shm_0 rfl fl_X12_124 dX12_buildTask_59 ?_
          refine lv_iload_n hx hb dX12_buildTask_62 rfl (lv_at hl 0 rfl) ?_
          refine g_iald cx hw shm_36 h dX12_buildTask_63 (fun h => ?_)
          refine lv_goto (tgt := 73) hx hb dX12_buildTask_64 (by decide) ?_
          exact t_X12_buildTask_b73 l G ad av _ ih a1 v11 a3 (μ.1 36 v11.toNatClampNeg) μ h p e s m below meth c A ls H locs cx hr hlk hA (lv_sub hl [1, 2, 0, 3] rfl) hw
      · rw [if_neg c10] at h
        refine lv_aload_n hx hb dX12_buildTask_31 rfl (lv_at hl 0 rfl) ?_
        refine lv_aload_n hx hb dX12_buildTask_32 rfl (lv_at hl 0 rfl) ?_
        refine g_get cx hw inX12 (ci := 11) rfl 38 (by decide) rfl (v := .ref (ad 25)) shm_0 rfl fl_X12_87 dX12_buildTask_33 ?_
        refine lv_iload_n hx hb dX12_buildTask_36 rfl (lv_at hl 3 rfl) ?_
        refine g_iald cx hw shm_25 h dX12_buildTask_37 (fun h => ?_)
        refine lv_aload_n hx hb dX12_buildTask_38 rfl (lv_at hl 0 rfl) ?_
        refine g_get cx hw inX12 (ci := 11) rfl 39 (by decide) rfl (v := .ref (ad 26)) shm_0 rfl fl_X12_90 dX12_buildTask_39 ?_
        refine lv_iload_n hx hb dX12_buildTask_42 rfl (lv_at hl 3 rfl) ?_
        refine g_iald cx hw shm_26 h dX12_buildTask_43 (fun h => ?_)
        obtain ⟨μ18, gμ18, h⟩ := bw_some h
        refine g_callVV (As := [.int (μ.1 25 a3.toNatClampNeg), .int (μ.1 26 a3.toNatClampNeg)]) (rest := []) cx hw hA (t_X12_buildOne l G ad (μ.1 25 a3.toNatClampNeg) (μ.1 26 a3.toNatClampNeg) μ gμ18) shm_0 rfl ml_X12_542 im_X12_buildOne se_X12_buildOne in_X12 co_X12_buildOne rfl hd_X12_buildOne rfl ⟨(Nat.le_of_ble_eq_true rfl), (Nat.le_of_ble_eq_true rfl)⟩ hl.1 rfl (Nat.le_of_ble_eq_true rfl) dX12_buildTask_44 ⟨rfl, rfl⟩ (fun H locs hw => ?_)
        refine lv_goto (tgt := 76) hx hb dX12_buildTask_47 (by decide) ?_
        exact t_X12_buildTask_b76 l G ad av _ ih a1 a2 a3 μ18 h p e s m below meth c A ls H locs cx hr hlk hA (lv_sub hl [0, 1, 2, 3] rfl) hw
theorem p_X12_buildTask_ex : ∃ f : Int32 → Mem → Option Mem, ∀ (a1 : Int32) (μ : Mem), f a1 μ = bv (μ.1 0 45) (fun v1 => bv (sF μ 0 58 (0 : Int32)) (fun μ2 => bv ((μ2.1 0 44) - (1 : Int32)) (fun v3 => p_X12_buildTask_b17  FUEL a1 v1 v3 μ2))) := ⟨fun (a1 : Int32) (μ : Mem) => bv (μ.1 0 45) (fun v1 => bv (sF μ 0 58 (0 : Int32)) (fun μ2 => bv ((μ2.1 0 44) - (1 : Int32)) (fun v3 => p_X12_buildTask_b17  FUEL a1 v1 v3 μ2))), fun _ _ => rfl⟩
noncomputable def p_X12_buildTask : Int32 → Mem → Option Mem := Classical.choose p_X12_buildTask_ex
theorem p_X12_buildTask_eq (a1 : Int32) (μ : Mem) : p_X12_buildTask a1 μ = bv (μ.1 0 45) (fun v1 => bv (sF μ 0 58 (0 : Int32)) (fun μ2 => bv ((μ2.1 0 44) - (1 : Int32)) (fun v3 => p_X12_buildTask_b17  FUEL a1 v1 v3 μ2))) := Classical.choose_spec p_X12_buildTask_ex a1 μ
set_option maxHeartbeats 4000000 in
set_option maxRecDepth 100000 in
theorem t_X12_buildTask (l : Launch) (G : Gt) (ad : Nat → Nat) (a1 : Int32) (μ : Mem) {μz : Mem} (h : p_X12_buildTask a1 μ = some μz) : Mt l yX12_buildTask cX12_buildTask 4 none ({ frames := 3, cells := 0, slots := 0, locals := 68 } : Room) G [.ref (ad 0), .int a1] (wd 1 G ad μ) (eV 1 G ad μz) := by
  refine Bk.mt (by decide) rfl (Nat.le_of_ble_eq_true rfl) ?_
  intro p e s m below meth c A ls H locs cx hr hlk hA hl hw
  have hx := cx.1
  have hb := cx.2.1
  have hl : lv_has ls 4 [(0, .ref (ad 0)), (1, .int a1)] := hl
  rw [p_X12_buildTask_eq] at h
  refine lv_aload_n hx hb dX12_buildTask_0 rfl (lv_at hl 0 rfl) ?_
  refine g_get cx hw inX12 (ci := 11) rfl 45 (by decide) rfl (v := .int (μ.1 0 45)) shm_0 rfl fl_X12_509 dX12_buildTask_1 ?_
  obtain ⟨v1, ev1, h⟩ := bv_ex h
  refine lv_topi (fun y9 z9 => ?_)
  obtain rfl : v1 = y9 := ev1.trans z9.symm
  refine lv_istore_n (lv' := [(2, .int v1), (0, .ref (ad 0)), (1, .int a1)]) hx hb dX12_buildTask_4 rfl hl (by decide) rfl (fun ls hl => ?_)
  refine lv_aload_n hx hb dX12_buildTask_5 rfl (lv_at hl 1 rfl) ?_
  refine lv_iconst (v := 0) hx hb dX12_buildTask_6 (by decide) ?_
  refine g_put cx hw inX12 (ci := 11) rfl tyX12_ok nmX12 58 (by decide) rfl rfl rfl rfl shm_0 h fl_X12_530 dX12_buildTask_7 (fun μ2 H locs h hw => ?_)
  refine lv_aload_n hx hb dX12_buildTask_10 rfl (lv_at hl 1 rfl) ?_
  refine g_get cx hw inX12 (ci := 11) rfl 44 (by decide) rfl (v := .int (μ2.1 0 44)) shm_0 rfl fl_X12_506 dX12_buildTask_11 ?_
  refine lv_iconst (v := 1) hx hb dX12_buildTask_14 (by decide) ?_
  refine lv_isub hx hb dX12_buildTask_15 ?_
  obtain ⟨v3, ev3, h⟩ := bv_ex h
  refine lv_topi (fun y9 z9 => ?_)
  obtain rfl : v3 = y9 := ev3.trans z9.symm
  refine lv_istore_n (lv' := [(3, .int v3), (2, .int v1), (0, .ref (ad 0)), (1, .int a1)]) hx hb dX12_buildTask_16 rfl hl (by decide) rfl (fun ls hl => ?_)
  exact t_X12_buildTask_b17 l G ad _  FUEL a1 v1 v3 μ2 h p e s m below meth c A ls H locs cx hr hlk hA (lv_sub hl [2, 3, 1, 0] rfl) hw

theorem p_X12_specialiseNow_b92_ex : ∃ f : Nat → Int32 → Mem → Option Mem, (∀ (a3 : Int32) (μ : Mem), f  0 a3 μ = none) ∧ (∀ (n : Nat) (a3 : Int32) (μ : Mem), f  (n + 1) a3 μ = (if (μ.1 0 110) ≤ a3 then some μ else (if (μ.1 0 68) = (0 : Int32) then bv (sF μ 0 56 (0 : Int32)) (fun μ21 => bw (p_X12_makeVariant a3 μ21) (fun μ22 => bv (a3 + 1) (fun v24 => f n v24 μ22))) else some μ))) := ⟨fun n => Nat.rec (fun (a3 : Int32) (μ : Mem) => none) (fun _ ih => fun (a3 : Int32) (μ : Mem) => (if (μ.1 0 110) ≤ a3 then some μ else (if (μ.1 0 68) = (0 : Int32) then bv (sF μ 0 56 (0 : Int32)) (fun μ21 => bw (p_X12_makeVariant a3 μ21) (fun μ22 => bv (a3 + 1) (fun v24 => ih v24 μ22))) else some μ))) n, fun  _ _ => rfl, fun  _ _ _ => rfl⟩
noncomputable def p_X12_specialiseNow_b92 : Nat → Int32 → Mem → Option Mem := Classical.choose p_X12_specialiseNow_b92_ex
theorem p_X12_specialiseNow_b92_z (a3 : Int32) (μ : Mem) : p_X12_specialiseNow_b92  0 a3 μ = none := (Classical.choose_spec p_X12_specialiseNow_b92_ex).1  a3 μ
theorem p_X12_specialiseNow_b92_s (n : Nat) (a3 : Int32) (μ : Mem) : p_X12_specialiseNow_b92  (n + 1) a3 μ = (if (μ.1 0 110) ≤ a3 then some μ else (if (μ.1 0 68) = (0 : Int32) then bv (sF μ 0 56 (0 : Int32)) (fun μ21 => bw (p_X12_makeVariant a3 μ21) (fun μ22 => bv (a3 + 1) (fun v24 => p_X12_specialiseNow_b92  n v24 μ22))) else some μ)) := (Classical.choose_spec p_X12_specialiseNow_b92_ex).2  n a3 μ
set_option maxHeartbeats 4000000 in
set_option maxRecDepth 100000 in
theorem t_X12_specialiseNow_b92 (l : Launch) (G : Gt) (ad : Nat → Nat) (av : List Value) {μz : Mem} : ∀ (n : Nat) (a3 : Int32) (μ : Mem), p_X12_specialiseNow_b92  n a3 μ = some μz → Bk l cX12_specialiseNow 4 RX12 none ({ frames := 13, cells := 0, slots := 0, locals := 299 } : Room) G av (eV 1 G ad μz) (wd 1 G ad μ) 92 [(0, .ref (ad 0)), (3, .int a3)] [] := by
  intro n
  induction n with
  | zero => intro a3 μ h; rw [p_X12_specialiseNow_b92_z] at h; cases h
  | succ n ih =>
    intro a3 μ h p e s m below meth c A ls H locs cx hr hlk hA hl hw
    have hx := cx.1
    have hb := cx.2.1
    rw [p_X12_specialiseNow_b92_s] at h
    refine lv_iload_n hx hb dX12_specialiseNow_92 rfl (lv_at hl 1 rfl) ?_
    refine lv_aload_n hx hb dX12_specialiseNow_93 rfl (lv_at hl 0 rfl) ?_
    refine g_get cx hw inX12 (ci := 11) rfl 110 (by decide) rfl (v := .int (μ.1 0 110)) shm_0 rfl fl_X12_724 dX12_specialiseNow_94 ?_
    refine lv_icmp_ge (tgt := 123) hx hb dX12_specialiseNow_97 (by decide) (fun c19 => ?_) (fun c19 => ?_)
    · rw [if_pos c19] at h
      exact g_vret cx hr hlk hw h dX12_specialiseNow_123
    · rw [if_neg c19] at h
      refine lv_aload_n hx hb dX12_specialiseNow_100 rfl (lv_at hl 0 rfl) ?_
      refine g_get cx hw inX12 (ci := 11) rfl 68 (by decide) rfl (v := .int (μ.1 0 68)) shm_0 rfl fl_X12_557 dX12_specialiseNow_101 ?_
      refine lv_if_ne (tgt := 123) hx hb dX12_specialiseNow_104 (by decide) (fun c20 => ?_) (fun c20 => ?_)
      · rw [if_neg c20] at h
        exact g_vret cx hr hlk hw h dX12_specialiseNow_123
      · rw [if_pos c20] at h
        refine lv_aload_n hx hb dX12_specialiseNow_107 rfl (lv_at hl 0 rfl) ?_
        refine lv_iconst (v := 0) hx hb dX12_specialiseNow_108 (by decide) ?_
        refine g_put cx hw inX12 (ci := 11) rfl tyX12_ok nmX12 56 (by decide) rfl rfl rfl rfl shm_0 h fl_X12_524 dX12_specialiseNow_109 (fun μ21 H locs h hw => ?_)
        refine lv_aload_n hx hb dX12_specialiseNow_112 rfl (lv_at hl 0 rfl) ?_
        refine lv_iload_n hx hb dX12_specialiseNow_113 rfl (lv_at hl 1 rfl) ?_
        obtain ⟨μ22, gμ22, h⟩ := bw_some h
        refine g_callVV (As := [.int a3]) (rest := []) cx hw hA (t_X12_makeVariant l G ad a3 μ21 gμ22) shm_0 rfl ml_X12_773 im_X12_makeVariant se_X12_makeVariant in_X12 co_X12_makeVariant rfl hd_X12_makeVariant rfl ⟨(Nat.le_of_ble_eq_true rfl), (Nat.le_of_ble_eq_true rfl)⟩ hl.1 rfl (Nat.le_of_ble_eq_true rfl) dX12_specialiseNow_114 ⟨rfl, rfl⟩ (fun H locs hw => ?_)
        obtain ⟨v24, ev24, h⟩ := bv_ex h
        refine lv_iinc (v := v24) (lv' := [(3, .int v24), (0, .ref (ad 0))]) hx hb dX12_specialiseNow_117 hl (k := 1) rfl (by rw [ev24]; rfl) (by decide) rfl (fun ls hl => ?_)
        refine lv_goto (tgt := 92) hx hb dX12_specialiseNow_120 (by decide) ?_
        exact ih v24 μ22 h p e s m below meth c A ls H locs cx hr hlk hA (lv_sub hl [1, 0] rfl) hw
theorem p_X12_specialiseNow_ex : ∃ f : Mem → Option Mem, ∀  (μ : Mem), f  μ = bv (sF μ 0 56 (0 : Int32)) (fun μ1 => bv (sF μ1 0 68 (0 : Int32)) (fun μ2 => bv (sF μ2 0 87 (0 : Int32)) (fun μ3 => bv (sF μ3 0 88 (0 : Int32)) (fun μ4 => bv (sF μ4 0 89 (0 : Int32)) (fun μ5 => bv (sF μ5 0 91 (0 : Int32)) (fun μ6 => bv (sF μ6 0 110 (0 : Int32)) (fun μ7 => bv (sF μ7 0 96 (0 : Int32)) (fun μ8 => bv (sF μ8 0 97 (0 : Int32)) (fun μ9 => bd (p_X12_functionOf (μ9.1 0 42) (μ9.1 0 43) μ9) (fun r11 μ10 => (if r11 = (-1 : Int32) then bv (sF μ10 0 68 (-6 : Int32)) (fun μ25 => some μ25) else bw (p_X12_buildTask (0 : Int32) μ10) (fun μ13 => bw (p_X12_layMade (μ13.1 0 43) μ13) (fun μ15 => bd (p_X12_newVariant r11 (-1 : Int32) μ15) (fun r18 μ17 => p_X12_specialiseNow_b92  FUEL (0 : Int32) μ17)))))))))))))) := ⟨fun  (μ : Mem) => bv (sF μ 0 56 (0 : Int32)) (fun μ1 => bv (sF μ1 0 68 (0 : Int32)) (fun μ2 => bv (sF μ2 0 87 (0 : Int32)) (fun μ3 => bv (sF μ3 0 88 (0 : Int32)) (fun μ4 => bv (sF μ4 0 89 (0 : Int32)) (fun μ5 => bv (sF μ5 0 91 (0 : Int32)) (fun μ6 => bv (sF μ6 0 110 (0 : Int32)) (fun μ7 => bv (sF μ7 0 96 (0 : Int32)) (fun μ8 => bv (sF μ8 0 97 (0 : Int32)) (fun μ9 => bd (p_X12_functionOf (μ9.1 0 42) (μ9.1 0 43) μ9) (fun r11 μ10 => (if r11 = (-1 : Int32) then bv (sF μ10 0 68 (-6 : Int32)) (fun μ25 => some μ25) else bw (p_X12_buildTask (0 : Int32) μ10) (fun μ13 => bw (p_X12_layMade (μ13.1 0 43) μ13) (fun μ15 => bd (p_X12_newVariant r11 (-1 : Int32) μ15) (fun r18 μ17 => p_X12_specialiseNow_b92  FUEL (0 : Int32) μ17)))))))))))))), fun _ => rfl⟩
noncomputable def p_X12_specialiseNow : Mem → Option Mem := Classical.choose p_X12_specialiseNow_ex
theorem p_X12_specialiseNow_eq  (μ : Mem) : p_X12_specialiseNow  μ = bv (sF μ 0 56 (0 : Int32)) (fun μ1 => bv (sF μ1 0 68 (0 : Int32)) (fun μ2 => bv (sF μ2 0 87 (0 : Int32)) (fun μ3 => bv (sF μ3 0 88 (0 : Int32)) (fun μ4 => bv (sF μ4 0 89 (0 : Int32)) (fun μ5 => bv (sF μ5 0 91 (0 : Int32)) (fun μ6 => bv (sF μ6 0 110 (0 : Int32)) (fun μ7 => bv (sF μ7 0 96 (0 : Int32)) (fun μ8 => bv (sF μ8 0 97 (0 : Int32)) (fun μ9 => bd (p_X12_functionOf (μ9.1 0 42) (μ9.1 0 43) μ9) (fun r11 μ10 => (if r11 = (-1 : Int32) then bv (sF μ10 0 68 (-6 : Int32)) (fun μ25 => some μ25) else bw (p_X12_buildTask (0 : Int32) μ10) (fun μ13 => bw (p_X12_layMade (μ13.1 0 43) μ13) (fun μ15 => bd (p_X12_newVariant r11 (-1 : Int32) μ15) (fun r18 μ17 => p_X12_specialiseNow_b92  FUEL (0 : Int32) μ17)))))))))))))) := Classical.choose_spec p_X12_specialiseNow_ex  μ
set_option maxHeartbeats 4000000 in
set_option maxRecDepth 100000 in
theorem t_X12_specialiseNow (l : Launch) (G : Gt) (ad : Nat → Nat)  (μ : Mem) {μz : Mem} (h : p_X12_specialiseNow  μ = some μz) : Mt l yX12_specialiseNow cX12_specialiseNow 4 none ({ frames := 13, cells := 0, slots := 0, locals := 299 } : Room) G [.ref (ad 0)] (wd 1 G ad μ) (eV 1 G ad μz) := by
  refine Bk.mt (by decide) rfl (Nat.le_of_ble_eq_true rfl) ?_
  intro p e s m below meth c A ls H locs cx hr hlk hA hl hw
  have hx := cx.1
  have hb := cx.2.1
  have hl : lv_has ls 4 [(0, .ref (ad 0))] := hl
  rw [p_X12_specialiseNow_eq] at h
  refine lv_aload_n hx hb dX12_specialiseNow_0 rfl (lv_at hl 0 rfl) ?_
  refine lv_iconst (v := 0) hx hb dX12_specialiseNow_1 (by decide) ?_
  refine g_put cx hw inX12 (ci := 11) rfl tyX12_ok nmX12 56 (by decide) rfl rfl rfl rfl shm_0 h fl_X12_524 dX12_specialiseNow_2 (fun μ1 H locs h hw => ?_)
  refine lv_aload_n hx hb dX12_specialiseNow_5 rfl (lv_at hl 0 rfl) ?_
  refine lv_iconst (v := 0) hx hb dX12_specialiseNow_6 (by decide) ?_
  refine g_put cx hw inX12 (ci := 11) rfl tyX12_ok nmX12 68 (by decide) rfl rfl rfl rfl shm_0 h fl_X12_557 dX12_specialiseNow_7 (fun μ2 H locs h hw => ?_)
  refine lv_aload_n hx hb dX12_specialiseNow_10 rfl (lv_at hl 0 rfl) ?_
  refine lv_iconst (v := 0) hx hb dX12_specialiseNow_11 (by decide) ?_
  refine g_put cx hw inX12 (ci := 11) rfl tyX12_ok nmX12 87 (by decide) rfl rfl rfl rfl shm_0 h fl_X12_682 dX12_specialiseNow_12 (fun μ3 H locs h hw => ?_)
  refine lv_aload_n hx hb dX12_specialiseNow_15 rfl (lv_at hl 0 rfl) ?_
  refine lv_iconst (v := 0) hx hb dX12_specialiseNow_16 (by decide) ?_
  refine g_put cx hw inX12 (ci := 11) rfl tyX12_ok nmX12 88 (by decide) rfl rfl rfl rfl shm_0 h fl_X12_685 dX12_specialiseNow_17 (fun μ4 H locs h hw => ?_)
  refine lv_aload_n hx hb dX12_specialiseNow_20 rfl (lv_at hl 0 rfl) ?_
  refine lv_iconst (v := 0) hx hb dX12_specialiseNow_21 (by decide) ?_
  refine g_put cx hw inX12 (ci := 11) rfl tyX12_ok nmX12 89 (by decide) rfl rfl rfl rfl shm_0 h fl_X12_688 dX12_specialiseNow_22 (fun μ5 H locs h hw => ?_)
  refine lv_aload_n hx hb dX12_specialiseNow_25 rfl (lv_at hl 0 rfl) ?_
  refine lv_iconst (v := 0) hx hb dX12_specialiseNow_26 (by decide) ?_
  refine g_put cx hw inX12 (ci := 11) rfl tyX12_ok nmX12 91 (by decide) rfl rfl rfl rfl shm_0 h fl_X12_733 dX12_specialiseNow_27 (fun μ6 H locs h hw => ?_)
  refine lv_aload_n hx hb dX12_specialiseNow_30 rfl (lv_at hl 0 rfl) ?_
  refine lv_iconst (v := 0) hx hb dX12_specialiseNow_31 (by decide) ?_
  refine g_put cx hw inX12 (ci := 11) rfl tyX12_ok nmX12 110 (by decide) rfl rfl rfl rfl shm_0 h fl_X12_724 dX12_specialiseNow_32 (fun μ7 H locs h hw => ?_)
  refine lv_aload_n hx hb dX12_specialiseNow_35 rfl (lv_at hl 0 rfl) ?_
  refine lv_iconst (v := 0) hx hb dX12_specialiseNow_36 (by decide) ?_
  refine g_put cx hw inX12 (ci := 11) rfl tyX12_ok nmX12 96 (by decide) rfl rfl rfl rfl shm_0 h fl_X12_717 dX12_specialiseNow_37 (fun μ8 H locs h hw => ?_)
  refine lv_aload_n hx hb dX12_specialiseNow_40 rfl (lv_at hl 0 rfl) ?_
  refine lv_iconst (v := 0) hx hb dX12_specialiseNow_41 (by decide) ?_
  refine g_put cx hw inX12 (ci := 11) rfl tyX12_ok nmX12 97 (by decide) rfl rfl rfl rfl shm_0 h fl_X12_757 dX12_specialiseNow_42 (fun μ9 H locs h hw => ?_)
  refine lv_aload_n hx hb dX12_specialiseNow_45 rfl (lv_at hl 0 rfl) ?_
  refine lv_aload_n hx hb dX12_specialiseNow_46 rfl (lv_at hl 0 rfl) ?_
  refine g_get cx hw inX12 (ci := 11) rfl 42 (by decide) rfl (v := .int (μ9.1 0 42)) shm_0 rfl fl_X12_99 dX12_specialiseNow_47 ?_
  refine lv_aload_n hx hb dX12_specialiseNow_50 rfl (lv_at hl 0 rfl) ?_
  refine g_get cx hw inX12 (ci := 11) rfl 43 (by decide) rfl (v := .int (μ9.1 0 43)) shm_0 rfl fl_X12_503 dX12_specialiseNow_51 ?_
  obtain ⟨r11, μ10, gr11, h⟩ := bd_some h
  refine g_callVI (As := [.int (μ9.1 0 42), .int (μ9.1 0 43)]) (rest := []) cx hw hA (t_X12_functionOf l G ad (μ9.1 0 42) (μ9.1 0 43) μ9 gr11) shm_0 rfl ml_X12_667 im_X12_functionOf se_X12_functionOf in_X12 co_X12_functionOf rfl hd_X12_functionOf rfl ⟨(Nat.le_of_ble_eq_true rfl), (Nat.le_of_ble_eq_true rfl)⟩ hl.1 rfl (Nat.le_of_ble_eq_true rfl) dX12_specialiseNow_54 ⟨rfl, rfl⟩ (fun H locs hw => ?_)
  refine lv_istore_n (lv' := [(1, .int r11), (0, .ref (ad 0))]) hx hb dX12_specialiseNow_57 rfl hl (by decide) rfl (fun ls hl => ?_)
  refine lv_iload_n hx hb dX12_specialiseNow_58 rfl (lv_at hl 0 rfl) ?_
  refine lv_iconst (v := (-1)) hx hb dX12_specialiseNow_59 (by decide) ?_
  refine lv_icmp_ne (tgt := 70) hx hb dX12_specialiseNow_60 (by decide) (fun c12 => ?_) (fun c12 => ?_)
  · rw [if_neg c12] at h
    refine lv_aload_n hx hb dX12_specialiseNow_70 rfl (lv_at hl 1 rfl) ?_
    refine lv_iconst (v := 0) hx hb dX12_specialiseNow_71 (by decide) ?_
    obtain ⟨μ13, gμ13, h⟩ := bw_some h
    refine g_callVV (As := [.int 0]) (rest := []) cx hw hA (t_X12_buildTask l G ad (0 : Int32) μ10 gμ13) shm_0 rfl ml_X12_770 im_X12_buildTask se_X12_buildTask in_X12 co_X12_buildTask rfl hd_X12_buildTask rfl ⟨(Nat.le_of_ble_eq_true rfl), (Nat.le_of_ble_eq_true rfl)⟩ hl.1 rfl (Nat.le_of_ble_eq_true rfl) dX12_specialiseNow_72 ⟨rfl, rfl⟩ (fun H locs hw => ?_)
    refine lv_aload_n hx hb dX12_specialiseNow_75 rfl (lv_at hl 1 rfl) ?_
    refine lv_aload_n hx hb dX12_specialiseNow_76 rfl (lv_at hl 1 rfl) ?_
    refine g_get cx hw inX12 (ci := 11) rfl 43 (by decide) rfl (v := .int (μ13.1 0 43)) shm_0 rfl fl_X12_503 dX12_specialiseNow_77 ?_
    obtain ⟨μ15, gμ15, h⟩ := bw_some h
    refine g_callVV (As := [.int (μ13.1 0 43)]) (rest := []) cx hw hA (t_X12_layMade l G ad (μ13.1 0 43) μ13 gμ15) shm_0 rfl ml_X12_739 im_X12_layMade se_X12_layMade in_X12 co_X12_layMade rfl hd_X12_layMade rfl ⟨(Nat.le_of_ble_eq_true rfl), (Nat.le_of_ble_eq_true rfl)⟩ hl.1 rfl (Nat.le_of_ble_eq_true rfl) dX12_specialiseNow_80 ⟨rfl, rfl⟩ (fun H locs hw => ?_)
    refine lv_aload_n hx hb dX12_specialiseNow_83 rfl (lv_at hl 1 rfl) ?_
    refine lv_iload_n hx hb dX12_specialiseNow_84 rfl (lv_at hl 0 rfl) ?_
    refine lv_iconst (v := (-1)) hx hb dX12_specialiseNow_85 (by decide) ?_
    obtain ⟨r18, μ17, gr18, h⟩ := bd_some h
    refine g_callVI (As := [.int r11, .int (-1)]) (rest := []) cx hw hA (t_X12_newVariant l G ad r11 (-1 : Int32) μ15 gr18) shm_0 rfl ml_X12_760 im_X12_newVariant se_X12_newVariant in_X12 co_X12_newVariant rfl hd_X12_newVariant rfl ⟨(Nat.le_of_ble_eq_true rfl), (Nat.le_of_ble_eq_true rfl)⟩ hl.1 rfl (Nat.le_of_ble_eq_true rfl) dX12_specialiseNow_86 ⟨rfl, rfl⟩ (fun H locs hw => ?_)
    refine lv_istore_n (lv' := [(2, .int r18), (1, .int r11), (0, .ref (ad 0))]) hx hb dX12_specialiseNow_89 rfl hl (by decide) rfl (fun ls hl => ?_)
    refine lv_iconst (v := 0) hx hb dX12_specialiseNow_90 (by decide) ?_
    refine lv_istore_n (lv' := [(3, .int 0), (2, .int r18), (1, .int r11), (0, .ref (ad 0))]) hx hb dX12_specialiseNow_91 rfl hl (by decide) rfl (fun ls hl => ?_)
    exact t_X12_specialiseNow_b92 l G ad _  FUEL (0 : Int32) μ17 h p e s m below meth c A ls H locs cx hr hlk hA (lv_sub hl [3, 0] rfl) hw
  · rw [if_pos c12] at h
    refine lv_aload_n hx hb dX12_specialiseNow_63 rfl (lv_at hl 1 rfl) ?_
    refine lv_bipush (v := (-6)) hx hb dX12_specialiseNow_64 (by decide) ?_
    refine g_put cx hw inX12 (ci := 11) rfl tyX12_ok nmX12 68 (by decide) rfl rfl rfl rfl shm_0 h fl_X12_557 dX12_specialiseNow_66 (fun μ25 H locs h hw => ?_)
    exact g_vret cx hr hlk hw h dX12_specialiseNow_69

theorem p_X12_specialise_b17_ex : ∃ f : Int32 → Mem → Option (Int32 × Mem), ∀ (k0 : Int32) (μ : Mem), f k0 μ = gd (isB k0) (bv (sF μ 0 95 k0) (fun μ4 => (if (μ4.1 0 95) = (0 : Int32) then some ((μ4.1 0 68), μ4) else some ((μ4.1 0 110), μ4)))) := ⟨fun (k0 : Int32) (μ : Mem) => gd (isB k0) (bv (sF μ 0 95 k0) (fun μ4 => (if (μ4.1 0 95) = (0 : Int32) then some ((μ4.1 0 68), μ4) else some ((μ4.1 0 110), μ4)))), fun _ _ => rfl⟩
noncomputable def p_X12_specialise_b17 : Int32 → Mem → Option (Int32 × Mem) := Classical.choose p_X12_specialise_b17_ex
theorem p_X12_specialise_b17_eq (k0 : Int32) (μ : Mem) : p_X12_specialise_b17 k0 μ = gd (isB k0) (bv (sF μ 0 95 k0) (fun μ4 => (if (μ4.1 0 95) = (0 : Int32) then some ((μ4.1 0 68), μ4) else some ((μ4.1 0 110), μ4)))) := Classical.choose_spec p_X12_specialise_b17_ex k0 μ
set_option maxHeartbeats 4000000 in
set_option maxRecDepth 100000 in
theorem t_X12_specialise_b17 (l : Launch) (G : Gt) (ad : Nat → Nat) (av : List Value) {r : Int32} {μz : Mem} (k0 : Int32) (μ : Mem) (h : p_X12_specialise_b17  k0 μ = some (r, μz)) : Bk l cX12_specialise 1 RX12 (some .int) ({ frames := 14, cells := 0, slots := 0, locals := 322 } : Room) G av (eI 1 G ad r μz) (wd 1 G ad μ) 17 [(0, .ref (ad 0))] [.int k0, .ref (ad 0)] := by
  intro p e s m below meth c A ls H locs cx hr hlk hA hl hw
  have hx := cx.1
  have hb := cx.2.1
  rw [p_X12_specialise_b17_eq] at h
  obtain ⟨c5, h⟩ := gd_some h
  refine g_put cx hw inX12 (ci := 11) rfl tyX12_ok nmX12 95 (by decide) rfl rfl (isB_n c5) (isB_f c5) shm_0 h fl_X12_464 dX12_specialise_17 (fun μ4 H locs h hw => ?_)
  refine lv_aload_n hx hb dX12_specialise_20 rfl (lv_at hl 0 rfl) ?_
  refine g_get cx hw inX12 (ci := 11) rfl 95 (by decide) rfl (v := .int (μ4.1 0 95)) shm_0 rfl fl_X12_464 dX12_specialise_21 ?_
  refine lv_if_eq (tgt := 34) hx hb dX12_specialise_24 (by decide) (fun c6 => ?_) (fun c6 => ?_)
  · rw [if_pos c6] at h
    refine lv_aload_n hx hb dX12_specialise_34 rfl (lv_at hl 0 rfl) ?_
    refine g_get cx hw inX12 (ci := 11) rfl 68 (by decide) rfl (v := .int (μ4.1 0 68)) shm_0 rfl fl_X12_557 dX12_specialise_35 ?_
    exact g_iret cx hr hlk hw h dX12_specialise_38
  · rw [if_neg c6] at h
    refine lv_aload_n hx hb dX12_specialise_27 rfl (lv_at hl 0 rfl) ?_
    refine g_get cx hw inX12 (ci := 11) rfl 110 (by decide) rfl (v := .int (μ4.1 0 110)) shm_0 rfl fl_X12_724 dX12_specialise_28 ?_
    refine lv_goto (tgt := 38) hx hb dX12_specialise_31 (by decide) ?_
    exact g_iret cx hr hlk hw h dX12_specialise_38
theorem p_X12_specialise_ex : ∃ f : Mem → Option (Int32 × Mem), ∀  (μ : Mem), f  μ = bw (p_X12_specialiseNow μ) (fun μ1 => (if (μ1.1 0 68) = (0 : Int32) then p_X12_specialise_b17  (1 : Int32) μ1 else p_X12_specialise_b17  (0 : Int32) μ1)) := ⟨fun  (μ : Mem) => bw (p_X12_specialiseNow μ) (fun μ1 => (if (μ1.1 0 68) = (0 : Int32) then p_X12_specialise_b17  (1 : Int32) μ1 else p_X12_specialise_b17  (0 : Int32) μ1)), fun _ => rfl⟩
noncomputable def p_X12_specialise : Mem → Option (Int32 × Mem) := Classical.choose p_X12_specialise_ex
theorem p_X12_specialise_eq  (μ : Mem) : p_X12_specialise  μ = bw (p_X12_specialiseNow μ) (fun μ1 => (if (μ1.1 0 68) = (0 : Int32) then p_X12_specialise_b17  (1 : Int32) μ1 else p_X12_specialise_b17  (0 : Int32) μ1)) := Classical.choose_spec p_X12_specialise_ex  μ
set_option maxHeartbeats 4000000 in
set_option maxRecDepth 100000 in
theorem t_X12_specialise (l : Launch) (G : Gt) (ad : Nat → Nat)  (μ : Mem) {r : Int32} {μz : Mem} (h : p_X12_specialise  μ = some (r, μz)) : Mt l yX12_specialise cX12_specialise 1 (some .int) ({ frames := 14, cells := 0, slots := 0, locals := 322 } : Room) G [.ref (ad 0)] (wd 1 G ad μ) (eI 1 G ad r μz) := by
  refine Bk.mt (by decide) rfl (Nat.le_of_ble_eq_true rfl) ?_
  intro p e s m below meth c A ls H locs cx hr hlk hA hl hw
  have hx := cx.1
  have hb := cx.2.1
  have hl : lv_has ls 1 [(0, .ref (ad 0))] := hl
  rw [p_X12_specialise_eq] at h
  refine lv_aload_n hx hb dX12_specialise_0 rfl (lv_at hl 0 rfl) ?_
  obtain ⟨μ1, gμ1, h⟩ := bw_some h
  refine g_callVV (As := []) (rest := []) cx hw hA (t_X12_specialiseNow l G ad μ gμ1) shm_0 rfl ml_X12_776 im_X12_specialiseNow se_X12_specialiseNow in_X12 co_X12_specialiseNow rfl hd_X12_specialiseNow rfl ⟨(Nat.le_of_ble_eq_true rfl), (Nat.le_of_ble_eq_true rfl)⟩ hl.1 rfl (Nat.le_of_ble_eq_true rfl) dX12_specialise_1 ⟨rfl, rfl⟩ (fun H locs hw => ?_)
  refine lv_aload_n hx hb dX12_specialise_4 rfl (lv_at hl 0 rfl) ?_
  refine lv_aload_n hx hb dX12_specialise_5 rfl (lv_at hl 0 rfl) ?_
  refine g_get cx hw inX12 (ci := 11) rfl 68 (by decide) rfl (v := .int (μ1.1 0 68)) shm_0 rfl fl_X12_557 dX12_specialise_6 ?_
  refine lv_if_ne (tgt := 16) hx hb dX12_specialise_9 (by decide) (fun c3 => ?_) (fun c3 => ?_)
  · rw [if_neg c3] at h
    refine lv_iconst (v := 0) hx hb dX12_specialise_16 (by decide) ?_
    exact t_X12_specialise_b17 l G ad _  (0 : Int32) μ1 h p e s m below meth c A ls H locs cx hr hlk hA (lv_sub hl [0] rfl) hw
  · rw [if_pos c3] at h
    refine lv_iconst (v := 1) hx hb dX12_specialise_12 (by decide) ?_
    refine lv_goto (tgt := 17) hx hb dX12_specialise_13 (by decide) ?_
    exact t_X12_specialise_b17 l G ad _  (1 : Int32) μ1 h p e s m below meth c A ls H locs cx hr hlk hA (lv_sub hl [0] rfl) hw

theorem p_X12_countKind_b38_ex : ∃ f : (Int32 → Int32 → Int32 → Int32 → Mem → Option (Int32 × Mem)) → Int32 → Int32 → Int32 → Int32 → Int32 → Mem → Option (Int32 × Mem), ∀ (K10 : Int32 → Int32 → Int32 → Int32 → Mem → Option (Int32 × Mem)) (a1 : Int32) (a2 : Int32) (a4 : Int32) (k0 : Int32) (k1 : Int32) (μ : Mem), f K10 a1 a2 a4 k0 k1 μ = bv (k1 + k0) (fun v4 => bv (a4 + 1) (fun v5 => K10 a1 a2 v4 v5 μ)) := ⟨fun (K10 : Int32 → Int32 → Int32 → Int32 → Mem → Option (Int32 × Mem)) (a1 : Int32) (a2 : Int32) (a4 : Int32) (k0 : Int32) (k1 : Int32) (μ : Mem) => bv (k1 + k0) (fun v4 => bv (a4 + 1) (fun v5 => K10 a1 a2 v4 v5 μ)), fun _ _ _ _ _ _ _ => rfl⟩
noncomputable def p_X12_countKind_b38 : (Int32 → Int32 → Int32 → Int32 → Mem → Option (Int32 × Mem)) → Int32 → Int32 → Int32 → Int32 → Int32 → Mem → Option (Int32 × Mem) := Classical.choose p_X12_countKind_b38_ex
theorem p_X12_countKind_b38_eq (K10 : Int32 → Int32 → Int32 → Int32 → Mem → Option (Int32 × Mem)) (a1 : Int32) (a2 : Int32) (a4 : Int32) (k0 : Int32) (k1 : Int32) (μ : Mem) : p_X12_countKind_b38 K10 a1 a2 a4 k0 k1 μ = bv (k1 + k0) (fun v4 => bv (a4 + 1) (fun v5 => K10 a1 a2 v4 v5 μ)) := Classical.choose_spec p_X12_countKind_b38_ex K10 a1 a2 a4 k0 k1 μ
set_option maxHeartbeats 4000000 in
set_option maxRecDepth 100000 in
theorem t_X12_countKind_b38 (l : Launch) (G : Gt) (ad : Nat → Nat) (av : List Value) {r : Int32} {μz : Mem} (K10 : Int32 → Int32 → Int32 → Int32 → Mem → Option (Int32 × Mem)) (hK10 : ∀ (z1 : Int32) (z2 : Int32) (z3 : Int32) (z4 : Int32) (μ1 : Mem), K10 z1 z2 z3 z4 μ1 = some (r, μz) → Bk l cX12_countKind 5 RX12 (some .int) ({ frames := 0, cells := 0, slots := 0, locals := 0 } : Room) G av (eI 1 G ad r μz) (wd 1 G ad μ1) 10 [(0, .ref (ad 0)), (1, .int z1), (2, .int z2), (3, .int z3), (4, .int z4)] []) (a1 : Int32) (a2 : Int32) (a4 : Int32) (k0 : Int32) (k1 : Int32) (μ : Mem) (h : p_X12_countKind_b38 K10 a1 a2 a4 k0 k1 μ = some (r, μz)) : Bk l cX12_countKind 5 RX12 (some .int) ({ frames := 0, cells := 0, slots := 0, locals := 0 } : Room) G av (eI 1 G ad r μz) (wd 1 G ad μ) 38 [(0, .ref (ad 0)), (1, .int a1), (2, .int a2), (4, .int a4)] [.int k0, .int k1] := by
  intro p e s m below meth c A ls H locs cx hr hlk hA hl hw
  have hx := cx.1
  have hb := cx.2.1
  rw [p_X12_countKind_b38_eq] at h
  refine lv_iadd hx hb dX12_countKind_38 ?_
  obtain ⟨v4, ev4, h⟩ := bv_ex h
  refine lv_topi (fun y9 z9 => ?_)
  obtain rfl : v4 = y9 := ev4.trans z9.symm
  refine lv_istore_n (lv' := [(3, .int v4), (0, .ref (ad 0)), (1, .int a1), (2, .int a2), (4, .int a4)]) hx hb dX12_countKind_39 rfl hl (by decide) rfl (fun ls hl => ?_)
  obtain ⟨v5, ev5, h⟩ := bv_ex h
  refine lv_iinc (v := v5) (lv' := [(4, .int v5), (3, .int v4), (0, .ref (ad 0)), (1, .int a1), (2, .int a2)]) hx hb dX12_countKind_40 hl (k := 4) rfl (by rw [ev5]; rfl) (by decide) rfl (fun ls hl => ?_)
  refine lv_goto (tgt := 10) hx hb dX12_countKind_43 (by decide) ?_
  exact hK10 a1 a2 v4 v5 μ h p e s m below meth c A ls H locs cx hr hlk hA (lv_sub hl [2, 3, 4, 1, 0] rfl) hw
theorem p_X12_countKind_b10_ex : ∃ f : Nat → Int32 → Int32 → Int32 → Int32 → Mem → Option (Int32 × Mem), (∀ (a1 : Int32) (a2 : Int32) (a3 : Int32) (a4 : Int32) (μ : Mem), f  0 a1 a2 a3 a4 μ = none) ∧ (∀ (n : Nat) (a1 : Int32) (a2 : Int32) (a3 : Int32) (a4 : Int32) (μ : Mem), f  (n + 1) a1 a2 a3 a4 μ = gd (inb a1 25) ((if (μ.1 63 a1.toNatClampNeg) ≤ a4 then some (a3, μ) else gd (inb a4 960) ((if (μ.1 46 a4.toNatClampNeg) = a2 then p_X12_countKind_b38 (f n) a1 a2 a4 (1 : Int32) a3 μ else p_X12_countKind_b38 (f n) a1 a2 a4 (0 : Int32) a3 μ))))) := ⟨fun n => Nat.rec (fun (a1 : Int32) (a2 : Int32) (a3 : Int32) (a4 : Int32) (μ : Mem) => none) (fun _ ih => fun (a1 : Int32) (a2 : Int32) (a3 : Int32) (a4 : Int32) (μ : Mem) => gd (inb a1 25) ((if (μ.1 63 a1.toNatClampNeg) ≤ a4 then some (a3, μ) else gd (inb a4 960) ((if (μ.1 46 a4.toNatClampNeg) = a2 then p_X12_countKind_b38 (ih) a1 a2 a4 (1 : Int32) a3 μ else p_X12_countKind_b38 (ih) a1 a2 a4 (0 : Int32) a3 μ))))) n, fun  _ _ _ _ _ => rfl, fun  _ _ _ _ _ _ => rfl⟩
noncomputable def p_X12_countKind_b10 : Nat → Int32 → Int32 → Int32 → Int32 → Mem → Option (Int32 × Mem) := Classical.choose p_X12_countKind_b10_ex
theorem p_X12_countKind_b10_z (a1 : Int32) (a2 : Int32) (a3 : Int32) (a4 : Int32) (μ : Mem) : p_X12_countKind_b10  0 a1 a2 a3 a4 μ = none := (Classical.choose_spec p_X12_countKind_b10_ex).1  a1 a2 a3 a4 μ
theorem p_X12_countKind_b10_s (n : Nat) (a1 : Int32) (a2 : Int32) (a3 : Int32) (a4 : Int32) (μ : Mem) : p_X12_countKind_b10  (n + 1) a1 a2 a3 a4 μ = gd (inb a1 25) ((if (μ.1 63 a1.toNatClampNeg) ≤ a4 then some (a3, μ) else gd (inb a4 960) ((if (μ.1 46 a4.toNatClampNeg) = a2 then p_X12_countKind_b38 (p_X12_countKind_b10  n) a1 a2 a4 (1 : Int32) a3 μ else p_X12_countKind_b38 (p_X12_countKind_b10  n) a1 a2 a4 (0 : Int32) a3 μ)))) := (Classical.choose_spec p_X12_countKind_b10_ex).2  n a1 a2 a3 a4 μ
set_option maxHeartbeats 4000000 in
set_option maxRecDepth 100000 in
theorem t_X12_countKind_b10 (l : Launch) (G : Gt) (ad : Nat → Nat) (av : List Value) {r : Int32} {μz : Mem} : ∀ (n : Nat) (a1 : Int32) (a2 : Int32) (a3 : Int32) (a4 : Int32) (μ : Mem), p_X12_countKind_b10  n a1 a2 a3 a4 μ = some (r, μz) → Bk l cX12_countKind 5 RX12 (some .int) ({ frames := 0, cells := 0, slots := 0, locals := 0 } : Room) G av (eI 1 G ad r μz) (wd 1 G ad μ) 10 [(0, .ref (ad 0)), (1, .int a1), (2, .int a2), (3, .int a3), (4, .int a4)] [] := by
  intro n
  induction n with
  | zero => intro a1 a2 a3 a4 μ h; rw [p_X12_countKind_b10_z] at h; cases h
  | succ n ih =>
    intro a1 a2 a3 a4 μ h p e s m below meth c A ls H locs cx hr hlk hA hl hw
    have hx := cx.1
    have hb := cx.2.1
    rw [p_X12_countKind_b10_s] at h
    refine lv_iload hx hb dX12_countKind_10 (lv_at hl 4 rfl) ?_
    refine lv_aload_n hx hb dX12_countKind_12 rfl (lv_at hl 0 rfl) ?_
    refine g_get cx hw inX12 (ci := 11) rfl 106 (by decide) rfl (v := .ref (ad 63)) shm_0 rfl fl_X12_205 dX12_countKind_13 ?_
    refine lv_iload_n hx hb dX12_countKind_16 rfl (lv_at hl 1 rfl) ?_
    refine g_iald cx hw shm_63 h dX12_countKind_17 (fun h => ?_)
    refine lv_icmp_ge (tgt := 46) hx hb dX12_countKind_18 (by decide) (fun c2 => ?_) (fun c2 => ?_)
    · rw [if_pos c2] at h
      refine lv_iload_n hx hb dX12_countKind_46 rfl (lv_at hl 3 rfl) ?_
      exact g_iret cx hr hlk hw h dX12_countKind_47
    · rw [if_neg c2] at h
      refine lv_iload_n hx hb dX12_countKind_21 rfl (lv_at hl 3 rfl) ?_
      refine lv_aload_n hx hb dX12_countKind_22 rfl (lv_at hl 0 rfl) ?_
      refine g_get cx hw inX12 (ci := 11) rfl 78 (by decide) rfl (v := .ref (ad 46)) shm_0 rfl fl_X12_154 dX12_countKind_23 ?_
      refine lv_iload hx hb dX12_countKind_26 (lv_at hl 4 rfl) ?_
      refine g_iald cx hw shm_46 h dX12_countKind_28 (fun h => ?_)
      refine lv_iload_n hx hb dX12_countKind_29 rfl (lv_at hl 2 rfl) ?_
      refine lv_icmp_ne (tgt := 37) hx hb dX12_countKind_30 (by decide) (fun c3 => ?_) (fun c3 => ?_)
      · rw [if_neg c3] at h
        refine lv_iconst (v := 0) hx hb dX12_countKind_37 (by decide) ?_
        exact t_X12_countKind_b38 l G ad av _ ih a1 a2 a4 (0 : Int32) a3 μ h p e s m below meth c A ls H locs cx hr hlk hA (lv_sub hl [0, 1, 2, 4] rfl) hw
      · rw [if_pos c3] at h
        refine lv_iconst (v := 1) hx hb dX12_countKind_33 (by decide) ?_
        refine lv_goto (tgt := 38) hx hb dX12_countKind_34 (by decide) ?_
        exact t_X12_countKind_b38 l G ad av _ ih a1 a2 a4 (1 : Int32) a3 μ h p e s m below meth c A ls H locs cx hr hlk hA (lv_sub hl [0, 1, 2, 4] rfl) hw
theorem p_X12_countKind_ex : ∃ f : Int32 → Int32 → Mem → Option (Int32 × Mem), ∀ (a1 : Int32) (a2 : Int32) (μ : Mem), f a1 a2 μ = gd (inb a1 25) (bv (μ.1 62 a1.toNatClampNeg) (fun v1 => p_X12_countKind_b10  FUEL a1 a2 (0 : Int32) v1 μ)) := ⟨fun (a1 : Int32) (a2 : Int32) (μ : Mem) => gd (inb a1 25) (bv (μ.1 62 a1.toNatClampNeg) (fun v1 => p_X12_countKind_b10  FUEL a1 a2 (0 : Int32) v1 μ)), fun _ _ _ => rfl⟩
noncomputable def p_X12_countKind : Int32 → Int32 → Mem → Option (Int32 × Mem) := Classical.choose p_X12_countKind_ex
theorem p_X12_countKind_eq (a1 : Int32) (a2 : Int32) (μ : Mem) : p_X12_countKind a1 a2 μ = gd (inb a1 25) (bv (μ.1 62 a1.toNatClampNeg) (fun v1 => p_X12_countKind_b10  FUEL a1 a2 (0 : Int32) v1 μ)) := Classical.choose_spec p_X12_countKind_ex a1 a2 μ
set_option maxHeartbeats 4000000 in
set_option maxRecDepth 100000 in
theorem t_X12_countKind (l : Launch) (G : Gt) (ad : Nat → Nat) (a1 : Int32) (a2 : Int32) (μ : Mem) {r : Int32} {μz : Mem} (h : p_X12_countKind a1 a2 μ = some (r, μz)) : Mt l yX12_countKind cX12_countKind 5 (some .int) ({ frames := 0, cells := 0, slots := 0, locals := 0 } : Room) G [.ref (ad 0), .int a1, .int a2] (wd 1 G ad μ) (eI 1 G ad r μz) := by
  refine Bk.mt (by decide) rfl (Nat.le_of_ble_eq_true rfl) ?_
  intro p e s m below meth c A ls H locs cx hr hlk hA hl hw
  have hx := cx.1
  have hb := cx.2.1
  have hl : lv_has ls 5 [(0, .ref (ad 0)), (1, .int a1), (2, .int a2)] := hl
  rw [p_X12_countKind_eq] at h
  refine lv_iconst (v := 0) hx hb dX12_countKind_0 (by decide) ?_
  refine lv_istore_n (lv' := [(3, .int 0), (0, .ref (ad 0)), (1, .int a1), (2, .int a2)]) hx hb dX12_countKind_1 rfl hl (by decide) rfl (fun ls hl => ?_)
  refine lv_aload_n hx hb dX12_countKind_2 rfl (lv_at hl 1 rfl) ?_
  refine g_get cx hw inX12 (ci := 11) rfl 105 (by decide) rfl (v := .ref (ad 62)) shm_0 rfl fl_X12_202 dX12_countKind_3 ?_
  refine lv_iload_n hx hb dX12_countKind_6 rfl (lv_at hl 2 rfl) ?_
  refine g_iald cx hw shm_62 h dX12_countKind_7 (fun h => ?_)
  obtain ⟨v1, ev1, h⟩ := bv_ex h
  refine lv_topi (fun y9 z9 => ?_)
  obtain rfl : v1 = y9 := ev1.trans z9.symm
  refine lv_istore (lv' := [(4, .int v1), (3, .int 0), (0, .ref (ad 0)), (1, .int a1), (2, .int a2)]) hx hb dX12_countKind_8 hl (by decide) rfl (fun ls hl => ?_)
  exact t_X12_countKind_b10 l G ad _  FUEL a1 a2 (0 : Int32) v1 μ h p e s m below meth c A ls H locs cx hr hlk hA (lv_sub hl [2, 3, 4, 1, 0] rfl) hw

theorem p_X12_countAll_b4_ex : ∃ f : Nat → Int32 → Int32 → Int32 → Mem → Option (Int32 × Mem), (∀ (a1 : Int32) (a2 : Int32) (a3 : Int32) (μ : Mem), f  0 a1 a2 a3 μ = none) ∧ (∀ (n : Nat) (a1 : Int32) (a2 : Int32) (a3 : Int32) (μ : Mem), f  (n + 1) a1 a2 a3 μ = (if (μ.1 0 110) ≤ a3 then some (a2, μ) else bd (p_X12_countKind a3 a1 μ) (fun r3 μ2 => bv (a2 + r3) (fun v4 => bv (a3 + 1) (fun v5 => f n a1 v4 v5 μ2))))) := ⟨fun n => Nat.rec (fun (a1 : Int32) (a2 : Int32) (a3 : Int32) (μ : Mem) => none) (fun _ ih => fun (a1 : Int32) (a2 : Int32) (a3 : Int32) (μ : Mem) => (if (μ.1 0 110) ≤ a3 then some (a2, μ) else bd (p_X12_countKind a3 a1 μ) (fun r3 μ2 => bv (a2 + r3) (fun v4 => bv (a3 + 1) (fun v5 => ih a1 v4 v5 μ2))))) n, fun  _ _ _ _ => rfl, fun  _ _ _ _ _ => rfl⟩
noncomputable def p_X12_countAll_b4 : Nat → Int32 → Int32 → Int32 → Mem → Option (Int32 × Mem) := Classical.choose p_X12_countAll_b4_ex
theorem p_X12_countAll_b4_z (a1 : Int32) (a2 : Int32) (a3 : Int32) (μ : Mem) : p_X12_countAll_b4  0 a1 a2 a3 μ = none := (Classical.choose_spec p_X12_countAll_b4_ex).1  a1 a2 a3 μ
theorem p_X12_countAll_b4_s (n : Nat) (a1 : Int32) (a2 : Int32) (a3 : Int32) (μ : Mem) : p_X12_countAll_b4  (n + 1) a1 a2 a3 μ = (if (μ.1 0 110) ≤ a3 then some (a2, μ) else bd (p_X12_countKind a3 a1 μ) (fun r3 μ2 => bv (a2 + r3) (fun v4 => bv (a3 + 1) (fun v5 => p_X12_countAll_b4  n a1 v4 v5 μ2)))) := (Classical.choose_spec p_X12_countAll_b4_ex).2  n a1 a2 a3 μ
set_option maxHeartbeats 4000000 in
set_option maxRecDepth 100000 in
theorem t_X12_countAll_b4 (l : Launch) (G : Gt) (ad : Nat → Nat) (av : List Value) {r : Int32} {μz : Mem} : ∀ (n : Nat) (a1 : Int32) (a2 : Int32) (a3 : Int32) (μ : Mem), p_X12_countAll_b4  n a1 a2 a3 μ = some (r, μz) → Bk l cX12_countAll 4 RX12 (some .int) ({ frames := 1, cells := 0, slots := 0, locals := 24 } : Room) G av (eI 1 G ad r μz) (wd 1 G ad μ) 4 [(0, .ref (ad 0)), (1, .int a1), (2, .int a2), (3, .int a3)] [] := by
  intro n
  induction n with
  | zero => intro a1 a2 a3 μ h; rw [p_X12_countAll_b4_z] at h; cases h
  | succ n ih =>
    intro a1 a2 a3 μ h p e s m below meth c A ls H locs cx hr hlk hA hl hw
    have hx := cx.1
    have hb := cx.2.1
    rw [p_X12_countAll_b4_s] at h
    refine lv_iload_n hx hb dX12_countAll_4 rfl (lv_at hl 3 rfl) ?_
    refine lv_aload_n hx hb dX12_countAll_5 rfl (lv_at hl 0 rfl) ?_
    refine g_get cx hw inX12 (ci := 11) rfl 110 (by decide) rfl (v := .int (μ.1 0 110)) shm_0 rfl fl_X12_724 dX12_countAll_6 ?_
    refine lv_icmp_ge (tgt := 27) hx hb dX12_countAll_9 (by decide) (fun c1 => ?_) (fun c1 => ?_)
    · rw [if_pos c1] at h
      refine lv_iload_n hx hb dX12_countAll_27 rfl (lv_at hl 2 rfl) ?_
      exact g_iret cx hr hlk hw h dX12_countAll_28
    · rw [if_neg c1] at h
      refine lv_iload_n hx hb dX12_countAll_12 rfl (lv_at hl 2 rfl) ?_
      refine lv_aload_n hx hb dX12_countAll_13 rfl (lv_at hl 0 rfl) ?_
      refine lv_iload_n hx hb dX12_countAll_14 rfl (lv_at hl 3 rfl) ?_
      refine lv_iload_n hx hb dX12_countAll_15 rfl (lv_at hl 1 rfl) ?_
      obtain ⟨r3, μ2, gr3, h⟩ := bd_some h
      refine g_callVI (As := [.int a3, .int a1]) (rest := [.int a2]) cx hw hA (t_X12_countKind l G ad a3 a1 μ gr3) shm_0 rfl ml_X12_779 im_X12_countKind se_X12_countKind in_X12 co_X12_countKind rfl hd_X12_countKind rfl ⟨(Nat.le_of_ble_eq_true rfl), (Nat.le_of_ble_eq_true rfl)⟩ hl.1 rfl (Nat.le_of_ble_eq_true rfl) dX12_countAll_16 ⟨rfl, rfl⟩ (fun H locs hw => ?_)
      refine lv_iadd hx hb dX12_countAll_19 ?_
      obtain ⟨v4, ev4, h⟩ := bv_ex h
      refine lv_topi (fun y9 z9 => ?_)
      obtain rfl : v4 = y9 := ev4.trans z9.symm
      refine lv_istore_n (lv' := [(2, .int v4), (0, .ref (ad 0)), (1, .int a1), (3, .int a3)]) hx hb dX12_countAll_20 rfl hl (by decide) rfl (fun ls hl => ?_)
      obtain ⟨v5, ev5, h⟩ := bv_ex h
      refine lv_iinc (v := v5) (lv' := [(3, .int v5), (2, .int v4), (0, .ref (ad 0)), (1, .int a1)]) hx hb dX12_countAll_21 hl (k := 3) rfl (by rw [ev5]; rfl) (by decide) rfl (fun ls hl => ?_)
      refine lv_goto (tgt := 4) hx hb dX12_countAll_24 (by decide) ?_
      exact ih a1 v4 v5 μ2 h p e s m below meth c A ls H locs cx hr hlk hA (lv_sub hl [2, 3, 1, 0] rfl) hw
theorem p_X12_countAll_ex : ∃ f : Int32 → Mem → Option (Int32 × Mem), ∀ (a1 : Int32) (μ : Mem), f a1 μ = p_X12_countAll_b4  FUEL a1 (0 : Int32) (0 : Int32) μ := ⟨fun (a1 : Int32) (μ : Mem) => p_X12_countAll_b4  FUEL a1 (0 : Int32) (0 : Int32) μ, fun _ _ => rfl⟩
noncomputable def p_X12_countAll : Int32 → Mem → Option (Int32 × Mem) := Classical.choose p_X12_countAll_ex
theorem p_X12_countAll_eq (a1 : Int32) (μ : Mem) : p_X12_countAll a1 μ = p_X12_countAll_b4  FUEL a1 (0 : Int32) (0 : Int32) μ := Classical.choose_spec p_X12_countAll_ex a1 μ
set_option maxHeartbeats 4000000 in
set_option maxRecDepth 100000 in
theorem t_X12_countAll (l : Launch) (G : Gt) (ad : Nat → Nat) (a1 : Int32) (μ : Mem) {r : Int32} {μz : Mem} (h : p_X12_countAll a1 μ = some (r, μz)) : Mt l yX12_countAll cX12_countAll 4 (some .int) ({ frames := 1, cells := 0, slots := 0, locals := 24 } : Room) G [.ref (ad 0), .int a1] (wd 1 G ad μ) (eI 1 G ad r μz) := by
  refine Bk.mt (by decide) rfl (Nat.le_of_ble_eq_true rfl) ?_
  intro p e s m below meth c A ls H locs cx hr hlk hA hl hw
  have hx := cx.1
  have hb := cx.2.1
  have hl : lv_has ls 4 [(0, .ref (ad 0)), (1, .int a1)] := hl
  rw [p_X12_countAll_eq] at h
  refine lv_iconst (v := 0) hx hb dX12_countAll_0 (by decide) ?_
  refine lv_istore_n (lv' := [(2, .int 0), (0, .ref (ad 0)), (1, .int a1)]) hx hb dX12_countAll_1 rfl hl (by decide) rfl (fun ls hl => ?_)
  refine lv_iconst (v := 0) hx hb dX12_countAll_2 (by decide) ?_
  refine lv_istore_n (lv' := [(3, .int 0), (2, .int 0), (0, .ref (ad 0)), (1, .int a1)]) hx hb dX12_countAll_3 rfl hl (by decide) rfl (fun ls hl => ?_)
  exact t_X12_countAll_b4 l G ad _  FUEL a1 (0 : Int32) (0 : Int32) μ h p e s m below meth c A ls H locs cx hr hlk hA (lv_sub hl [2, 3, 1, 0] rfl) hw

theorem p_X12_residue_ex : ∃ f : Int32 → Mem → Option (Int32 × Mem), ∀ (a1 : Int32) (μ : Mem), f a1 μ = (if (μ.1 0 95) = (0 : Int32) then some ((-1 : Int32), μ) else (if a1 = (0 : Int32) then some ((μ.1 0 110), μ) else (if a1 = (1 : Int32) then some ((μ.1 0 89), μ) else (if a1 = (2 : Int32) then some ((μ.1 0 91), μ) else (if a1 = (3 : Int32) then bd (p_X12_countAll (11 : Int32) μ) (fun r8 μ7 => some (r8, μ7)) else (if a1 = (4 : Int32) then bd (p_X12_countAll (7 : Int32) μ) (fun r11 μ10 => some (r11, μ10)) else (if a1 = (5 : Int32) then bd (p_X12_countAll (8 : Int32) μ) (fun r14 μ13 => bd (p_X12_countAll (9 : Int32) μ13) (fun r16 μ15 => some ((r14 + r16), μ15))) else (if a1 = (6 : Int32) then bd (p_X12_countAll (10 : Int32) μ) (fun r19 μ18 => some (r19, μ18)) else (if a1 = (7 : Int32) then bd (p_X12_countAll (6 : Int32) μ) (fun r22 μ21 => some (r22, μ21)) else (if a1 = (8 : Int32) then some ((μ.1 0 96), μ) else (if a1 = (9 : Int32) then some ((μ.1 0 97), μ) else some ((-1 : Int32), μ)))))))))))) := ⟨fun (a1 : Int32) (μ : Mem) => (if (μ.1 0 95) = (0 : Int32) then some ((-1 : Int32), μ) else (if a1 = (0 : Int32) then some ((μ.1 0 110), μ) else (if a1 = (1 : Int32) then some ((μ.1 0 89), μ) else (if a1 = (2 : Int32) then some ((μ.1 0 91), μ) else (if a1 = (3 : Int32) then bd (p_X12_countAll (11 : Int32) μ) (fun r8 μ7 => some (r8, μ7)) else (if a1 = (4 : Int32) then bd (p_X12_countAll (7 : Int32) μ) (fun r11 μ10 => some (r11, μ10)) else (if a1 = (5 : Int32) then bd (p_X12_countAll (8 : Int32) μ) (fun r14 μ13 => bd (p_X12_countAll (9 : Int32) μ13) (fun r16 μ15 => some ((r14 + r16), μ15))) else (if a1 = (6 : Int32) then bd (p_X12_countAll (10 : Int32) μ) (fun r19 μ18 => some (r19, μ18)) else (if a1 = (7 : Int32) then bd (p_X12_countAll (6 : Int32) μ) (fun r22 μ21 => some (r22, μ21)) else (if a1 = (8 : Int32) then some ((μ.1 0 96), μ) else (if a1 = (9 : Int32) then some ((μ.1 0 97), μ) else some ((-1 : Int32), μ)))))))))))), fun _ _ => rfl⟩
noncomputable def p_X12_residue : Int32 → Mem → Option (Int32 × Mem) := Classical.choose p_X12_residue_ex
theorem p_X12_residue_eq (a1 : Int32) (μ : Mem) : p_X12_residue a1 μ = (if (μ.1 0 95) = (0 : Int32) then some ((-1 : Int32), μ) else (if a1 = (0 : Int32) then some ((μ.1 0 110), μ) else (if a1 = (1 : Int32) then some ((μ.1 0 89), μ) else (if a1 = (2 : Int32) then some ((μ.1 0 91), μ) else (if a1 = (3 : Int32) then bd (p_X12_countAll (11 : Int32) μ) (fun r8 μ7 => some (r8, μ7)) else (if a1 = (4 : Int32) then bd (p_X12_countAll (7 : Int32) μ) (fun r11 μ10 => some (r11, μ10)) else (if a1 = (5 : Int32) then bd (p_X12_countAll (8 : Int32) μ) (fun r14 μ13 => bd (p_X12_countAll (9 : Int32) μ13) (fun r16 μ15 => some ((r14 + r16), μ15))) else (if a1 = (6 : Int32) then bd (p_X12_countAll (10 : Int32) μ) (fun r19 μ18 => some (r19, μ18)) else (if a1 = (7 : Int32) then bd (p_X12_countAll (6 : Int32) μ) (fun r22 μ21 => some (r22, μ21)) else (if a1 = (8 : Int32) then some ((μ.1 0 96), μ) else (if a1 = (9 : Int32) then some ((μ.1 0 97), μ) else some ((-1 : Int32), μ)))))))))))) := Classical.choose_spec p_X12_residue_ex a1 μ
set_option maxHeartbeats 4000000 in
set_option maxRecDepth 100000 in
theorem t_X12_residue (l : Launch) (G : Gt) (ad : Nat → Nat) (a1 : Int32) (μ : Mem) {r : Int32} {μz : Mem} (h : p_X12_residue a1 μ = some (r, μz)) : Mt l yX12_residue cX12_residue 2 (some .int) ({ frames := 2, cells := 0, slots := 0, locals := 47 } : Room) G [.ref (ad 0), .int a1] (wd 1 G ad μ) (eI 1 G ad r μz) := by
  refine Bk.mt (by decide) rfl (Nat.le_of_ble_eq_true rfl) ?_
  intro p e s m below meth c A ls H locs cx hr hlk hA hl hw
  have hx := cx.1
  have hb := cx.2.1
  have hl : lv_has ls 2 [(0, .ref (ad 0)), (1, .int a1)] := hl
  rw [p_X12_residue_eq] at h
  refine lv_aload_n hx hb dX12_residue_0 rfl (lv_at hl 0 rfl) ?_
  refine g_get cx hw inX12 (ci := 11) rfl 95 (by decide) rfl (v := .int (μ.1 0 95)) shm_0 rfl fl_X12_464 dX12_residue_1 ?_
  refine lv_if_ne (tgt := 9) hx hb dX12_residue_4 (by decide) (fun c1 => ?_) (fun c1 => ?_)
  · rw [if_neg c1] at h
    refine lv_iload_n hx hb dX12_residue_9 rfl (lv_at hl 1 rfl) ?_
    refine lv_topi (fun v2 ev2 => ?_)
    by_cases c3 : a1 = (0 : Int32)
    · rw [if_pos c3] at h
      have z9 := ev2.trans c3
      subst z9
      refine lv_tableIn (tgt := 64) hx hb dX12_residue_10 (by decide +kernel) (by decide +kernel) rfl (by decide) ?_
      refine lv_aload_n hx hb dX12_residue_64 rfl (lv_at hl 0 rfl) ?_
      refine g_get cx hw inX12 (ci := 11) rfl 110 (by decide) rfl (v := .int (μ.1 0 110)) shm_0 rfl fl_X12_724 dX12_residue_65 ?_
      exact g_iret cx hr hlk hw h dX12_residue_68
    rw [if_neg c3] at h
    by_cases c4 : a1 = (1 : Int32)
    · rw [if_pos c4] at h
      have z9 := ev2.trans c4
      subst z9
      refine lv_tableIn (tgt := 69) hx hb dX12_residue_10 (by decide +kernel) (by decide +kernel) rfl (by decide) ?_
      refine lv_aload_n hx hb dX12_residue_69 rfl (lv_at hl 0 rfl) ?_
      refine g_get cx hw inX12 (ci := 11) rfl 89 (by decide) rfl (v := .int (μ.1 0 89)) shm_0 rfl fl_X12_688 dX12_residue_70 ?_
      exact g_iret cx hr hlk hw h dX12_residue_73
    rw [if_neg c4] at h
    by_cases c5 : a1 = (2 : Int32)
    · rw [if_pos c5] at h
      have z9 := ev2.trans c5
      subst z9
      refine lv_tableIn (tgt := 74) hx hb dX12_residue_10 (by decide +kernel) (by decide +kernel) rfl (by decide) ?_
      refine lv_aload_n hx hb dX12_residue_74 rfl (lv_at hl 0 rfl) ?_
      refine g_get cx hw inX12 (ci := 11) rfl 91 (by decide) rfl (v := .int (μ.1 0 91)) shm_0 rfl fl_X12_733 dX12_residue_75 ?_
      exact g_iret cx hr hlk hw h dX12_residue_78
    rw [if_neg c5] at h
    by_cases c6 : a1 = (3 : Int32)
    · rw [if_pos c6] at h
      have z9 := ev2.trans c6
      subst z9
      refine lv_tableIn (tgt := 79) hx hb dX12_residue_10 (by decide +kernel) (by decide +kernel) rfl (by decide) ?_
      refine lv_aload_n hx hb dX12_residue_79 rfl (lv_at hl 0 rfl) ?_
      refine lv_bipush (v := 11) hx hb dX12_residue_80 (by decide) ?_
      obtain ⟨r8, μ7, gr8, h⟩ := bd_some h
      refine g_callVI (As := [.int 11]) (rest := []) cx hw hA (t_X12_countAll l G ad (11 : Int32) μ gr8) shm_0 rfl ml_X12_782 im_X12_countAll se_X12_countAll in_X12 co_X12_countAll rfl hd_X12_countAll rfl ⟨(Nat.le_of_ble_eq_true rfl), (Nat.le_of_ble_eq_true rfl)⟩ hl.1 rfl (Nat.le_of_ble_eq_true rfl) dX12_residue_82 ⟨rfl, rfl⟩ (fun H locs hw => ?_)
      exact g_iret cx hr hlk hw h dX12_residue_85
    rw [if_neg c6] at h
    by_cases c9 : a1 = (4 : Int32)
    · rw [if_pos c9] at h
      have z9 := ev2.trans c9
      subst z9
      refine lv_tableIn (tgt := 86) hx hb dX12_residue_10 (by decide +kernel) (by decide +kernel) rfl (by decide) ?_
      refine lv_aload_n hx hb dX12_residue_86 rfl (lv_at hl 0 rfl) ?_
      refine lv_bipush (v := 7) hx hb dX12_residue_87 (by decide) ?_
      obtain ⟨r11, μ10, gr11, h⟩ := bd_some h
      refine g_callVI (As := [.int 7]) (rest := []) cx hw hA (t_X12_countAll l G ad (7 : Int32) μ gr11) shm_0 rfl ml_X12_782 im_X12_countAll se_X12_countAll in_X12 co_X12_countAll rfl hd_X12_countAll rfl ⟨(Nat.le_of_ble_eq_true rfl), (Nat.le_of_ble_eq_true rfl)⟩ hl.1 rfl (Nat.le_of_ble_eq_true rfl) dX12_residue_89 ⟨rfl, rfl⟩ (fun H locs hw => ?_)
      exact g_iret cx hr hlk hw h dX12_residue_92
    rw [if_neg c9] at h
    by_cases c12 : a1 = (5 : Int32)
    · rw [if_pos c12] at h
      have z9 := ev2.trans c12
      subst z9
      refine lv_tableIn (tgt := 93) hx hb dX12_residue_10 (by decide +kernel) (by decide +kernel) rfl (by decide) ?_
      refine lv_aload_n hx hb dX12_residue_93 rfl (lv_at hl 0 rfl) ?_
      refine lv_bipush (v := 8) hx hb dX12_residue_94 (by decide) ?_
      obtain ⟨r14, μ13, gr14, h⟩ := bd_some h
      refine g_callVI (As := [.int 8]) (rest := []) cx hw hA (t_X12_countAll l G ad (8 : Int32) μ gr14) shm_0 rfl ml_X12_782 im_X12_countAll se_X12_countAll in_X12 co_X12_countAll rfl hd_X12_countAll rfl ⟨(Nat.le_of_ble_eq_true rfl), (Nat.le_of_ble_eq_true rfl)⟩ hl.1 rfl (Nat.le_of_ble_eq_true rfl) dX12_residue_96 ⟨rfl, rfl⟩ (fun H locs hw => ?_)
      refine lv_aload_n hx hb dX12_residue_99 rfl (lv_at hl 0 rfl) ?_
      refine lv_bipush (v := 9) hx hb dX12_residue_100 (by decide) ?_
      obtain ⟨r16, μ15, gr16, h⟩ := bd_some h
      refine g_callVI (As := [.int 9]) (rest := [.int r14]) cx hw hA (t_X12_countAll l G ad (9 : Int32) μ13 gr16) shm_0 rfl ml_X12_782 im_X12_countAll se_X12_countAll in_X12 co_X12_countAll rfl hd_X12_countAll rfl ⟨(Nat.le_of_ble_eq_true rfl), (Nat.le_of_ble_eq_true rfl)⟩ hl.1 rfl (Nat.le_of_ble_eq_true rfl) dX12_residue_102 ⟨rfl, rfl⟩ (fun H locs hw => ?_)
      refine lv_iadd hx hb dX12_residue_105 ?_
      exact g_iret cx hr hlk hw h dX12_residue_106
    rw [if_neg c12] at h
    by_cases c17 : a1 = (6 : Int32)
    · rw [if_pos c17] at h
      have z9 := ev2.trans c17
      subst z9
      refine lv_tableIn (tgt := 107) hx hb dX12_residue_10 (by decide +kernel) (by decide +kernel) rfl (by decide) ?_
      refine lv_aload_n hx hb dX12_residue_107 rfl (lv_at hl 0 rfl) ?_
      refine lv_bipush (v := 10) hx hb dX12_residue_108 (by decide) ?_
      obtain ⟨r19, μ18, gr19, h⟩ := bd_some h
      refine g_callVI (As := [.int 10]) (rest := []) cx hw hA (t_X12_countAll l G ad (10 : Int32) μ gr19) shm_0 rfl ml_X12_782 im_X12_countAll se_X12_countAll in_X12 co_X12_countAll rfl hd_X12_countAll rfl ⟨(Nat.le_of_ble_eq_true rfl), (Nat.le_of_ble_eq_true rfl)⟩ hl.1 rfl (Nat.le_of_ble_eq_true rfl) dX12_residue_110 ⟨rfl, rfl⟩ (fun H locs hw => ?_)
      exact g_iret cx hr hlk hw h dX12_residue_113
    rw [if_neg c17] at h
    by_cases c20 : a1 = (7 : Int32)
    · rw [if_pos c20] at h
      have z9 := ev2.trans c20
      subst z9
      refine lv_tableIn (tgt := 114) hx hb dX12_residue_10 (by decide +kernel) (by decide +kernel) rfl (by decide) ?_
      refine lv_aload_n hx hb dX12_residue_114 rfl (lv_at hl 0 rfl) ?_
      refine lv_bipush (v := 6) hx hb dX12_residue_115 (by decide) ?_
      obtain ⟨r22, μ21, gr22, h⟩ := bd_some h
      refine g_callVI (As := [.int 6]) (rest := []) cx hw hA (t_X12_countAll l G ad (6 : Int32) μ gr22) shm_0 rfl ml_X12_782 im_X12_countAll se_X12_countAll in_X12 co_X12_countAll rfl hd_X12_countAll rfl ⟨(Nat.le_of_ble_eq_true rfl), (Nat.le_of_ble_eq_true rfl)⟩ hl.1 rfl (Nat.le_of_ble_eq_true rfl) dX12_residue_117 ⟨rfl, rfl⟩ (fun H locs hw => ?_)
      exact g_iret cx hr hlk hw h dX12_residue_120
    rw [if_neg c20] at h
    by_cases c23 : a1 = (8 : Int32)
    · rw [if_pos c23] at h
      have z9 := ev2.trans c23
      subst z9
      refine lv_tableIn (tgt := 121) hx hb dX12_residue_10 (by decide +kernel) (by decide +kernel) rfl (by decide) ?_
      refine lv_aload_n hx hb dX12_residue_121 rfl (lv_at hl 0 rfl) ?_
      refine g_get cx hw inX12 (ci := 11) rfl 96 (by decide) rfl (v := .int (μ.1 0 96)) shm_0 rfl fl_X12_717 dX12_residue_122 ?_
      exact g_iret cx hr hlk hw h dX12_residue_125
    rw [if_neg c23] at h
    by_cases c24 : a1 = (9 : Int32)
    · rw [if_pos c24] at h
      have z9 := ev2.trans c24
      subst z9
      refine lv_tableIn (tgt := 126) hx hb dX12_residue_10 (by decide +kernel) (by decide +kernel) rfl (by decide) ?_
      refine lv_aload_n hx hb dX12_residue_126 rfl (lv_at hl 0 rfl) ?_
      refine g_get cx hw inX12 (ci := 11) rfl 97 (by decide) rfl (v := .int (μ.1 0 97)) shm_0 rfl fl_X12_757 dX12_residue_127 ?_
      exact g_iret cx hr hlk hw h dX12_residue_130
    rw [if_neg c24] at h
    rw [ev2]
    refine lv_tableOut (tgt := 131) hx hb dX12_residue_10 (sw_out (L := [(0 : Int32), (1 : Int32), (2 : Int32), (3 : Int32), (4 : Int32), (5 : Int32), (6 : Int32), (7 : Int32), (8 : Int32), (9 : Int32)]) (by decide +kernel) (by simp only [List.forall_mem_cons]; exact ⟨c3, c4, c5, c6, c9, c12, c17, c20, c23, c24, fun _ q => absurd q List.not_mem_nil⟩)) (by decide) ?_
    refine lv_iconst (v := (-1)) hx hb dX12_residue_131 (by decide) ?_
    exact g_iret cx hr hlk hw h dX12_residue_132
  · rw [if_pos c1] at h
    refine lv_iconst (v := (-1)) hx hb dX12_residue_7 (by decide) ?_
    exact g_iret cx hr hlk hw h dX12_residue_8

theorem p_X12_isVariant_ex : ∃ f : Int32 → Mem → Option (Int32 × Mem), ∀ (a1 : Int32) (μ : Mem), f a1 μ = (if (μ.1 0 95) = (0 : Int32) then some ((0 : Int32), μ) else (if (s_X12_isIn a1 (0 : Int32) ((μ.1 0 110) - (1 : Int32))) = (0 : Int32) then some ((0 : Int32), μ) else some ((1 : Int32), μ))) := ⟨fun (a1 : Int32) (μ : Mem) => (if (μ.1 0 95) = (0 : Int32) then some ((0 : Int32), μ) else (if (s_X12_isIn a1 (0 : Int32) ((μ.1 0 110) - (1 : Int32))) = (0 : Int32) then some ((0 : Int32), μ) else some ((1 : Int32), μ))), fun _ _ => rfl⟩
noncomputable def p_X12_isVariant : Int32 → Mem → Option (Int32 × Mem) := Classical.choose p_X12_isVariant_ex
theorem p_X12_isVariant_eq (a1 : Int32) (μ : Mem) : p_X12_isVariant a1 μ = (if (μ.1 0 95) = (0 : Int32) then some ((0 : Int32), μ) else (if (s_X12_isIn a1 (0 : Int32) ((μ.1 0 110) - (1 : Int32))) = (0 : Int32) then some ((0 : Int32), μ) else some ((1 : Int32), μ))) := Classical.choose_spec p_X12_isVariant_ex a1 μ
set_option maxHeartbeats 4000000 in
set_option maxRecDepth 100000 in
theorem t_X12_isVariant (l : Launch) (G : Gt) (ad : Nat → Nat) (a1 : Int32) (μ : Mem) {r : Int32} {μz : Mem} (h : p_X12_isVariant a1 μ = some (r, μz)) : Mt l yX12_isVariant cX12_isVariant 2 (some .boolean) ({ frames := 1, cells := 0, slots := 0, locals := 22 } : Room) G [.ref (ad 0), .int a1] (wd 1 G ad μ) (eI 1 G ad r μz) := by
  refine Bk.mt (by decide) rfl (Nat.le_of_ble_eq_true rfl) ?_
  intro p e s m below meth c A ls H locs cx hr hlk hA hl hw
  have hx := cx.1
  have hb := cx.2.1
  have hl : lv_has ls 2 [(0, .ref (ad 0)), (1, .int a1)] := hl
  rw [p_X12_isVariant_eq] at h
  refine lv_aload_n hx hb dX12_isVariant_0 rfl (lv_at hl 0 rfl) ?_
  refine g_get cx hw inX12 (ci := 11) rfl 95 (by decide) rfl (v := .int (μ.1 0 95)) shm_0 rfl fl_X12_464 dX12_isVariant_1 ?_
  refine lv_if_eq (tgt := 25) hx hb dX12_isVariant_4 (by decide) (fun c1 => ?_) (fun c1 => ?_)
  · rw [if_pos c1] at h
    refine lv_iconst (v := 0) hx hb dX12_isVariant_25 (by decide) ?_
    exact g_zret cx hr hlk rfl hw h dX12_isVariant_26
  · rw [if_neg c1] at h
    refine lv_iload_n hx hb dX12_isVariant_7 rfl (lv_at hl 1 rfl) ?_
    refine lv_iconst (v := 0) hx hb dX12_isVariant_8 (by decide) ?_
    refine lv_aload_n hx hb dX12_isVariant_9 rfl (lv_at hl 0 rfl) ?_
    refine g_get cx hw inX12 (ci := 11) rfl 110 (by decide) rfl (v := .int (μ.1 0 110)) shm_0 rfl fl_X12_724 dX12_isVariant_10 ?_
    refine lv_iconst (v := 1) hx hb dX12_isVariant_13 (by decide) ?_
    refine lv_isub hx hb dX12_isVariant_14 ?_
    refine s_callI (As := [.int a1, .int 0, .int ((μ.1 0 110) - (1 : Int32))]) (rest := []) cx hw hA (t_X12_isIn l G a1 (0 : Int32) ((μ.1 0 110) - (1 : Int32))) ml_X12_359 st_X12_isIn in_X12 co_X12_isIn hd_X12_isIn rfl ⟨(Nat.le_of_ble_eq_true rfl), (Nat.le_of_ble_eq_true rfl)⟩ hl.1 rfl (Nat.le_of_ble_eq_true rfl) dX12_isVariant_15 rfl (fun H locs hw => ?_)
    refine lv_if_eq (tgt := 25) hx hb dX12_isVariant_18 (by decide) (fun c2 => ?_) (fun c2 => ?_)
    · rw [if_pos c2] at h
      refine lv_iconst (v := 0) hx hb dX12_isVariant_25 (by decide) ?_
      exact g_zret cx hr hlk rfl hw h dX12_isVariant_26
    · rw [if_neg c2] at h
      refine lv_iconst (v := 1) hx hb dX12_isVariant_21 (by decide) ?_
      refine lv_goto (tgt := 26) hx hb dX12_isVariant_22 (by decide) ?_
      exact g_zret cx hr hlk rfl hw h dX12_isVariant_26

theorem p_X12_knownIn_b42_ex : ∃ f : (Int32 → Int32 → Int32 → Mem → Option (Int32 × Mem)) → Int32 → Int32 → Int32 → Int32 → Mem → Option (Int32 × Mem), ∀ (K8 : Int32 → Int32 → Int32 → Mem → Option (Int32 × Mem)) (a1 : Int32) (a3 : Int32) (k0 : Int32) (k1 : Int32) (μ : Mem), f K8 a1 a3 k0 k1 μ = bv (k1 + k0) (fun v4 => bv (a3 + 1) (fun v5 => K8 a1 v4 v5 μ)) := ⟨fun (K8 : Int32 → Int32 → Int32 → Mem → Option (Int32 × Mem)) (a1 : Int32) (a3 : Int32) (k0 : Int32) (k1 : Int32) (μ : Mem) => bv (k1 + k0) (fun v4 => bv (a3 + 1) (fun v5 => K8 a1 v4 v5 μ)), fun _ _ _ _ _ _ => rfl⟩
noncomputable def p_X12_knownIn_b42 : (Int32 → Int32 → Int32 → Mem → Option (Int32 × Mem)) → Int32 → Int32 → Int32 → Int32 → Mem → Option (Int32 × Mem) := Classical.choose p_X12_knownIn_b42_ex
theorem p_X12_knownIn_b42_eq (K8 : Int32 → Int32 → Int32 → Mem → Option (Int32 × Mem)) (a1 : Int32) (a3 : Int32) (k0 : Int32) (k1 : Int32) (μ : Mem) : p_X12_knownIn_b42 K8 a1 a3 k0 k1 μ = bv (k1 + k0) (fun v4 => bv (a3 + 1) (fun v5 => K8 a1 v4 v5 μ)) := Classical.choose_spec p_X12_knownIn_b42_ex K8 a1 a3 k0 k1 μ
set_option maxHeartbeats 4000000 in
set_option maxRecDepth 100000 in
theorem t_X12_knownIn_b42 (l : Launch) (G : Gt) (ad : Nat → Nat) (av : List Value) {r : Int32} {μz : Mem} (K8 : Int32 → Int32 → Int32 → Mem → Option (Int32 × Mem)) (hK8 : ∀ (z1 : Int32) (z2 : Int32) (z3 : Int32) (μ1 : Mem), K8 z1 z2 z3 μ1 = some (r, μz) → Bk l cX12_knownIn 4 RX12 (some .int) ({ frames := 1, cells := 0, slots := 0, locals := 20 } : Room) G av (eI 1 G ad r μz) (wd 1 G ad μ1) 8 [(0, .ref (ad 0)), (1, .int z1), (2, .int z2), (3, .int z3)] []) (a1 : Int32) (a3 : Int32) (k0 : Int32) (k1 : Int32) (μ : Mem) (h : p_X12_knownIn_b42 K8 a1 a3 k0 k1 μ = some (r, μz)) : Bk l cX12_knownIn 4 RX12 (some .int) ({ frames := 1, cells := 0, slots := 0, locals := 20 } : Room) G av (eI 1 G ad r μz) (wd 1 G ad μ) 42 [(0, .ref (ad 0)), (1, .int a1), (3, .int a3)] [.int k0, .int k1] := by
  intro p e s m below meth c A ls H locs cx hr hlk hA hl hw
  have hx := cx.1
  have hb := cx.2.1
  rw [p_X12_knownIn_b42_eq] at h
  refine lv_iadd hx hb dX12_knownIn_42 ?_
  obtain ⟨v4, ev4, h⟩ := bv_ex h
  refine lv_topi (fun y9 z9 => ?_)
  obtain rfl : v4 = y9 := ev4.trans z9.symm
  refine lv_istore_n (lv' := [(2, .int v4), (0, .ref (ad 0)), (1, .int a1), (3, .int a3)]) hx hb dX12_knownIn_43 rfl hl (by decide) rfl (fun ls hl => ?_)
  obtain ⟨v5, ev5, h⟩ := bv_ex h
  refine lv_iinc (v := v5) (lv' := [(3, .int v5), (2, .int v4), (0, .ref (ad 0)), (1, .int a1)]) hx hb dX12_knownIn_44 hl (k := 3) rfl (by rw [ev5]; rfl) (by decide) rfl (fun ls hl => ?_)
  refine lv_goto (tgt := 8) hx hb dX12_knownIn_47 (by decide) ?_
  exact hK8 a1 v4 v5 μ h p e s m below meth c A ls H locs cx hr hlk hA (lv_sub hl [2, 3, 1, 0] rfl) hw
theorem p_X12_knownIn_b8_ex : ∃ f : Nat → Int32 → Int32 → Int32 → Mem → Option (Int32 × Mem), (∀ (a1 : Int32) (a2 : Int32) (a3 : Int32) (μ : Mem), f  0 a1 a2 a3 μ = none) ∧ (∀ (n : Nat) (a1 : Int32) (a2 : Int32) (a3 : Int32) (μ : Mem), f  (n + 1) a1 a2 a3 μ = gd (inb a1 25) ((if (((210 : Int32) * a1) + (μ.1 58 a1.toNatClampNeg)) ≤ a3 then some (a2, μ) else gd (inb a3 5250) ((if (s_X12_isNumber (μ.1 60 a3.toNatClampNeg)) = (0 : Int32) then p_X12_knownIn_b42 (f n) a1 a3 (0 : Int32) a2 μ else p_X12_knownIn_b42 (f n) a1 a3 (1 : Int32) a2 μ))))) := ⟨fun n => Nat.rec (fun (a1 : Int32) (a2 : Int32) (a3 : Int32) (μ : Mem) => none) (fun _ ih => fun (a1 : Int32) (a2 : Int32) (a3 : Int32) (μ : Mem) => gd (inb a1 25) ((if (((210 : Int32) * a1) + (μ.1 58 a1.toNatClampNeg)) ≤ a3 then some (a2, μ) else gd (inb a3 5250) ((if (s_X12_isNumber (μ.1 60 a3.toNatClampNeg)) = (0 : Int32) then p_X12_knownIn_b42 (ih) a1 a3 (0 : Int32) a2 μ else p_X12_knownIn_b42 (ih) a1 a3 (1 : Int32) a2 μ))))) n, fun  _ _ _ _ => rfl, fun  _ _ _ _ _ => rfl⟩
noncomputable def p_X12_knownIn_b8 : Nat → Int32 → Int32 → Int32 → Mem → Option (Int32 × Mem) := Classical.choose p_X12_knownIn_b8_ex
theorem p_X12_knownIn_b8_z (a1 : Int32) (a2 : Int32) (a3 : Int32) (μ : Mem) : p_X12_knownIn_b8  0 a1 a2 a3 μ = none := (Classical.choose_spec p_X12_knownIn_b8_ex).1  a1 a2 a3 μ
theorem p_X12_knownIn_b8_s (n : Nat) (a1 : Int32) (a2 : Int32) (a3 : Int32) (μ : Mem) : p_X12_knownIn_b8  (n + 1) a1 a2 a3 μ = gd (inb a1 25) ((if (((210 : Int32) * a1) + (μ.1 58 a1.toNatClampNeg)) ≤ a3 then some (a2, μ) else gd (inb a3 5250) ((if (s_X12_isNumber (μ.1 60 a3.toNatClampNeg)) = (0 : Int32) then p_X12_knownIn_b42 (p_X12_knownIn_b8  n) a1 a3 (0 : Int32) a2 μ else p_X12_knownIn_b42 (p_X12_knownIn_b8  n) a1 a3 (1 : Int32) a2 μ)))) := (Classical.choose_spec p_X12_knownIn_b8_ex).2  n a1 a2 a3 μ
set_option maxHeartbeats 4000000 in
set_option maxRecDepth 100000 in
theorem t_X12_knownIn_b8 (l : Launch) (G : Gt) (ad : Nat → Nat) (av : List Value) {r : Int32} {μz : Mem} : ∀ (n : Nat) (a1 : Int32) (a2 : Int32) (a3 : Int32) (μ : Mem), p_X12_knownIn_b8  n a1 a2 a3 μ = some (r, μz) → Bk l cX12_knownIn 4 RX12 (some .int) ({ frames := 1, cells := 0, slots := 0, locals := 20 } : Room) G av (eI 1 G ad r μz) (wd 1 G ad μ) 8 [(0, .ref (ad 0)), (1, .int a1), (2, .int a2), (3, .int a3)] [] := by
  intro n
  induction n with
  | zero => intro a1 a2 a3 μ h; rw [p_X12_knownIn_b8_z] at h; cases h
  | succ n ih =>
    intro a1 a2 a3 μ h p e s m below meth c A ls H locs cx hr hlk hA hl hw
    have hx := cx.1
    have hb := cx.2.1
    rw [p_X12_knownIn_b8_s] at h
    refine lv_iload_n hx hb dX12_knownIn_8 rfl (lv_at hl 3 rfl) ?_
    refine lv_sipush (v := 210) hx hb dX12_knownIn_9 (by decide) ?_
    refine lv_iload_n hx hb dX12_knownIn_12 rfl (lv_at hl 1 rfl) ?_
    refine lv_imul hx hb dX12_knownIn_13 ?_
    refine lv_aload_n hx hb dX12_knownIn_14 rfl (lv_at hl 0 rfl) ?_
    refine g_get cx hw inX12 (ci := 11) rfl 101 (by decide) rfl (v := .ref (ad 58)) shm_0 rfl fl_X12_190 dX12_knownIn_15 ?_
    refine lv_iload_n hx hb dX12_knownIn_18 rfl (lv_at hl 1 rfl) ?_
    refine g_iald cx hw shm_58 h dX12_knownIn_19 (fun h => ?_)
    refine lv_iadd hx hb dX12_knownIn_20 ?_
    refine lv_icmp_ge (tgt := 50) hx hb dX12_knownIn_21 (by decide) (fun c2 => ?_) (fun c2 => ?_)
    · rw [if_pos c2] at h
      refine lv_iload_n hx hb dX12_knownIn_50 rfl (lv_at hl 2 rfl) ?_
      exact g_iret cx hr hlk hw h dX12_knownIn_51
    · rw [if_neg c2] at h
      refine lv_iload_n hx hb dX12_knownIn_24 rfl (lv_at hl 2 rfl) ?_
      refine lv_aload_n hx hb dX12_knownIn_25 rfl (lv_at hl 0 rfl) ?_
      refine g_get cx hw inX12 (ci := 11) rfl 103 (by decide) rfl (v := .ref (ad 60)) shm_0 rfl fl_X12_196 dX12_knownIn_26 ?_
      refine lv_iload_n hx hb dX12_knownIn_29 rfl (lv_at hl 3 rfl) ?_
      refine g_iald cx hw shm_60 h dX12_knownIn_30 (fun h => ?_)
      refine s_callI (As := [.int (μ.1 60 a3.toNatClampNeg)]) (rest := [.int a2]) cx hw hA (t_X12_isNumber l G (μ.1 60 a3.toNatClampNeg)) ml_X12_710 st_X12_isNumber in_X12 co_X12_isNumber hd_X12_isNumber rfl ⟨(Nat.le_of_ble_eq_true rfl), (Nat.le_of_ble_eq_true rfl)⟩ hl.1 rfl (Nat.le_of_ble_eq_true rfl) dX12_knownIn_31 rfl (fun H locs hw => ?_)
      refine lv_if_eq (tgt := 41) hx hb dX12_knownIn_34 (by decide) (fun c3 => ?_) (fun c3 => ?_)
      · rw [if_pos c3] at h
        refine lv_iconst (v := 0) hx hb dX12_knownIn_41 (by decide) ?_
        exact t_X12_knownIn_b42 l G ad av _ ih a1 a3 (0 : Int32) a2 μ h p e s m below meth c A ls H locs cx hr hlk hA (lv_sub hl [0, 1, 3] rfl) hw
      · rw [if_neg c3] at h
        refine lv_iconst (v := 1) hx hb dX12_knownIn_37 (by decide) ?_
        refine lv_goto (tgt := 42) hx hb dX12_knownIn_38 (by decide) ?_
        exact t_X12_knownIn_b42 l G ad av _ ih a1 a3 (1 : Int32) a2 μ h p e s m below meth c A ls H locs cx hr hlk hA (lv_sub hl [0, 1, 3] rfl) hw
theorem p_X12_knownIn_ex : ∃ f : Int32 → Mem → Option (Int32 × Mem), ∀ (a1 : Int32) (μ : Mem), f a1 μ = bv ((210 : Int32) * a1) (fun v1 => p_X12_knownIn_b8  FUEL a1 (0 : Int32) v1 μ) := ⟨fun (a1 : Int32) (μ : Mem) => bv ((210 : Int32) * a1) (fun v1 => p_X12_knownIn_b8  FUEL a1 (0 : Int32) v1 μ), fun _ _ => rfl⟩
noncomputable def p_X12_knownIn : Int32 → Mem → Option (Int32 × Mem) := Classical.choose p_X12_knownIn_ex
theorem p_X12_knownIn_eq (a1 : Int32) (μ : Mem) : p_X12_knownIn a1 μ = bv ((210 : Int32) * a1) (fun v1 => p_X12_knownIn_b8  FUEL a1 (0 : Int32) v1 μ) := Classical.choose_spec p_X12_knownIn_ex a1 μ
set_option maxHeartbeats 4000000 in
set_option maxRecDepth 100000 in
theorem t_X12_knownIn (l : Launch) (G : Gt) (ad : Nat → Nat) (a1 : Int32) (μ : Mem) {r : Int32} {μz : Mem} (h : p_X12_knownIn a1 μ = some (r, μz)) : Mt l yX12_knownIn cX12_knownIn 4 (some .int) ({ frames := 1, cells := 0, slots := 0, locals := 20 } : Room) G [.ref (ad 0), .int a1] (wd 1 G ad μ) (eI 1 G ad r μz) := by
  refine Bk.mt (by decide) rfl (Nat.le_of_ble_eq_true rfl) ?_
  intro p e s m below meth c A ls H locs cx hr hlk hA hl hw
  have hx := cx.1
  have hb := cx.2.1
  have hl : lv_has ls 4 [(0, .ref (ad 0)), (1, .int a1)] := hl
  rw [p_X12_knownIn_eq] at h
  refine lv_iconst (v := 0) hx hb dX12_knownIn_0 (by decide) ?_
  refine lv_istore_n (lv' := [(2, .int 0), (0, .ref (ad 0)), (1, .int a1)]) hx hb dX12_knownIn_1 rfl hl (by decide) rfl (fun ls hl => ?_)
  refine lv_sipush (v := 210) hx hb dX12_knownIn_2 (by decide) ?_
  refine lv_iload_n hx hb dX12_knownIn_5 rfl (lv_at hl 2 rfl) ?_
  refine lv_imul hx hb dX12_knownIn_6 ?_
  obtain ⟨v1, ev1, h⟩ := bv_ex h
  refine lv_topi (fun y9 z9 => ?_)
  obtain rfl : v1 = y9 := ev1.trans z9.symm
  refine lv_istore_n (lv' := [(3, .int v1), (2, .int 0), (0, .ref (ad 0)), (1, .int a1)]) hx hb dX12_knownIn_7 rfl hl (by decide) rfl (fun ls hl => ?_)
  exact t_X12_knownIn_b8 l G ad _  FUEL a1 (0 : Int32) v1 μ h p e s m below meth c A ls H locs cx hr hlk hA (lv_sub hl [2, 3, 1, 0] rfl) hw
