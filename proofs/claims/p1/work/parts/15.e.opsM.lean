theorem Met.ofWF {l : Launch} {y : MethodName} {ws ws' : List Cond} {rm : Room} {Pc : Array Value → State → Prop} {Qc : Array Value → State → Outcome → State → Prop} {mc ms : Nat} {free : Addr → Prop} {cc : ByteArray} {maxL : Nat} {ret : Option FieldType}
    (hy : plainFor y = true) (hw : ws = Cond.code y cc maxL ret :: ws')
    (body : ∀ p e s m args below meth c s₁, BodyLoose p l y (headSpec ws rm) cc maxL ret e s m args below meth c s₁ → c.maxLocals = maxL → Pc args s →
      W p l e (headSpec ws rm).room s m args below meth c s.heap [] 0 0 (MQ below Qc args s mc ms free) (entryFrame m args maxL)) : Met l y ws rm Pc Qc mc ms free := by
  refine MetFree.of_bodySF (code := cc) (maxLocals := maxL) (ret := ret) hy ?_ ?_
  · intro args s m h hn
    obtain ⟨meth, c, h1, h2, h3, h4, h5, h6, -, -⟩ := Cond.code_spec hn (atoms_spec (ws := ws) h _ (by rw [hw]; exact List.mem_cons_self))
    exact ⟨meth, c, h1, h2, h3, h4, h5, h6⟩
  · intro p e s m args below meth c s₁ B hml hP _
    have hh0 : s₁.heap = s.heap := by rw [B.state]; rfl
    obtain ⟨t, a1, o, b1, b2, b3⟩ := body p e s m args below meth c s₁ B hml hP s₁ hh0 (Stand.of_body B)
    exact ⟨t, o, a1, b1, b2, ⟨b3.1, b3.2⟩⟩
section Rows
variable {p : Program} {l : Launch} {e : Env} {R : Room} {s : State} {m : MethodId} {args : Array Value} {below : List Frame} {meth : Method} {c : Code} {H : Heap} {locs : List Loc} {cells slots : Nat} {Q : State → Prop}
variable {cc : ByteArray} {pc : Nat} {ls : Array Slot} {rest : List Value} {A : Nat → Prop} {H0 : Heap} {ws ws' : va_W} {a nL : Nat} {own : String} {G : Gt}
theorem Mt.ofF {y : MethodName} {mL : Nat} {rt : Option FieldType} {rm : Room} {av : List Value} {W0 : va_W} {Qf : (Nat → Prop) → Array Value → State → Outcome → State → Prop} (hy : plainFor y = true) (hown : y.cls = own) (hav : (lg_sl av).length ≤ mL)
    (body : ∀ (p : Program) (e : Env) (s : State) (m : MethodId) (below : List Frame) (meth : Method) (c : Code) (A : Nat → Prop) (ls : Array Slot), Cx p s m c av.toArray cc mL own G → meth.sig.returnType = rt → meth.locks = false → meth.name = y.name → (∀ q : Nat, s.heap.size ≤ q → A q) → lv_has ls mL (lv_args 0 av) → Wd G A W0 s.heap s.heap [] →
      W p l e rm s m av.toArray below meth c s.heap [] 0 0 (MQ below (Qf A) av.toArray s rm.cells rm.slots A) (F0 m 0 ls [])) : Mt l y cc mL rt rm G av W0 Qf := by
  intro sz
  refine Met.ofWF (cc := cc) (maxL := mL) (ret := rt) hy rfl ?_
  intro p e s m args below meth c s₁ B hml hv
  obtain ⟨rfl, hsz, hP, hK, hD0⟩ := hv
  have hts := atoms_spec (ws := ws_ y cc mL rt) B.pre
  have hts : ∀ w ∈ lw_all, w.before _ s = true := fun w h => hts w (List.mem_cons_of_mem _ h)
  subst hsz
  have hD := hD0.self (sz := s.heap.size)
  have hl := lv_entry av (n := mL) hav
  rw [lg_entry_eq]
  generalize (lg_sl av ++ List.replicate (mL - (lg_sl av).length) Slot.unset).toArray = ls at hl ⊢
  exact body p e s m below meth c (va_A W0 s.heap.size) ls ⟨B.exec, B.bytes, hml, hown ▸ findClass_of_methodNamed B.named, hts, hK⟩ B.returns B.notSynchronized (name_of_methodNamed B.named B.method).1 (fun q h => Or.inr h) hl ⟨hP, hD, va_S.rf⟩
end Rows

abbrev yF_i2f : MethodName := ⟨"java/lang/Float", "intBitsToFloat", "(I)F"⟩
abbrev yF_f2i : MethodName := ⟨"java/lang/Float", "floatToRawIntBits", "(F)I"⟩
theorem na_i2f : Cond.native yF_i2f ∈ lw_all := lw_t9 (i := 39) (by decide +kernel) rfl
theorem sF_i2f : Cond.static yF_i2f ∈ lw_all := lw_t9 (i := 38) (by decide +kernel) rfl
theorem na_f2i : Cond.native yF_f2i ∈ lw_all := lw_t9 (i := 58) (by decide +kernel) rfl
theorem sF_f2i : Cond.static yF_f2i ∈ lw_all := lw_t9 (i := 57) (by decide +kernel) rfl
theorem ml_X12_296 : Cond.methodLink RX12 296 yF_i2f ∈ lw_all := lw_t9 (i := 37) (by decide +kernel) rfl
theorem ml_Jxf58ca_74 : Cond.methodLink RJxf58ca 74 yF_f2i ∈ lw_all := lw_t9 (i := 56) (by decide +kernel) rfl
section Nat4
variable {p : Program} {l : Launch} {e : Env} {R : Room} {s : State} {m : MethodId} {args : Array Value} {below : List Frame} {meth : Method} {c : Code} {H : Heap} {locs : List Loc} {cells slots : Nat} {Q : State → Prop} {cc : ByteArray} {pc nL : Nat} {ls : Array Slot} {rest : List Value} {own : String} {G : Gt}
theorem r_i2f {index : Nat} {b : Int32} (cx : Cx p s m c args cc nL own G) (hlink : Cond.methodLink own index yF_i2f ∈ lw_all) (hls : ls.size = nL) (hv : vn_sni2f b = false) (hframes : 1 ≤ R.frames) (hlocals : (rest.map fun v => v.category).sum + 15 ≤ R.locals) (hdg : decode cc pc = .ok (.invokestatic index, 3))
    (k : W p l e R s m args below meth c H locs cells slots Q (F0 m (pc + 3) ls (.float b.toUInt32 :: rest))) : W p l e R s m args below meth c H locs cells slots Q (F0 m pc ls (.int b :: rest)) :=
  vn_i2f cx.1 cx.2.1 (cx.2.2.1.trans hls.symm) cx.2.2.2.1 (cx.2.2.2.2.1 _ hlink) (cx.2.2.2.2.1 _ na_i2f) (cx.2.2.2.2.1 _ sF_i2f) (cx.2.2.2.2.1 _ in_Jxf58ca) hv hframes hlocals hdg k
theorem r_f2i {index : Nat} {b : UInt32} (cx : Cx p s m c args cc nL own G) (hlink : Cond.methodLink own index yF_f2i ∈ lw_all) (hls : ls.size = nL) (hframes : 1 ≤ R.frames) (hlocals : (rest.map fun v => v.category).sum + 15 ≤ R.locals) (hdg : decode cc pc = .ok (.invokestatic index, 3))
    (k : W p l e R s m args below meth c H locs cells slots Q (F0 m (pc + 3) ls (.int b.toInt32 :: rest))) : W p l e R s m args below meth c H locs cells slots Q (F0 m pc ls (.float b :: rest)) :=
  vn_f2i cx.1 cx.2.1 (cx.2.2.1.trans hls.symm) cx.2.2.2.1 (cx.2.2.2.2.1 _ hlink) (cx.2.2.2.2.1 _ na_f2i) (cx.2.2.2.2.1 _ sF_f2i) (cx.2.2.2.2.1 _ in_Jxf58ca) hframes hlocals hdg k
end Nat4
theorem m_isNan_ex : ∃ f : Int32 → Int32, ∀ (x : Int32), f x = (if (x &&& (2147483647 : Int32)) ≤ (2139095040 : Int32) then (0) else (1)) := ⟨fun (x : Int32) => (if (x &&& (2147483647 : Int32)) ≤ (2139095040 : Int32) then (0) else (1)), fun _ => rfl⟩
noncomputable def m_isNan : Int32 → Int32 := Classical.choose m_isNan_ex
theorem m_isNan_eq (x : Int32) : m_isNan x = (if (x &&& (2147483647 : Int32)) ≤ (2139095040 : Int32) then (0) else (1)) := Classical.choose_spec m_isNan_ex x
set_option maxHeartbeats 4000000 in
set_option maxRecDepth 100000 in
theorem g_isNan (l : Launch) (G : Gt) (x : Int32) : Mt l yX12_isNan cX12_isNan 1 (some .boolean) ({ frames := 0, cells := 0, slots := 0, locals := 0 } : Room) G [.int x] [] (qI G (fun (r : Int32) (w : Unit) => r = m_isNan x) (fun w => [])) := by
  refine Mt.of (own := RX12) (cc := cX12_isNan) (by decide) rfl (Nat.le_of_ble_eq_true rfl) ?_
  intro p e s m below meth c A ls cx hr hlk hmn hA hl hw
  have hx := cx.1
  have hb := cx.2.1
  have hl : lv_has ls 1 [(0, .int x)] := hl
  refine lv_iload_n hx hb dX12_isNan_0 rfl (lv_at hl 0 rfl) ?_
  refine lv_ldcw hx hb cx.2.2.2.1 (cx.2.2.2.2.1 _ cs_X12_311) dX12_isNan_1 ?_
  refine lv_iand hx hb dX12_isNan_4 ?_
  refine lv_topi (fun v1 ev1 => ?_)
  refine lv_ldcw hx hb cx.2.2.2.1 (cx.2.2.2.2.1 _ cs_X12_312) dX12_isNan_5 ?_
  refine lv_icmp_le (tgt := 15) hx hb dX12_isNan_8 (by decide) (fun c2 => ?_) (fun c2 => ?_)
  · refine lv_iconst (v := 0) hx hb dX12_isNan_15 (by decide) ?_
    have hw : Wd G A [] s.heap _ _ := hw.sub [] rfl rfl
    exact r_zret cx hr rfl hlk () (by subst ev1; rw [m_isNan_eq, if_pos c2]) hw (Nat.le_of_ble_eq_true rfl) (Nat.le_of_ble_eq_true rfl) dX12_isNan_16
  · refine lv_iconst (v := 1) hx hb dX12_isNan_11 (by decide) ?_
    refine lv_goto (tgt := 16) hx hb dX12_isNan_12 (by decide) ?_
    have hw : Wd G A [] s.heap _ _ := hw.sub [] rfl rfl
    exact r_zret cx hr rfl hlk () (by subst ev1; rw [m_isNan_eq, if_neg c2]) hw (Nat.le_of_ble_eq_true rfl) (Nat.le_of_ble_eq_true rfl) dX12_isNan_16

theorem m_isInf_ex : ∃ f : Int32 → Int32, ∀ (x : Int32), f x = (if (x &&& (2147483647 : Int32)) = (2139095040 : Int32) then (1) else (0)) := ⟨fun (x : Int32) => (if (x &&& (2147483647 : Int32)) = (2139095040 : Int32) then (1) else (0)), fun _ => rfl⟩
noncomputable def m_isInf : Int32 → Int32 := Classical.choose m_isInf_ex
theorem m_isInf_eq (x : Int32) : m_isInf x = (if (x &&& (2147483647 : Int32)) = (2139095040 : Int32) then (1) else (0)) := Classical.choose_spec m_isInf_ex x
set_option maxHeartbeats 4000000 in
set_option maxRecDepth 100000 in
theorem g_isInf (l : Launch) (G : Gt) (x : Int32) : Mt l yX12_isInfinite cX12_isInfinite 1 (some .boolean) ({ frames := 0, cells := 0, slots := 0, locals := 0 } : Room) G [.int x] [] (qI G (fun (r : Int32) (w : Unit) => r = m_isInf x) (fun w => [])) := by
  refine Mt.of (own := RX12) (cc := cX12_isInfinite) (by decide) rfl (Nat.le_of_ble_eq_true rfl) ?_
  intro p e s m below meth c A ls cx hr hlk hmn hA hl hw
  have hx := cx.1
  have hb := cx.2.1
  have hl : lv_has ls 1 [(0, .int x)] := hl
  refine lv_iload_n hx hb dX12_isInfinite_0 rfl (lv_at hl 0 rfl) ?_
  refine lv_ldcw hx hb cx.2.2.2.1 (cx.2.2.2.2.1 _ cs_X12_311) dX12_isInfinite_1 ?_
  refine lv_iand hx hb dX12_isInfinite_4 ?_
  refine lv_topi (fun v1 ev1 => ?_)
  refine lv_ldcw hx hb cx.2.2.2.1 (cx.2.2.2.2.1 _ cs_X12_312) dX12_isInfinite_5 ?_
  refine lv_icmp_ne (tgt := 15) hx hb dX12_isInfinite_8 (by decide) (fun c2 => ?_) (fun c2 => ?_)
  · refine lv_iconst (v := 0) hx hb dX12_isInfinite_15 (by decide) ?_
    have hw : Wd G A [] s.heap _ _ := hw.sub [] rfl rfl
    exact r_zret cx hr rfl hlk () (by subst ev1; rw [m_isInf_eq, if_neg c2]) hw (Nat.le_of_ble_eq_true rfl) (Nat.le_of_ble_eq_true rfl) dX12_isInfinite_16
  · refine lv_iconst (v := 1) hx hb dX12_isInfinite_11 (by decide) ?_
    refine lv_goto (tgt := 16) hx hb dX12_isInfinite_12 (by decide) ?_
    have hw : Wd G A [] s.heap _ _ := hw.sub [] rfl rfl
    exact r_zret cx hr rfl hlk () (by subst ev1; rw [m_isInf_eq, if_pos c2]) hw (Nat.le_of_ble_eq_true rfl) (Nat.le_of_ble_eq_true rfl) dX12_isInfinite_16

theorem m_floatOf_ex : ∃ f : Int32 → Int32, ∀ (x : Int32), f x = (if (m_isNan x) = (0 : Int32) then (x) else (2143289344)) := ⟨fun (x : Int32) => (if (m_isNan x) = (0 : Int32) then (x) else (2143289344)), fun _ => rfl⟩
noncomputable def m_floatOf : Int32 → Int32 := Classical.choose m_floatOf_ex
theorem m_floatOf_eq (x : Int32) : m_floatOf x = (if (m_isNan x) = (0 : Int32) then (x) else (2143289344)) := Classical.choose_spec m_floatOf_ex x
set_option maxHeartbeats 4000000 in
set_option maxRecDepth 100000 in
theorem g_floatOf (l : Launch) (G : Gt) (x : Int32) : Mt l yX12_floatOf cX12_floatOf 2 (some .int) ({ frames := 1, cells := 0, slots := 0, locals := 20 } : Room) G [.int 1, .int x] [] (qI G (fun (r : Int32) (w : Unit) => r = m_floatOf x) (fun w => [])) := by
  refine Mt.of (own := RX12) (cc := cX12_floatOf) (by decide) rfl (Nat.le_of_ble_eq_true rfl) ?_
  intro p e s m below meth c A ls cx hr hlk hmn hA hl hw
  have hx := cx.1
  have hb := cx.2.1
  have hl : lv_has ls 2 [(0, .int 1), (1, .int x)] := hl
  refine lv_iload_n hx hb dX12_floatOf_0 rfl (lv_at hl 0 rfl) ?_
  refine lv_iconst (v := 1) hx hb dX12_floatOf_1 (by decide) ?_
  refine lv_icmp_eq (tgt := 13) hx hb dX12_floatOf_2 (by decide) (fun _ => ?_) (fun c9 => absurd (by decide) c9)
  refine lv_iload_n hx hb dX12_floatOf_13 rfl (lv_at hl 1 rfl) ?_
  refine r_callS0I (As := [.int x]) (rest := []) cx hw hA (g_isNan l G x) ml_X12_291 st_X12_isNan in_X12 co_X12_isNan hd_X12_isNan rfl ⟨Nat.le_of_ble_eq_true rfl, Nat.le_of_ble_eq_true rfl⟩ hl.1 rfl (Nat.le_of_ble_eq_true rfl) dX12_floatOf_14 ⟨Nat.le_of_ble_eq_true rfl, Nat.le_of_ble_eq_true rfl⟩ (fun r2 H locs hr2 hw => ?_)
  refine lv_if_eq (tgt := 26) hx hb dX12_floatOf_17 (by decide) (fun c3 => ?_) (fun c3 => ?_)
  · refine lv_iload_n hx hb dX12_floatOf_26 rfl (lv_at hl 1 rfl) ?_
    have hw : Wd G A [] s.heap _ _ := hw.sub [] rfl rfl
    exact r_iret cx hr hlk () (by subst hr2; rw [m_floatOf_eq, if_pos c3]) hw (Nat.le_of_ble_eq_true rfl) (Nat.le_of_ble_eq_true rfl) dX12_floatOf_27
  · refine lv_ldcw hx hb cx.2.2.2.1 (cx.2.2.2.2.1 _ cs_X12_295) dX12_floatOf_20 ?_
    refine lv_goto (tgt := 27) hx hb dX12_floatOf_23 (by decide) ?_
    have hw : Wd G A [] s.heap _ _ := hw.sub [] rfl rfl
    exact r_iret cx hr hlk () (by subst hr2; rw [m_floatOf_eq, if_neg c3]) hw (Nat.le_of_ble_eq_true rfl) (Nat.le_of_ble_eq_true rfl) dX12_floatOf_27

theorem mN (x : Int32) : m_isNan x = 0 ↔ nn x % 2147483648 ≤ 2139095040 := by
  have hx := nn_lt x
  rw [m_isNan_eq, and_size]
  have e : nI (nn x % 2147483648) ≤ (2139095040 : Int32) ↔ nn x % 2147483648 ≤ 2139095040 := nI_leI (a := nn x % 2147483648) (b := 2139095040) (by omega) (by decide)
  by_cases c : nn x % 2147483648 ≤ 2139095040
  · rw [if_pos (e.mpr c)]; exact ⟨fun _ => c, fun _ => rfl⟩
  · rw [if_neg (fun z => c (e.mp z))]; exact ⟨fun z => absurd z (by decide), fun z => absurd z c⟩
theorem mI (x : Int32) : m_isInf x = 0 ↔ ¬ nn x % 2147483648 = 2139095040 := by
  have hx := nn_lt x
  rw [m_isInf_eq, and_size]
  have e : nI (nn x % 2147483648) = (2139095040 : Int32) ↔ nn x % 2147483648 = 2139095040 := nI_eq (a := nn x % 2147483648) (b := 2139095040) (by omega) (by decide)
  by_cases c : nn x % 2147483648 = 2139095040
  · rw [if_pos (e.mpr c)]; exact ⟨fun z => absurd z (by decide), fun z => absurd c z⟩
  · rw [if_neg (fun z => c (e.mp z))]; exact ⟨fun _ => c, fun _ => rfl⟩
theorem mZ (x : Int32) : x &&& (2147483647 : Int32) = 0 ↔ nn x % 2147483648 = 0 := by
  have hx := nn_lt x
  rw [and_size]
  exact nI_eq (a := nn x % 2147483648) (b := 0) (by omega) (by decide)
theorem mE (x y : Int32) : x = y ↔ nn x = nn y := ⟨fun h => by rw [h], fun h => nu_inj h⟩
theorem sni_nn {x : Int32} (h : nn x % 2147483648 ≤ 2139095040) : vn_sni2f x = false := by
  unfold vn_sni2f
  have e : ¬ (x.toUInt32 &&& 0x7fffffff > 0x7f800000) := by
    rw [gt_iff_lt, UInt32.lt_iff_toNat_lt, UInt32.toNat_and]
    show ¬ (2139095040 < nn x &&& 2147483647)
    rw [andS31]; omega
  rw [decide_eq_false e]; rfl
theorem sni_of {x : Int32} (h : m_isNan x = 0) : vn_sni2f x = false := sni_nn ((mN x).mp h)
theorem m_intOf_ex : ∃ f : Int32 → Int32, ∀ (x : Int32), f x = (if (m_isNan x) = (0 : Int32) then ((FP.f2i x.toUInt32)) else (0)) := ⟨fun (x : Int32) => (if (m_isNan x) = (0 : Int32) then ((FP.f2i x.toUInt32)) else (0)), fun _ => rfl⟩
noncomputable def m_intOf : Int32 → Int32 := Classical.choose m_intOf_ex
theorem m_intOf_eq (x : Int32) : m_intOf x = (if (m_isNan x) = (0 : Int32) then ((FP.f2i x.toUInt32)) else (0)) := Classical.choose_spec m_intOf_ex x
set_option maxHeartbeats 4000000 in
set_option maxRecDepth 100000 in
theorem g_intOf (l : Launch) (G : Gt) (x : Int32) : Mt l yX12_intOf cX12_intOf 2 (some .int) ({ frames := 1, cells := 0, slots := 0, locals := 20 } : Room) G [.int 1, .int x] [] (qI G (fun (r : Int32) (w : Unit) => r = m_intOf x) (fun w => [])) := by
  refine Mt.of (own := RX12) (cc := cX12_intOf) (by decide) rfl (Nat.le_of_ble_eq_true rfl) ?_
  intro p e s m below meth c A ls cx hr hlk hmn hA hl hw
  have hx := cx.1
  have hb := cx.2.1
  have hl : lv_has ls 2 [(0, .int 1), (1, .int x)] := hl
  refine lv_iload_n hx hb dX12_intOf_0 rfl (lv_at hl 0 rfl) ?_
  refine lv_iconst (v := 1) hx hb dX12_intOf_1 (by decide) ?_
  refine lv_icmp_eq (tgt := 9) hx hb dX12_intOf_2 (by decide) (fun _ => ?_) (fun c9 => absurd (by decide) c9)
  refine lv_iload_n hx hb dX12_intOf_9 rfl (lv_at hl 1 rfl) ?_
  refine r_callS0I (As := [.int x]) (rest := []) cx hw hA (g_isNan l G x) ml_X12_291 st_X12_isNan in_X12 co_X12_isNan hd_X12_isNan rfl ⟨Nat.le_of_ble_eq_true rfl, Nat.le_of_ble_eq_true rfl⟩ hl.1 rfl (Nat.le_of_ble_eq_true rfl) dX12_intOf_10 ⟨Nat.le_of_ble_eq_true rfl, Nat.le_of_ble_eq_true rfl⟩ (fun r2 H locs hr2 hw => ?_)
  refine lv_if_eq (tgt := 20) hx hb dX12_intOf_13 (by decide) (fun c3 => ?_) (fun c3 => ?_)
  · refine lv_iload_n hx hb dX12_intOf_20 rfl (lv_at hl 1 rfl) ?_
    refine r_i2f cx ml_X12_296 hl.1 (sni_of (Eq.trans (Eq.symm hr2) c3)) (Nat.le_of_ble_eq_true rfl) (Nat.le_of_ble_eq_true rfl) dX12_intOf_21 ?_
    refine lv_f2i hx hb dX12_intOf_24 ?_
    refine lv_topi (fun v4 ev4 => ?_)
    have hw : Wd G A [] s.heap _ _ := hw.sub [] rfl rfl
    exact r_iret cx hr hlk () (by subst hr2 ev4; rw [m_intOf_eq, if_pos c3]) hw (Nat.le_of_ble_eq_true rfl) (Nat.le_of_ble_eq_true rfl) dX12_intOf_25
  · refine lv_iconst (v := 0) hx hb dX12_intOf_16 (by decide) ?_
    refine lv_goto (tgt := 25) hx hb dX12_intOf_17 (by decide) ?_
    have hw : Wd G A [] s.heap _ _ := hw.sub [] rfl rfl
    exact r_iret cx hr hlk () (by subst hr2; rw [m_intOf_eq, if_neg c3]) hw (Nat.le_of_ble_eq_true rfl) (Nat.le_of_ble_eq_true rfl) dX12_intOf_25

theorem m_isNaNF_ex : ∃ f : UInt32 → Int32, ∀ (b : UInt32), f b = (if (Op.cmpValue (FP.fcmp b b) CmpOp.l) = (0 : Int32) then (0) else (1)) := ⟨fun (b : UInt32) => (if (Op.cmpValue (FP.fcmp b b) CmpOp.l) = (0 : Int32) then (0) else (1)), fun _ => rfl⟩
noncomputable def m_isNaNF : UInt32 → Int32 := Classical.choose m_isNaNF_ex
theorem m_isNaNF_eq (b : UInt32) : m_isNaNF b = (if (Op.cmpValue (FP.fcmp b b) CmpOp.l) = (0 : Int32) then (0) else (1)) := Classical.choose_spec m_isNaNF_ex b
set_option maxHeartbeats 4000000 in
set_option maxRecDepth 100000 in
theorem g_isNaNF (l : Launch) (G : Gt) (b : UInt32) : Mt l yJxf58ca_isNaN_12338 cJxf58ca_isNaN_12338 1 (some .boolean) ({ frames := 0, cells := 0, slots := 0, locals := 0 } : Room) G [.float b] [] (qI G (fun (r : Int32) (w : Unit) => r = m_isNaNF b) (fun w => [])) := by
  refine Mt.ofF (own := RJxf58ca) (cc := cJxf58ca_isNaN_12338) (by decide +kernel) rfl (Nat.le_of_ble_eq_true rfl) ?_
  intro p e s m below meth c A ls cx hr hlk hmn hA hl hw
  have hx := cx.1
  have hb := cx.2.1
  have hl : lv_has ls 1 [(0, .float b)] := hl
  refine lv_fload_n hx hb dJxf58ca_isNaN_12338_0 rfl (lv_at hl 0 rfl) ?_
  refine lv_fload_n hx hb dJxf58ca_isNaN_12338_1 rfl (lv_at hl 0 rfl) ?_
  refine lv_fcmp hx hb dJxf58ca_isNaN_12338_2 ?_
  refine lv_topi (fun v1 ev1 => ?_)
  refine lv_if_eq (tgt := 10) hx hb dJxf58ca_isNaN_12338_3 (by decide) (fun c2 => ?_) (fun c2 => ?_)
  · refine lv_iconst (v := 0) hx hb dJxf58ca_isNaN_12338_10 (by decide) ?_
    have hw : Wd G A [] s.heap _ _ := hw.sub [] rfl rfl
    exact r_zret cx hr rfl hlk () (by subst ev1; rw [m_isNaNF_eq, if_pos c2]) hw (Nat.le_of_ble_eq_true rfl) (Nat.le_of_ble_eq_true rfl) dJxf58ca_isNaN_12338_11
  · refine lv_iconst (v := 1) hx hb dJxf58ca_isNaN_12338_6 (by decide) ?_
    refine lv_goto (tgt := 11) hx hb dJxf58ca_isNaN_12338_7 (by decide) ?_
    have hw : Wd G A [] s.heap _ _ := hw.sub [] rfl rfl
    exact r_zret cx hr rfl hlk () (by subst ev1; rw [m_isNaNF_eq, if_neg c2]) hw (Nat.le_of_ble_eq_true rfl) (Nat.le_of_ble_eq_true rfl) dJxf58ca_isNaN_12338_11

theorem m_f2ib_ex : ∃ f : UInt32 → Int32, ∀ (b : UInt32), f b = (if (m_isNaNF b) = (0 : Int32) then (b.toInt32) else (2143289344)) := ⟨fun (b : UInt32) => (if (m_isNaNF b) = (0 : Int32) then (b.toInt32) else (2143289344)), fun _ => rfl⟩
noncomputable def m_f2ib : UInt32 → Int32 := Classical.choose m_f2ib_ex
theorem m_f2ib_eq (b : UInt32) : m_f2ib b = (if (m_isNaNF b) = (0 : Int32) then (b.toInt32) else (2143289344)) := Classical.choose_spec m_f2ib_ex b
set_option maxHeartbeats 4000000 in
set_option maxRecDepth 100000 in
theorem g_f2ib (l : Launch) (G : Gt) (b : UInt32) : Mt l yJxf58ca_floatToIntBits_5c35a cJxf58ca_floatToIntBits_5c35a 1 (some .int) ({ frames := 1, cells := 0, slots := 0, locals := 20 } : Room) G [.float b] [] (qI G (fun (r : Int32) (w : Unit) => r = m_f2ib b) (fun w => [])) := by
  refine Mt.ofF (own := RJxf58ca) (cc := cJxf58ca_floatToIntBits_5c35a) (by decide +kernel) rfl (Nat.le_of_ble_eq_true rfl) ?_
  intro p e s m below meth c A ls cx hr hlk hmn hA hl hw
  have hx := cx.1
  have hb := cx.2.1
  have hl : lv_has ls 1 [(0, .float b)] := hl
  refine lv_fload_n hx hb dJxf58ca_floatToIntBits_5c35a_0 rfl (lv_at hl 0 rfl) ?_
  refine r_callS0I (As := [.float b]) (rest := []) cx hw hA (g_isNaNF l G b) ml_Jxf58ca_59 st_Jxf58ca_isNaN_12338 in_Jxf58ca co_Jxf58ca_isNaN_12338 hd_Jxf58ca_isNaN_12338 rfl ⟨Nat.le_of_ble_eq_true rfl, Nat.le_of_ble_eq_true rfl⟩ hl.1 rfl (Nat.le_of_ble_eq_true rfl) dJxf58ca_floatToIntBits_5c35a_1 ⟨Nat.le_of_ble_eq_true rfl, Nat.le_of_ble_eq_true rfl⟩ (fun r2 H locs hr2 hw => ?_)
  refine lv_if_ne (tgt := 12) hx hb dJxf58ca_floatToIntBits_5c35a_4 (by decide) (fun c3 => ?_) (fun c3 => ?_)
  · refine lv_ldc hx hb cx.2.2.2.1 (cx.2.2.2.2.1 _ cs_Jxf58ca_77) dJxf58ca_floatToIntBits_5c35a_12 ?_
    have hw : Wd G A [] s.heap _ _ := hw.sub [] rfl rfl
    exact r_iret cx hr hlk () (by subst hr2; rw [m_f2ib_eq, if_neg c3]) hw (Nat.le_of_ble_eq_true rfl) (Nat.le_of_ble_eq_true rfl) dJxf58ca_floatToIntBits_5c35a_14
  · refine lv_fload_n hx hb dJxf58ca_floatToIntBits_5c35a_7 rfl (lv_at hl 0 rfl) ?_
    refine r_f2i cx ml_Jxf58ca_74 hl.1 (Nat.le_of_ble_eq_true rfl) (Nat.le_of_ble_eq_true rfl) dJxf58ca_floatToIntBits_5c35a_8 ?_
    refine lv_topi (fun v4 ev4 => ?_)
    have hw : Wd G A [] s.heap _ _ := hw.sub [] rfl rfl
    exact r_iret cx hr hlk () (by subst hr2 ev4; rw [m_f2ib_eq, if_pos c3]) hw (Nat.le_of_ble_eq_true rfl) (Nat.le_of_ble_eq_true rfl) dJxf58ca_floatToIntBits_5c35a_11

theorem m_bitsOf_ex : ∃ f : UInt32 → Int32, ∀ (b : UInt32), f b = ((m_f2ib b)) := ⟨fun (b : UInt32) => ((m_f2ib b)), fun _ => rfl⟩
noncomputable def m_bitsOf : UInt32 → Int32 := Classical.choose m_bitsOf_ex
theorem m_bitsOf_eq (b : UInt32) : m_bitsOf b = ((m_f2ib b)) := Classical.choose_spec m_bitsOf_ex b
set_option maxHeartbeats 4000000 in
set_option maxRecDepth 100000 in
theorem g_bitsOf (l : Launch) (G : Gt) (b : UInt32) : Mt l yX12_bitsOf cX12_bitsOf 1 (some .int) ({ frames := 2, cells := 0, slots := 0, locals := 40 } : Room) G [.float b] [] (qI G (fun (r : Int32) (w : Unit) => r = m_bitsOf b) (fun w => [])) := by
  refine Mt.of (own := RX12) (cc := cX12_bitsOf) (by decide) rfl (Nat.le_of_ble_eq_true rfl) ?_
  intro p e s m below meth c A ls cx hr hlk hmn hA hl hw
  have hx := cx.1
  have hb := cx.2.1
  have hl : lv_has ls 1 [(0, .float b)] := hl
  refine lv_fload_n hx hb dX12_bitsOf_0 rfl (lv_at hl 0 rfl) ?_
  refine r_callS0I (As := [.float b]) (rest := []) cx hw hA (g_f2ib l G b) ml_X12_302 st_Jxf58ca_floatToIntBits_5c35a in_Jxf58ca co_Jxf58ca_floatToIntBits_5c35a hd_Jxf58ca_floatToIntBits_5c35a rfl ⟨Nat.le_of_ble_eq_true rfl, Nat.le_of_ble_eq_true rfl⟩ hl.1 rfl (Nat.le_of_ble_eq_true rfl) dX12_bitsOf_1 ⟨Nat.le_of_ble_eq_true rfl, Nat.le_of_ble_eq_true rfl⟩ (fun r2 H locs hr2 hw => ?_)
  have hw : Wd G A [] s.heap _ _ := hw.sub [] rfl rfl
  exact r_iret cx hr hlk () (by subst hr2; rw [m_bitsOf_eq]) hw (Nat.le_of_ble_eq_true rfl) (Nat.le_of_ble_eq_true rfl) dX12_bitsOf_4

theorem m_noN43_ex : ∃ f : Int32 → Int32 → Int32, ∀ (x : Int32) (y : Int32), f x y = (if (m_isNan x) = (0 : Int32) then (if (m_isNan y) = (0 : Int32) then (if (m_isInf x) = (0 : Int32) then (0) else (if (m_isInf y) = (0 : Int32) then (0) else (if x = y then (0) else (1)))) else (1)) else (1)) := ⟨fun (x : Int32) (y : Int32) => (if (m_isNan x) = (0 : Int32) then (if (m_isNan y) = (0 : Int32) then (if (m_isInf x) = (0 : Int32) then (0) else (if (m_isInf y) = (0 : Int32) then (0) else (if x = y then (0) else (1)))) else (1)) else (1)), fun _ _ => rfl⟩
noncomputable def m_noN43 : Int32 → Int32 → Int32 := Classical.choose m_noN43_ex
theorem m_noN43_eq (x : Int32) (y : Int32) : m_noN43 x y = (if (m_isNan x) = (0 : Int32) then (if (m_isNan y) = (0 : Int32) then (if (m_isInf x) = (0 : Int32) then (0) else (if (m_isInf y) = (0 : Int32) then (0) else (if x = y then (0) else (1)))) else (1)) else (1)) := Classical.choose_spec m_noN43_ex x y
set_option maxHeartbeats 4000000 in
set_option maxRecDepth 100000 in
theorem g_noN43 (l : Launch) (G : Gt) (x : Int32) (y : Int32) : Mt l yX12_isNoNumber cX12_isNoNumber 4 (some .boolean) ({ frames := 1, cells := 0, slots := 0, locals := 20 } : Room) G [.int 43, .int x, .int y] [] (qI G (fun (r : Int32) (w : Unit) => r = m_noN43 x y) (fun w => [])) := by
  refine Mt.of (own := RX12) (cc := cX12_isNoNumber) (by decide) rfl (Nat.le_of_ble_eq_true rfl) ?_
  intro p e s m below meth c A ls cx hr hlk hmn hA hl hw
  have hx := cx.1
  have hb := cx.2.1
  have hl : lv_has ls 4 [(0, .int 43), (1, .int x), (2, .int y)] := hl
  refine lv_iload_n hx hb dX12_isNoNumber_0 rfl (lv_at hl 1 rfl) ?_
  refine r_callS0I (As := [.int x]) (rest := []) cx hw hA (g_isNan l G x) ml_X12_291 st_X12_isNan in_X12 co_X12_isNan hd_X12_isNan rfl ⟨Nat.le_of_ble_eq_true rfl, Nat.le_of_ble_eq_true rfl⟩ hl.1 rfl (Nat.le_of_ble_eq_true rfl) dX12_isNoNumber_1 ⟨Nat.le_of_ble_eq_true rfl, Nat.le_of_ble_eq_true rfl⟩ (fun r2 H locs hr2 hw => ?_)
  refine lv_if_ne (tgt := 14) hx hb dX12_isNoNumber_4 (by decide) (fun c3 => ?_) (fun c3 => ?_)
  · refine lv_iconst (v := 1) hx hb dX12_isNoNumber_14 (by decide) ?_
    have hw : Wd G A [] s.heap _ _ := hw.sub [] rfl rfl
    exact r_zret cx hr rfl hlk () (by subst hr2; rw [m_noN43_eq, if_neg c3]) hw (Nat.le_of_ble_eq_true rfl) (Nat.le_of_ble_eq_true rfl) dX12_isNoNumber_15
  · refine lv_iload_n hx hb dX12_isNoNumber_7 rfl (lv_at hl 2 rfl) ?_
    refine r_callS0I (As := [.int y]) (rest := []) cx hw hA (g_isNan l G y) ml_X12_291 st_X12_isNan in_X12 co_X12_isNan hd_X12_isNan rfl ⟨Nat.le_of_ble_eq_true rfl, Nat.le_of_ble_eq_true rfl⟩ hl.1 rfl (Nat.le_of_ble_eq_true rfl) dX12_isNoNumber_8 ⟨Nat.le_of_ble_eq_true rfl, Nat.le_of_ble_eq_true rfl⟩ (fun r5 H locs hr5 hw => ?_)
    refine lv_if_eq (tgt := 16) hx hb dX12_isNoNumber_11 (by decide) (fun c6 => ?_) (fun c6 => ?_)
    · refine lv_iload_n hx hb dX12_isNoNumber_16 rfl (lv_at hl 1 rfl) ?_
      refine r_callS0I (As := [.int x]) (rest := []) cx hw hA (g_isInf l G x) ml_X12_313 st_X12_isInfinite in_X12 co_X12_isInfinite hd_X12_isInfinite rfl ⟨Nat.le_of_ble_eq_true rfl, Nat.le_of_ble_eq_true rfl⟩ hl.1 rfl (Nat.le_of_ble_eq_true rfl) dX12_isNoNumber_17 ⟨Nat.le_of_ble_eq_true rfl, Nat.le_of_ble_eq_true rfl⟩ (fun r8 H locs hr8 hw => ?_)
      refine lv_if_eq (tgt := 34) hx hb dX12_isNoNumber_20 (by decide) (fun c9 => ?_) (fun c9 => ?_)
      · refine lv_iconst (v := 0) hx hb dX12_isNoNumber_34 (by decide) ?_
        refine lv_istore_n (lv' := [(3, .int 0), (0, .int 43), (1, .int x), (2, .int y)]) hx hb dX12_isNoNumber_35 rfl hl (by decide) rfl (fun ls hl => ?_)
        refine lv_iload_n hx hb dX12_isNoNumber_36 rfl (lv_at hl 1 rfl) ?_
        refine lv_tableIn (tgt := 68) hx hb dX12_isNoNumber_37 (by decide +kernel) (by decide +kernel) rfl (by decide) ?_
        refine lv_iload_n hx hb dX12_isNoNumber_68 rfl (lv_at hl 0 rfl) ?_
        refine lv_if_eq (tgt := 81) hx hb dX12_isNoNumber_69 (by decide) (fun _ => ?_) (fun c9 => absurd (by decide) c9)
        refine lv_iconst (v := 0) hx hb dX12_isNoNumber_81 (by decide) ?_
        have hw : Wd G A [] s.heap _ _ := hw.sub [] rfl rfl
        exact r_zret cx hr rfl hlk () (by subst hr2 hr5 hr8; rw [m_noN43_eq, if_pos c3, if_pos c6, if_pos c9]) hw (Nat.le_of_ble_eq_true rfl) (Nat.le_of_ble_eq_true rfl) dX12_isNoNumber_82
      · refine lv_iload_n hx hb dX12_isNoNumber_23 rfl (lv_at hl 2 rfl) ?_
        refine r_callS0I (As := [.int y]) (rest := []) cx hw hA (g_isInf l G y) ml_X12_313 st_X12_isInfinite in_X12 co_X12_isInfinite hd_X12_isInfinite rfl ⟨Nat.le_of_ble_eq_true rfl, Nat.le_of_ble_eq_true rfl⟩ hl.1 rfl (Nat.le_of_ble_eq_true rfl) dX12_isNoNumber_24 ⟨Nat.le_of_ble_eq_true rfl, Nat.le_of_ble_eq_true rfl⟩ (fun r11 H locs hr11 hw => ?_)
        refine lv_if_eq (tgt := 34) hx hb dX12_isNoNumber_27 (by decide) (fun c12 => ?_) (fun c12 => ?_)
        · refine lv_iconst (v := 0) hx hb dX12_isNoNumber_34 (by decide) ?_
          refine lv_istore_n (lv' := [(3, .int 0), (0, .int 43), (1, .int x), (2, .int y)]) hx hb dX12_isNoNumber_35 rfl hl (by decide) rfl (fun ls hl => ?_)
          refine lv_iload_n hx hb dX12_isNoNumber_36 rfl (lv_at hl 1 rfl) ?_
          refine lv_tableIn (tgt := 68) hx hb dX12_isNoNumber_37 (by decide +kernel) (by decide +kernel) rfl (by decide) ?_
          refine lv_iload_n hx hb dX12_isNoNumber_68 rfl (lv_at hl 0 rfl) ?_
          refine lv_if_eq (tgt := 81) hx hb dX12_isNoNumber_69 (by decide) (fun _ => ?_) (fun c9 => absurd (by decide) c9)
          refine lv_iconst (v := 0) hx hb dX12_isNoNumber_81 (by decide) ?_
          have hw : Wd G A [] s.heap _ _ := hw.sub [] rfl rfl
          exact r_zret cx hr rfl hlk () (by subst hr2 hr5 hr8 hr11; rw [m_noN43_eq, if_pos c3, if_pos c6, if_neg c9, if_pos c12]) hw (Nat.le_of_ble_eq_true rfl) (Nat.le_of_ble_eq_true rfl) dX12_isNoNumber_82
        · refine lv_iconst (v := 1) hx hb dX12_isNoNumber_30 (by decide) ?_
          refine lv_goto (tgt := 35) hx hb dX12_isNoNumber_31 (by decide) ?_
          refine lv_istore_n (lv' := [(3, .int 1), (0, .int 43), (1, .int x), (2, .int y)]) hx hb dX12_isNoNumber_35 rfl hl (by decide) rfl (fun ls hl => ?_)
          refine lv_iload_n hx hb dX12_isNoNumber_36 rfl (lv_at hl 1 rfl) ?_
          refine lv_tableIn (tgt := 68) hx hb dX12_isNoNumber_37 (by decide +kernel) (by decide +kernel) rfl (by decide) ?_
          refine lv_iload_n hx hb dX12_isNoNumber_68 rfl (lv_at hl 0 rfl) ?_
          refine lv_if_eq (tgt := 81) hx hb dX12_isNoNumber_69 (by decide) (fun c9 => absurd c9 (by decide)) (fun _ => ?_)
          refine lv_iload_n hx hb dX12_isNoNumber_72 rfl (lv_at hl 2 rfl) ?_
          refine lv_iload_n hx hb dX12_isNoNumber_73 rfl (lv_at hl 3 rfl) ?_
          refine lv_icmp_eq (tgt := 81) hx hb dX12_isNoNumber_74 (by decide) (fun c13 => ?_) (fun c13 => ?_)
          · refine lv_iconst (v := 0) hx hb dX12_isNoNumber_81 (by decide) ?_
            have hw : Wd G A [] s.heap _ _ := hw.sub [] rfl rfl
            exact r_zret cx hr rfl hlk () (by subst hr2 hr5 hr8 hr11; rw [m_noN43_eq, if_pos c3, if_pos c6, if_neg c9, if_neg c12, if_pos c13]) hw (Nat.le_of_ble_eq_true rfl) (Nat.le_of_ble_eq_true rfl) dX12_isNoNumber_82
          · refine lv_iconst (v := 1) hx hb dX12_isNoNumber_77 (by decide) ?_
            refine lv_goto (tgt := 82) hx hb dX12_isNoNumber_78 (by decide) ?_
            have hw : Wd G A [] s.heap _ _ := hw.sub [] rfl rfl
            exact r_zret cx hr rfl hlk () (by subst hr2 hr5 hr8 hr11; rw [m_noN43_eq, if_pos c3, if_pos c6, if_neg c9, if_neg c12, if_neg c13]) hw (Nat.le_of_ble_eq_true rfl) (Nat.le_of_ble_eq_true rfl) dX12_isNoNumber_82
    · refine lv_iconst (v := 1) hx hb dX12_isNoNumber_14 (by decide) ?_
      have hw : Wd G A [] s.heap _ _ := hw.sub [] rfl rfl
      exact r_zret cx hr rfl hlk () (by subst hr2 hr5; rw [m_noN43_eq, if_pos c3, if_neg c6]) hw (Nat.le_of_ble_eq_true rfl) (Nat.le_of_ble_eq_true rfl) dX12_isNoNumber_15

theorem m_noN45_ex : ∃ f : Int32 → Int32 → Int32, ∀ (x : Int32) (y : Int32), f x y = (if (m_isNan x) = (0 : Int32) then (if (m_isNan y) = (0 : Int32) then (if (m_isInf x) = (0 : Int32) then (0) else (if (m_isInf y) = (0 : Int32) then (0) else (if x = y then (1) else (0)))) else (1)) else (1)) := ⟨fun (x : Int32) (y : Int32) => (if (m_isNan x) = (0 : Int32) then (if (m_isNan y) = (0 : Int32) then (if (m_isInf x) = (0 : Int32) then (0) else (if (m_isInf y) = (0 : Int32) then (0) else (if x = y then (1) else (0)))) else (1)) else (1)), fun _ _ => rfl⟩
noncomputable def m_noN45 : Int32 → Int32 → Int32 := Classical.choose m_noN45_ex
theorem m_noN45_eq (x : Int32) (y : Int32) : m_noN45 x y = (if (m_isNan x) = (0 : Int32) then (if (m_isNan y) = (0 : Int32) then (if (m_isInf x) = (0 : Int32) then (0) else (if (m_isInf y) = (0 : Int32) then (0) else (if x = y then (1) else (0)))) else (1)) else (1)) := Classical.choose_spec m_noN45_ex x y
set_option maxHeartbeats 4000000 in
set_option maxRecDepth 100000 in
theorem g_noN45 (l : Launch) (G : Gt) (x : Int32) (y : Int32) : Mt l yX12_isNoNumber cX12_isNoNumber 4 (some .boolean) ({ frames := 1, cells := 0, slots := 0, locals := 20 } : Room) G [.int 45, .int x, .int y] [] (qI G (fun (r : Int32) (w : Unit) => r = m_noN45 x y) (fun w => [])) := by
  refine Mt.of (own := RX12) (cc := cX12_isNoNumber) (by decide) rfl (Nat.le_of_ble_eq_true rfl) ?_
  intro p e s m below meth c A ls cx hr hlk hmn hA hl hw
  have hx := cx.1
  have hb := cx.2.1
  have hl : lv_has ls 4 [(0, .int 45), (1, .int x), (2, .int y)] := hl
  refine lv_iload_n hx hb dX12_isNoNumber_0 rfl (lv_at hl 1 rfl) ?_
  refine r_callS0I (As := [.int x]) (rest := []) cx hw hA (g_isNan l G x) ml_X12_291 st_X12_isNan in_X12 co_X12_isNan hd_X12_isNan rfl ⟨Nat.le_of_ble_eq_true rfl, Nat.le_of_ble_eq_true rfl⟩ hl.1 rfl (Nat.le_of_ble_eq_true rfl) dX12_isNoNumber_1 ⟨Nat.le_of_ble_eq_true rfl, Nat.le_of_ble_eq_true rfl⟩ (fun r2 H locs hr2 hw => ?_)
  refine lv_if_ne (tgt := 14) hx hb dX12_isNoNumber_4 (by decide) (fun c3 => ?_) (fun c3 => ?_)
  · refine lv_iconst (v := 1) hx hb dX12_isNoNumber_14 (by decide) ?_
    have hw : Wd G A [] s.heap _ _ := hw.sub [] rfl rfl
    exact r_zret cx hr rfl hlk () (by subst hr2; rw [m_noN45_eq, if_neg c3]) hw (Nat.le_of_ble_eq_true rfl) (Nat.le_of_ble_eq_true rfl) dX12_isNoNumber_15
  · refine lv_iload_n hx hb dX12_isNoNumber_7 rfl (lv_at hl 2 rfl) ?_
    refine r_callS0I (As := [.int y]) (rest := []) cx hw hA (g_isNan l G y) ml_X12_291 st_X12_isNan in_X12 co_X12_isNan hd_X12_isNan rfl ⟨Nat.le_of_ble_eq_true rfl, Nat.le_of_ble_eq_true rfl⟩ hl.1 rfl (Nat.le_of_ble_eq_true rfl) dX12_isNoNumber_8 ⟨Nat.le_of_ble_eq_true rfl, Nat.le_of_ble_eq_true rfl⟩ (fun r5 H locs hr5 hw => ?_)
    refine lv_if_eq (tgt := 16) hx hb dX12_isNoNumber_11 (by decide) (fun c6 => ?_) (fun c6 => ?_)
    · refine lv_iload_n hx hb dX12_isNoNumber_16 rfl (lv_at hl 1 rfl) ?_
      refine r_callS0I (As := [.int x]) (rest := []) cx hw hA (g_isInf l G x) ml_X12_313 st_X12_isInfinite in_X12 co_X12_isInfinite hd_X12_isInfinite rfl ⟨Nat.le_of_ble_eq_true rfl, Nat.le_of_ble_eq_true rfl⟩ hl.1 rfl (Nat.le_of_ble_eq_true rfl) dX12_isNoNumber_17 ⟨Nat.le_of_ble_eq_true rfl, Nat.le_of_ble_eq_true rfl⟩ (fun r8 H locs hr8 hw => ?_)
      refine lv_if_eq (tgt := 34) hx hb dX12_isNoNumber_20 (by decide) (fun c9 => ?_) (fun c9 => ?_)
      · refine lv_iconst (v := 0) hx hb dX12_isNoNumber_34 (by decide) ?_
        refine lv_istore_n (lv' := [(3, .int 0), (0, .int 45), (1, .int x), (2, .int y)]) hx hb dX12_isNoNumber_35 rfl hl (by decide) rfl (fun ls hl => ?_)
        refine lv_iload_n hx hb dX12_isNoNumber_36 rfl (lv_at hl 1 rfl) ?_
        refine lv_tableIn (tgt := 83) hx hb dX12_isNoNumber_37 (by decide +kernel) (by decide +kernel) rfl (by decide) ?_
        refine lv_iload_n hx hb dX12_isNoNumber_83 rfl (lv_at hl 0 rfl) ?_
        refine lv_if_eq (tgt := 96) hx hb dX12_isNoNumber_84 (by decide) (fun _ => ?_) (fun c9 => absurd (by decide) c9)
        refine lv_iconst (v := 0) hx hb dX12_isNoNumber_96 (by decide) ?_
        have hw : Wd G A [] s.heap _ _ := hw.sub [] rfl rfl
        exact r_zret cx hr rfl hlk () (by subst hr2 hr5 hr8; rw [m_noN45_eq, if_pos c3, if_pos c6, if_pos c9]) hw (Nat.le_of_ble_eq_true rfl) (Nat.le_of_ble_eq_true rfl) dX12_isNoNumber_97
      · refine lv_iload_n hx hb dX12_isNoNumber_23 rfl (lv_at hl 2 rfl) ?_
        refine r_callS0I (As := [.int y]) (rest := []) cx hw hA (g_isInf l G y) ml_X12_313 st_X12_isInfinite in_X12 co_X12_isInfinite hd_X12_isInfinite rfl ⟨Nat.le_of_ble_eq_true rfl, Nat.le_of_ble_eq_true rfl⟩ hl.1 rfl (Nat.le_of_ble_eq_true rfl) dX12_isNoNumber_24 ⟨Nat.le_of_ble_eq_true rfl, Nat.le_of_ble_eq_true rfl⟩ (fun r11 H locs hr11 hw => ?_)
        refine lv_if_eq (tgt := 34) hx hb dX12_isNoNumber_27 (by decide) (fun c12 => ?_) (fun c12 => ?_)
        · refine lv_iconst (v := 0) hx hb dX12_isNoNumber_34 (by decide) ?_
          refine lv_istore_n (lv' := [(3, .int 0), (0, .int 45), (1, .int x), (2, .int y)]) hx hb dX12_isNoNumber_35 rfl hl (by decide) rfl (fun ls hl => ?_)
          refine lv_iload_n hx hb dX12_isNoNumber_36 rfl (lv_at hl 1 rfl) ?_
          refine lv_tableIn (tgt := 83) hx hb dX12_isNoNumber_37 (by decide +kernel) (by decide +kernel) rfl (by decide) ?_
          refine lv_iload_n hx hb dX12_isNoNumber_83 rfl (lv_at hl 0 rfl) ?_
          refine lv_if_eq (tgt := 96) hx hb dX12_isNoNumber_84 (by decide) (fun _ => ?_) (fun c9 => absurd (by decide) c9)
          refine lv_iconst (v := 0) hx hb dX12_isNoNumber_96 (by decide) ?_
          have hw : Wd G A [] s.heap _ _ := hw.sub [] rfl rfl
          exact r_zret cx hr rfl hlk () (by subst hr2 hr5 hr8 hr11; rw [m_noN45_eq, if_pos c3, if_pos c6, if_neg c9, if_pos c12]) hw (Nat.le_of_ble_eq_true rfl) (Nat.le_of_ble_eq_true rfl) dX12_isNoNumber_97
        · refine lv_iconst (v := 1) hx hb dX12_isNoNumber_30 (by decide) ?_
          refine lv_goto (tgt := 35) hx hb dX12_isNoNumber_31 (by decide) ?_
          refine lv_istore_n (lv' := [(3, .int 1), (0, .int 45), (1, .int x), (2, .int y)]) hx hb dX12_isNoNumber_35 rfl hl (by decide) rfl (fun ls hl => ?_)
          refine lv_iload_n hx hb dX12_isNoNumber_36 rfl (lv_at hl 1 rfl) ?_
          refine lv_tableIn (tgt := 83) hx hb dX12_isNoNumber_37 (by decide +kernel) (by decide +kernel) rfl (by decide) ?_
          refine lv_iload_n hx hb dX12_isNoNumber_83 rfl (lv_at hl 0 rfl) ?_
          refine lv_if_eq (tgt := 96) hx hb dX12_isNoNumber_84 (by decide) (fun c9 => absurd c9 (by decide)) (fun _ => ?_)
          refine lv_iload_n hx hb dX12_isNoNumber_87 rfl (lv_at hl 2 rfl) ?_
          refine lv_iload_n hx hb dX12_isNoNumber_88 rfl (lv_at hl 3 rfl) ?_
          refine lv_icmp_ne (tgt := 96) hx hb dX12_isNoNumber_89 (by decide) (fun c13 => ?_) (fun c13 => ?_)
          · refine lv_iconst (v := 0) hx hb dX12_isNoNumber_96 (by decide) ?_
            have hw : Wd G A [] s.heap _ _ := hw.sub [] rfl rfl
            exact r_zret cx hr rfl hlk () (by subst hr2 hr5 hr8 hr11; rw [m_noN45_eq, if_pos c3, if_pos c6, if_neg c9, if_neg c12, if_neg c13]) hw (Nat.le_of_ble_eq_true rfl) (Nat.le_of_ble_eq_true rfl) dX12_isNoNumber_97
          · refine lv_iconst (v := 1) hx hb dX12_isNoNumber_92 (by decide) ?_
            refine lv_goto (tgt := 97) hx hb dX12_isNoNumber_93 (by decide) ?_
            have hw : Wd G A [] s.heap _ _ := hw.sub [] rfl rfl
            exact r_zret cx hr rfl hlk () (by subst hr2 hr5 hr8 hr11; rw [m_noN45_eq, if_pos c3, if_pos c6, if_neg c9, if_neg c12, if_pos c13]) hw (Nat.le_of_ble_eq_true rfl) (Nat.le_of_ble_eq_true rfl) dX12_isNoNumber_97
    · refine lv_iconst (v := 1) hx hb dX12_isNoNumber_14 (by decide) ?_
      have hw : Wd G A [] s.heap _ _ := hw.sub [] rfl rfl
      exact r_zret cx hr rfl hlk () (by subst hr2 hr5; rw [m_noN45_eq, if_pos c3, if_neg c6]) hw (Nat.le_of_ble_eq_true rfl) (Nat.le_of_ble_eq_true rfl) dX12_isNoNumber_15

theorem m_noN42_ex : ∃ f : Int32 → Int32 → Int32, ∀ (x : Int32) (y : Int32), f x y = (if (m_isNan x) = (0 : Int32) then (if (m_isNan y) = (0 : Int32) then (if (m_isInf x) = (0 : Int32) then (if (m_isInf x) = (0 : Int32) then (if (x &&& (2147483647 : Int32)) = (0 : Int32) then (if (m_isInf y) = (0 : Int32) then (0) else (1)) else (0)) else (if (y &&& (2147483647 : Int32)) = (0 : Int32) then (1) else (if (x &&& (2147483647 : Int32)) = (0 : Int32) then (if (m_isInf y) = (0 : Int32) then (0) else (1)) else (0)))) else (if (m_isInf y) = (0 : Int32) then (if (m_isInf x) = (0 : Int32) then (if (x &&& (2147483647 : Int32)) = (0 : Int32) then (if (m_isInf y) = (0 : Int32) then (0) else (1)) else (0)) else (if (y &&& (2147483647 : Int32)) = (0 : Int32) then (1) else (if (x &&& (2147483647 : Int32)) = (0 : Int32) then (if (m_isInf y) = (0 : Int32) then (0) else (1)) else (0)))) else (if (m_isInf x) = (0 : Int32) then (if (x &&& (2147483647 : Int32)) = (0 : Int32) then (if (m_isInf y) = (0 : Int32) then (0) else (1)) else (0)) else (if (y &&& (2147483647 : Int32)) = (0 : Int32) then (1) else (if (x &&& (2147483647 : Int32)) = (0 : Int32) then (if (m_isInf y) = (0 : Int32) then (0) else (1)) else (0)))))) else (1)) else (1)) := ⟨fun (x : Int32) (y : Int32) => (if (m_isNan x) = (0 : Int32) then (if (m_isNan y) = (0 : Int32) then (if (m_isInf x) = (0 : Int32) then (if (m_isInf x) = (0 : Int32) then (if (x &&& (2147483647 : Int32)) = (0 : Int32) then (if (m_isInf y) = (0 : Int32) then (0) else (1)) else (0)) else (if (y &&& (2147483647 : Int32)) = (0 : Int32) then (1) else (if (x &&& (2147483647 : Int32)) = (0 : Int32) then (if (m_isInf y) = (0 : Int32) then (0) else (1)) else (0)))) else (if (m_isInf y) = (0 : Int32) then (if (m_isInf x) = (0 : Int32) then (if (x &&& (2147483647 : Int32)) = (0 : Int32) then (if (m_isInf y) = (0 : Int32) then (0) else (1)) else (0)) else (if (y &&& (2147483647 : Int32)) = (0 : Int32) then (1) else (if (x &&& (2147483647 : Int32)) = (0 : Int32) then (if (m_isInf y) = (0 : Int32) then (0) else (1)) else (0)))) else (if (m_isInf x) = (0 : Int32) then (if (x &&& (2147483647 : Int32)) = (0 : Int32) then (if (m_isInf y) = (0 : Int32) then (0) else (1)) else (0)) else (if (y &&& (2147483647 : Int32)) = (0 : Int32) then (1) else (if (x &&& (2147483647 : Int32)) = (0 : Int32) then (if (m_isInf y) = (0 : Int32) then (0) else (1)) else (0)))))) else (1)) else (1)), fun _ _ => rfl⟩
noncomputable def m_noN42 : Int32 → Int32 → Int32 := Classical.choose m_noN42_ex
theorem m_noN42_eq (x : Int32) (y : Int32) : m_noN42 x y = (if (m_isNan x) = (0 : Int32) then (if (m_isNan y) = (0 : Int32) then (if (m_isInf x) = (0 : Int32) then (if (m_isInf x) = (0 : Int32) then (if (x &&& (2147483647 : Int32)) = (0 : Int32) then (if (m_isInf y) = (0 : Int32) then (0) else (1)) else (0)) else (if (y &&& (2147483647 : Int32)) = (0 : Int32) then (1) else (if (x &&& (2147483647 : Int32)) = (0 : Int32) then (if (m_isInf y) = (0 : Int32) then (0) else (1)) else (0)))) else (if (m_isInf y) = (0 : Int32) then (if (m_isInf x) = (0 : Int32) then (if (x &&& (2147483647 : Int32)) = (0 : Int32) then (if (m_isInf y) = (0 : Int32) then (0) else (1)) else (0)) else (if (y &&& (2147483647 : Int32)) = (0 : Int32) then (1) else (if (x &&& (2147483647 : Int32)) = (0 : Int32) then (if (m_isInf y) = (0 : Int32) then (0) else (1)) else (0)))) else (if (m_isInf x) = (0 : Int32) then (if (x &&& (2147483647 : Int32)) = (0 : Int32) then (if (m_isInf y) = (0 : Int32) then (0) else (1)) else (0)) else (if (y &&& (2147483647 : Int32)) = (0 : Int32) then (1) else (if (x &&& (2147483647 : Int32)) = (0 : Int32) then (if (m_isInf y) = (0 : Int32) then (0) else (1)) else (0)))))) else (1)) else (1)) := Classical.choose_spec m_noN42_ex x y
set_option maxHeartbeats 4000000 in
set_option maxRecDepth 100000 in
theorem g_noN42 (l : Launch) (G : Gt) (x : Int32) (y : Int32) : Mt l yX12_isNoNumber cX12_isNoNumber 4 (some .boolean) ({ frames := 1, cells := 0, slots := 0, locals := 20 } : Room) G [.int 42, .int x, .int y] [] (qI G (fun (r : Int32) (w : Unit) => r = m_noN42 x y) (fun w => [])) := by
  refine Mt.of (own := RX12) (cc := cX12_isNoNumber) (by decide) rfl (Nat.le_of_ble_eq_true rfl) ?_
  intro p e s m below meth c A ls cx hr hlk hmn hA hl hw
  have hx := cx.1
  have hb := cx.2.1
  have hl : lv_has ls 4 [(0, .int 42), (1, .int x), (2, .int y)] := hl
  refine lv_iload_n hx hb dX12_isNoNumber_0 rfl (lv_at hl 1 rfl) ?_
  refine r_callS0I (As := [.int x]) (rest := []) cx hw hA (g_isNan l G x) ml_X12_291 st_X12_isNan in_X12 co_X12_isNan hd_X12_isNan rfl ⟨Nat.le_of_ble_eq_true rfl, Nat.le_of_ble_eq_true rfl⟩ hl.1 rfl (Nat.le_of_ble_eq_true rfl) dX12_isNoNumber_1 ⟨Nat.le_of_ble_eq_true rfl, Nat.le_of_ble_eq_true rfl⟩ (fun r2 H locs hr2 hw => ?_)
  refine lv_if_ne (tgt := 14) hx hb dX12_isNoNumber_4 (by decide) (fun c3 => ?_) (fun c3 => ?_)
  · refine lv_iconst (v := 1) hx hb dX12_isNoNumber_14 (by decide) ?_
    have hw : Wd G A [] s.heap _ _ := hw.sub [] rfl rfl
    exact r_zret cx hr rfl hlk () (by subst hr2; rw [m_noN42_eq, if_neg c3]) hw (Nat.le_of_ble_eq_true rfl) (Nat.le_of_ble_eq_true rfl) dX12_isNoNumber_15
  · refine lv_iload_n hx hb dX12_isNoNumber_7 rfl (lv_at hl 2 rfl) ?_
    refine r_callS0I (As := [.int y]) (rest := []) cx hw hA (g_isNan l G y) ml_X12_291 st_X12_isNan in_X12 co_X12_isNan hd_X12_isNan rfl ⟨Nat.le_of_ble_eq_true rfl, Nat.le_of_ble_eq_true rfl⟩ hl.1 rfl (Nat.le_of_ble_eq_true rfl) dX12_isNoNumber_8 ⟨Nat.le_of_ble_eq_true rfl, Nat.le_of_ble_eq_true rfl⟩ (fun r5 H locs hr5 hw => ?_)
    refine lv_if_eq (tgt := 16) hx hb dX12_isNoNumber_11 (by decide) (fun c6 => ?_) (fun c6 => ?_)
    · refine lv_iload_n hx hb dX12_isNoNumber_16 rfl (lv_at hl 1 rfl) ?_
      refine r_callS0I (As := [.int x]) (rest := []) cx hw hA (g_isInf l G x) ml_X12_313 st_X12_isInfinite in_X12 co_X12_isInfinite hd_X12_isInfinite rfl ⟨Nat.le_of_ble_eq_true rfl, Nat.le_of_ble_eq_true rfl⟩ hl.1 rfl (Nat.le_of_ble_eq_true rfl) dX12_isNoNumber_17 ⟨Nat.le_of_ble_eq_true rfl, Nat.le_of_ble_eq_true rfl⟩ (fun r8 H locs hr8 hw => ?_)
      refine lv_if_eq (tgt := 34) hx hb dX12_isNoNumber_20 (by decide) (fun c9 => ?_) (fun c9 => ?_)
      · refine lv_iconst (v := 0) hx hb dX12_isNoNumber_34 (by decide) ?_
        refine lv_istore_n (lv' := [(3, .int 0), (0, .int 42), (1, .int x), (2, .int y)]) hx hb dX12_isNoNumber_35 rfl hl (by decide) rfl (fun ls hl => ?_)
        refine lv_iload_n hx hb dX12_isNoNumber_36 rfl (lv_at hl 1 rfl) ?_
        refine lv_tableIn (tgt := 98) hx hb dX12_isNoNumber_37 (by decide +kernel) (by decide +kernel) rfl (by decide) ?_
        refine lv_iload_n hx hb dX12_isNoNumber_98 rfl (lv_at hl 2 rfl) ?_
        refine r_callS0I (As := [.int x]) (rest := []) cx hw hA (g_isInf l G x) ml_X12_313 st_X12_isInfinite in_X12 co_X12_isInfinite hd_X12_isInfinite rfl ⟨Nat.le_of_ble_eq_true rfl, Nat.le_of_ble_eq_true rfl⟩ hl.1 rfl (Nat.le_of_ble_eq_true rfl) dX12_isNoNumber_99 ⟨Nat.le_of_ble_eq_true rfl, Nat.le_of_ble_eq_true rfl⟩ (fun r11 H locs hr11 hw => ?_)
        refine lv_if_eq (tgt := 113) hx hb dX12_isNoNumber_102 (by decide) (fun c12 => ?_) (fun c12 => ?_)
        · refine lv_iload_n hx hb dX12_isNoNumber_113 rfl (lv_at hl 2 rfl) ?_
          refine lv_ldcw hx hb cx.2.2.2.1 (cx.2.2.2.2.1 _ cs_X12_311) dX12_isNoNumber_114 ?_
          refine lv_iand hx hb dX12_isNoNumber_117 ?_
          refine lv_topi (fun v13 ev13 => ?_)
          refine lv_if_ne (tgt := 132) hx hb dX12_isNoNumber_118 (by decide) (fun c14 => ?_) (fun c14 => ?_)
          · refine lv_iconst (v := 0) hx hb dX12_isNoNumber_132 (by decide) ?_
            have hw : Wd G A [] s.heap _ _ := hw.sub [] rfl rfl
            exact r_zret cx hr rfl hlk () (by subst hr2 hr5 hr8 hr11 ev13; rw [m_noN42_eq, if_pos c3, if_pos c6, if_pos c9, if_pos c12, if_neg c14]) hw (Nat.le_of_ble_eq_true rfl) (Nat.le_of_ble_eq_true rfl) dX12_isNoNumber_133
          · refine lv_iload_n hx hb dX12_isNoNumber_121 rfl (lv_at hl 3 rfl) ?_
            refine r_callS0I (As := [.int y]) (rest := []) cx hw hA (g_isInf l G y) ml_X12_313 st_X12_isInfinite in_X12 co_X12_isInfinite hd_X12_isInfinite rfl ⟨Nat.le_of_ble_eq_true rfl, Nat.le_of_ble_eq_true rfl⟩ hl.1 rfl (Nat.le_of_ble_eq_true rfl) dX12_isNoNumber_122 ⟨Nat.le_of_ble_eq_true rfl, Nat.le_of_ble_eq_true rfl⟩ (fun r16 H locs hr16 hw => ?_)
            refine lv_if_eq (tgt := 132) hx hb dX12_isNoNumber_125 (by decide) (fun c17 => ?_) (fun c17 => ?_)
            · refine lv_iconst (v := 0) hx hb dX12_isNoNumber_132 (by decide) ?_
              have hw : Wd G A [] s.heap _ _ := hw.sub [] rfl rfl
              exact r_zret cx hr rfl hlk () (by subst hr2 hr5 hr8 hr11 ev13 hr16; rw [m_noN42_eq, if_pos c3, if_pos c6, if_pos c9, if_pos c12, if_pos c14, if_pos c17]) hw (Nat.le_of_ble_eq_true rfl) (Nat.le_of_ble_eq_true rfl) dX12_isNoNumber_133
            · refine lv_iconst (v := 1) hx hb dX12_isNoNumber_128 (by decide) ?_
              refine lv_goto (tgt := 133) hx hb dX12_isNoNumber_129 (by decide) ?_
              have hw : Wd G A [] s.heap _ _ := hw.sub [] rfl rfl
              exact r_zret cx hr rfl hlk () (by subst hr2 hr5 hr8 hr11 ev13 hr16; rw [m_noN42_eq, if_pos c3, if_pos c6, if_pos c9, if_pos c12, if_pos c14, if_neg c17]) hw (Nat.le_of_ble_eq_true rfl) (Nat.le_of_ble_eq_true rfl) dX12_isNoNumber_133
        · refine lv_iload_n hx hb dX12_isNoNumber_105 rfl (lv_at hl 3 rfl) ?_
          refine lv_ldcw hx hb cx.2.2.2.1 (cx.2.2.2.2.1 _ cs_X12_311) dX12_isNoNumber_106 ?_
          refine lv_iand hx hb dX12_isNoNumber_109 ?_
          refine lv_topi (fun v18 ev18 => ?_)
          refine lv_if_eq (tgt := 128) hx hb dX12_isNoNumber_110 (by decide) (fun c19 => ?_) (fun c19 => ?_)
          · refine lv_iconst (v := 1) hx hb dX12_isNoNumber_128 (by decide) ?_
            refine lv_goto (tgt := 133) hx hb dX12_isNoNumber_129 (by decide) ?_
            have hw : Wd G A [] s.heap _ _ := hw.sub [] rfl rfl
            exact r_zret cx hr rfl hlk () (by subst hr2 hr5 hr8 hr11 ev18; rw [m_noN42_eq, if_pos c3, if_pos c6, if_pos c9, if_neg c12, if_pos c19]) hw (Nat.le_of_ble_eq_true rfl) (Nat.le_of_ble_eq_true rfl) dX12_isNoNumber_133
          · refine lv_iload_n hx hb dX12_isNoNumber_113 rfl (lv_at hl 2 rfl) ?_
            refine lv_ldcw hx hb cx.2.2.2.1 (cx.2.2.2.2.1 _ cs_X12_311) dX12_isNoNumber_114 ?_
            refine lv_iand hx hb dX12_isNoNumber_117 ?_
            refine lv_topi (fun v20 ev20 => ?_)
            refine lv_if_ne (tgt := 132) hx hb dX12_isNoNumber_118 (by decide) (fun c21 => ?_) (fun c21 => ?_)
            · refine lv_iconst (v := 0) hx hb dX12_isNoNumber_132 (by decide) ?_
              have hw : Wd G A [] s.heap _ _ := hw.sub [] rfl rfl
              exact r_zret cx hr rfl hlk () (by subst hr2 hr5 hr8 hr11 ev18 ev20; rw [m_noN42_eq, if_pos c3, if_pos c6, if_pos c9, if_neg c12, if_neg c19, if_neg c21]) hw (Nat.le_of_ble_eq_true rfl) (Nat.le_of_ble_eq_true rfl) dX12_isNoNumber_133
            · refine lv_iload_n hx hb dX12_isNoNumber_121 rfl (lv_at hl 3 rfl) ?_
              refine r_callS0I (As := [.int y]) (rest := []) cx hw hA (g_isInf l G y) ml_X12_313 st_X12_isInfinite in_X12 co_X12_isInfinite hd_X12_isInfinite rfl ⟨Nat.le_of_ble_eq_true rfl, Nat.le_of_ble_eq_true rfl⟩ hl.1 rfl (Nat.le_of_ble_eq_true rfl) dX12_isNoNumber_122 ⟨Nat.le_of_ble_eq_true rfl, Nat.le_of_ble_eq_true rfl⟩ (fun r23 H locs hr23 hw => ?_)
              refine lv_if_eq (tgt := 132) hx hb dX12_isNoNumber_125 (by decide) (fun c24 => ?_) (fun c24 => ?_)
              · refine lv_iconst (v := 0) hx hb dX12_isNoNumber_132 (by decide) ?_
                have hw : Wd G A [] s.heap _ _ := hw.sub [] rfl rfl
                exact r_zret cx hr rfl hlk () (by subst hr2 hr5 hr8 hr11 ev18 ev20 hr23; rw [m_noN42_eq, if_pos c3, if_pos c6, if_pos c9, if_neg c12, if_neg c19, if_pos c21, if_pos c24]) hw (Nat.le_of_ble_eq_true rfl) (Nat.le_of_ble_eq_true rfl) dX12_isNoNumber_133
              · refine lv_iconst (v := 1) hx hb dX12_isNoNumber_128 (by decide) ?_
                refine lv_goto (tgt := 133) hx hb dX12_isNoNumber_129 (by decide) ?_
                have hw : Wd G A [] s.heap _ _ := hw.sub [] rfl rfl
                exact r_zret cx hr rfl hlk () (by subst hr2 hr5 hr8 hr11 ev18 ev20 hr23; rw [m_noN42_eq, if_pos c3, if_pos c6, if_pos c9, if_neg c12, if_neg c19, if_pos c21, if_neg c24]) hw (Nat.le_of_ble_eq_true rfl) (Nat.le_of_ble_eq_true rfl) dX12_isNoNumber_133
      · refine lv_iload_n hx hb dX12_isNoNumber_23 rfl (lv_at hl 2 rfl) ?_
        refine r_callS0I (As := [.int y]) (rest := []) cx hw hA (g_isInf l G y) ml_X12_313 st_X12_isInfinite in_X12 co_X12_isInfinite hd_X12_isInfinite rfl ⟨Nat.le_of_ble_eq_true rfl, Nat.le_of_ble_eq_true rfl⟩ hl.1 rfl (Nat.le_of_ble_eq_true rfl) dX12_isNoNumber_24 ⟨Nat.le_of_ble_eq_true rfl, Nat.le_of_ble_eq_true rfl⟩ (fun r26 H locs hr26 hw => ?_)
        refine lv_if_eq (tgt := 34) hx hb dX12_isNoNumber_27 (by decide) (fun c27 => ?_) (fun c27 => ?_)
        · refine lv_iconst (v := 0) hx hb dX12_isNoNumber_34 (by decide) ?_
          refine lv_istore_n (lv' := [(3, .int 0), (0, .int 42), (1, .int x), (2, .int y)]) hx hb dX12_isNoNumber_35 rfl hl (by decide) rfl (fun ls hl => ?_)
          refine lv_iload_n hx hb dX12_isNoNumber_36 rfl (lv_at hl 1 rfl) ?_
          refine lv_tableIn (tgt := 98) hx hb dX12_isNoNumber_37 (by decide +kernel) (by decide +kernel) rfl (by decide) ?_
          refine lv_iload_n hx hb dX12_isNoNumber_98 rfl (lv_at hl 2 rfl) ?_
          refine r_callS0I (As := [.int x]) (rest := []) cx hw hA (g_isInf l G x) ml_X12_313 st_X12_isInfinite in_X12 co_X12_isInfinite hd_X12_isInfinite rfl ⟨Nat.le_of_ble_eq_true rfl, Nat.le_of_ble_eq_true rfl⟩ hl.1 rfl (Nat.le_of_ble_eq_true rfl) dX12_isNoNumber_99 ⟨Nat.le_of_ble_eq_true rfl, Nat.le_of_ble_eq_true rfl⟩ (fun r29 H locs hr29 hw => ?_)
          refine lv_if_eq (tgt := 113) hx hb dX12_isNoNumber_102 (by decide) (fun c30 => ?_) (fun c30 => ?_)
          · refine lv_iload_n hx hb dX12_isNoNumber_113 rfl (lv_at hl 2 rfl) ?_
            refine lv_ldcw hx hb cx.2.2.2.1 (cx.2.2.2.2.1 _ cs_X12_311) dX12_isNoNumber_114 ?_
            refine lv_iand hx hb dX12_isNoNumber_117 ?_
            refine lv_topi (fun v31 ev31 => ?_)
            refine lv_if_ne (tgt := 132) hx hb dX12_isNoNumber_118 (by decide) (fun c32 => ?_) (fun c32 => ?_)
            · refine lv_iconst (v := 0) hx hb dX12_isNoNumber_132 (by decide) ?_
              have hw : Wd G A [] s.heap _ _ := hw.sub [] rfl rfl
              exact r_zret cx hr rfl hlk () (by subst hr2 hr5 hr8 hr26 hr29 ev31; rw [m_noN42_eq, if_pos c3, if_pos c6, if_neg c9, if_pos c27, if_pos c30, if_neg c32]) hw (Nat.le_of_ble_eq_true rfl) (Nat.le_of_ble_eq_true rfl) dX12_isNoNumber_133
            · refine lv_iload_n hx hb dX12_isNoNumber_121 rfl (lv_at hl 3 rfl) ?_
              refine r_callS0I (As := [.int y]) (rest := []) cx hw hA (g_isInf l G y) ml_X12_313 st_X12_isInfinite in_X12 co_X12_isInfinite hd_X12_isInfinite rfl ⟨Nat.le_of_ble_eq_true rfl, Nat.le_of_ble_eq_true rfl⟩ hl.1 rfl (Nat.le_of_ble_eq_true rfl) dX12_isNoNumber_122 ⟨Nat.le_of_ble_eq_true rfl, Nat.le_of_ble_eq_true rfl⟩ (fun r34 H locs hr34 hw => ?_)
              refine lv_if_eq (tgt := 132) hx hb dX12_isNoNumber_125 (by decide) (fun c35 => ?_) (fun c35 => ?_)
              · refine lv_iconst (v := 0) hx hb dX12_isNoNumber_132 (by decide) ?_
                have hw : Wd G A [] s.heap _ _ := hw.sub [] rfl rfl
                exact r_zret cx hr rfl hlk () (by subst hr2 hr5 hr8 hr26 hr29 ev31 hr34; rw [m_noN42_eq, if_pos c3, if_pos c6, if_neg c9, if_pos c27, if_pos c30, if_pos c32, if_pos c35]) hw (Nat.le_of_ble_eq_true rfl) (Nat.le_of_ble_eq_true rfl) dX12_isNoNumber_133
              · refine lv_iconst (v := 1) hx hb dX12_isNoNumber_128 (by decide) ?_
                refine lv_goto (tgt := 133) hx hb dX12_isNoNumber_129 (by decide) ?_
                have hw : Wd G A [] s.heap _ _ := hw.sub [] rfl rfl
                exact r_zret cx hr rfl hlk () (by subst hr2 hr5 hr8 hr26 hr29 ev31 hr34; rw [m_noN42_eq, if_pos c3, if_pos c6, if_neg c9, if_pos c27, if_pos c30, if_pos c32, if_neg c35]) hw (Nat.le_of_ble_eq_true rfl) (Nat.le_of_ble_eq_true rfl) dX12_isNoNumber_133
          · refine lv_iload_n hx hb dX12_isNoNumber_105 rfl (lv_at hl 3 rfl) ?_
            refine lv_ldcw hx hb cx.2.2.2.1 (cx.2.2.2.2.1 _ cs_X12_311) dX12_isNoNumber_106 ?_
            refine lv_iand hx hb dX12_isNoNumber_109 ?_
            refine lv_topi (fun v36 ev36 => ?_)
            refine lv_if_eq (tgt := 128) hx hb dX12_isNoNumber_110 (by decide) (fun c37 => ?_) (fun c37 => ?_)
            · refine lv_iconst (v := 1) hx hb dX12_isNoNumber_128 (by decide) ?_
              refine lv_goto (tgt := 133) hx hb dX12_isNoNumber_129 (by decide) ?_
              have hw : Wd G A [] s.heap _ _ := hw.sub [] rfl rfl
              exact r_zret cx hr rfl hlk () (by subst hr2 hr5 hr8 hr26 hr29 ev36; rw [m_noN42_eq, if_pos c3, if_pos c6, if_neg c9, if_pos c27, if_neg c30, if_pos c37]) hw (Nat.le_of_ble_eq_true rfl) (Nat.le_of_ble_eq_true rfl) dX12_isNoNumber_133
            · refine lv_iload_n hx hb dX12_isNoNumber_113 rfl (lv_at hl 2 rfl) ?_
              refine lv_ldcw hx hb cx.2.2.2.1 (cx.2.2.2.2.1 _ cs_X12_311) dX12_isNoNumber_114 ?_
              refine lv_iand hx hb dX12_isNoNumber_117 ?_
              refine lv_topi (fun v38 ev38 => ?_)
              refine lv_if_ne (tgt := 132) hx hb dX12_isNoNumber_118 (by decide) (fun c39 => ?_) (fun c39 => ?_)
              · refine lv_iconst (v := 0) hx hb dX12_isNoNumber_132 (by decide) ?_
                have hw : Wd G A [] s.heap _ _ := hw.sub [] rfl rfl
                exact r_zret cx hr rfl hlk () (by subst hr2 hr5 hr8 hr26 hr29 ev36 ev38; rw [m_noN42_eq, if_pos c3, if_pos c6, if_neg c9, if_pos c27, if_neg c30, if_neg c37, if_neg c39]) hw (Nat.le_of_ble_eq_true rfl) (Nat.le_of_ble_eq_true rfl) dX12_isNoNumber_133
              · refine lv_iload_n hx hb dX12_isNoNumber_121 rfl (lv_at hl 3 rfl) ?_
                refine r_callS0I (As := [.int y]) (rest := []) cx hw hA (g_isInf l G y) ml_X12_313 st_X12_isInfinite in_X12 co_X12_isInfinite hd_X12_isInfinite rfl ⟨Nat.le_of_ble_eq_true rfl, Nat.le_of_ble_eq_true rfl⟩ hl.1 rfl (Nat.le_of_ble_eq_true rfl) dX12_isNoNumber_122 ⟨Nat.le_of_ble_eq_true rfl, Nat.le_of_ble_eq_true rfl⟩ (fun r41 H locs hr41 hw => ?_)
                refine lv_if_eq (tgt := 132) hx hb dX12_isNoNumber_125 (by decide) (fun c42 => ?_) (fun c42 => ?_)
                · refine lv_iconst (v := 0) hx hb dX12_isNoNumber_132 (by decide) ?_
                  have hw : Wd G A [] s.heap _ _ := hw.sub [] rfl rfl
                  exact r_zret cx hr rfl hlk () (by subst hr2 hr5 hr8 hr26 hr29 ev36 ev38 hr41; rw [m_noN42_eq, if_pos c3, if_pos c6, if_neg c9, if_pos c27, if_neg c30, if_neg c37, if_pos c39, if_pos c42]) hw (Nat.le_of_ble_eq_true rfl) (Nat.le_of_ble_eq_true rfl) dX12_isNoNumber_133
                · refine lv_iconst (v := 1) hx hb dX12_isNoNumber_128 (by decide) ?_
                  refine lv_goto (tgt := 133) hx hb dX12_isNoNumber_129 (by decide) ?_
                  have hw : Wd G A [] s.heap _ _ := hw.sub [] rfl rfl
                  exact r_zret cx hr rfl hlk () (by subst hr2 hr5 hr8 hr26 hr29 ev36 ev38 hr41; rw [m_noN42_eq, if_pos c3, if_pos c6, if_neg c9, if_pos c27, if_neg c30, if_neg c37, if_pos c39, if_neg c42]) hw (Nat.le_of_ble_eq_true rfl) (Nat.le_of_ble_eq_true rfl) dX12_isNoNumber_133
        · refine lv_iconst (v := 1) hx hb dX12_isNoNumber_30 (by decide) ?_
          refine lv_goto (tgt := 35) hx hb dX12_isNoNumber_31 (by decide) ?_
          refine lv_istore_n (lv' := [(3, .int 1), (0, .int 42), (1, .int x), (2, .int y)]) hx hb dX12_isNoNumber_35 rfl hl (by decide) rfl (fun ls hl => ?_)
          refine lv_iload_n hx hb dX12_isNoNumber_36 rfl (lv_at hl 1 rfl) ?_
          refine lv_tableIn (tgt := 98) hx hb dX12_isNoNumber_37 (by decide +kernel) (by decide +kernel) rfl (by decide) ?_
          refine lv_iload_n hx hb dX12_isNoNumber_98 rfl (lv_at hl 2 rfl) ?_
          refine r_callS0I (As := [.int x]) (rest := []) cx hw hA (g_isInf l G x) ml_X12_313 st_X12_isInfinite in_X12 co_X12_isInfinite hd_X12_isInfinite rfl ⟨Nat.le_of_ble_eq_true rfl, Nat.le_of_ble_eq_true rfl⟩ hl.1 rfl (Nat.le_of_ble_eq_true rfl) dX12_isNoNumber_99 ⟨Nat.le_of_ble_eq_true rfl, Nat.le_of_ble_eq_true rfl⟩ (fun r44 H locs hr44 hw => ?_)
          refine lv_if_eq (tgt := 113) hx hb dX12_isNoNumber_102 (by decide) (fun c45 => ?_) (fun c45 => ?_)
          · refine lv_iload_n hx hb dX12_isNoNumber_113 rfl (lv_at hl 2 rfl) ?_
            refine lv_ldcw hx hb cx.2.2.2.1 (cx.2.2.2.2.1 _ cs_X12_311) dX12_isNoNumber_114 ?_
            refine lv_iand hx hb dX12_isNoNumber_117 ?_
            refine lv_topi (fun v46 ev46 => ?_)
            refine lv_if_ne (tgt := 132) hx hb dX12_isNoNumber_118 (by decide) (fun c47 => ?_) (fun c47 => ?_)
            · refine lv_iconst (v := 0) hx hb dX12_isNoNumber_132 (by decide) ?_
              have hw : Wd G A [] s.heap _ _ := hw.sub [] rfl rfl
              exact r_zret cx hr rfl hlk () (by subst hr2 hr5 hr8 hr26 hr44 ev46; rw [m_noN42_eq, if_pos c3, if_pos c6, if_neg c9, if_neg c27, if_pos c45, if_neg c47]) hw (Nat.le_of_ble_eq_true rfl) (Nat.le_of_ble_eq_true rfl) dX12_isNoNumber_133
            · refine lv_iload_n hx hb dX12_isNoNumber_121 rfl (lv_at hl 3 rfl) ?_
              refine r_callS0I (As := [.int y]) (rest := []) cx hw hA (g_isInf l G y) ml_X12_313 st_X12_isInfinite in_X12 co_X12_isInfinite hd_X12_isInfinite rfl ⟨Nat.le_of_ble_eq_true rfl, Nat.le_of_ble_eq_true rfl⟩ hl.1 rfl (Nat.le_of_ble_eq_true rfl) dX12_isNoNumber_122 ⟨Nat.le_of_ble_eq_true rfl, Nat.le_of_ble_eq_true rfl⟩ (fun r49 H locs hr49 hw => ?_)
              refine lv_if_eq (tgt := 132) hx hb dX12_isNoNumber_125 (by decide) (fun c50 => ?_) (fun c50 => ?_)
              · refine lv_iconst (v := 0) hx hb dX12_isNoNumber_132 (by decide) ?_
                have hw : Wd G A [] s.heap _ _ := hw.sub [] rfl rfl
                exact r_zret cx hr rfl hlk () (by subst hr2 hr5 hr8 hr26 hr44 ev46 hr49; rw [m_noN42_eq, if_pos c3, if_pos c6, if_neg c9, if_neg c27, if_pos c45, if_pos c47, if_pos c50]) hw (Nat.le_of_ble_eq_true rfl) (Nat.le_of_ble_eq_true rfl) dX12_isNoNumber_133
              · refine lv_iconst (v := 1) hx hb dX12_isNoNumber_128 (by decide) ?_
                refine lv_goto (tgt := 133) hx hb dX12_isNoNumber_129 (by decide) ?_
                have hw : Wd G A [] s.heap _ _ := hw.sub [] rfl rfl
                exact r_zret cx hr rfl hlk () (by subst hr2 hr5 hr8 hr26 hr44 ev46 hr49; rw [m_noN42_eq, if_pos c3, if_pos c6, if_neg c9, if_neg c27, if_pos c45, if_pos c47, if_neg c50]) hw (Nat.le_of_ble_eq_true rfl) (Nat.le_of_ble_eq_true rfl) dX12_isNoNumber_133
          · refine lv_iload_n hx hb dX12_isNoNumber_105 rfl (lv_at hl 3 rfl) ?_
            refine lv_ldcw hx hb cx.2.2.2.1 (cx.2.2.2.2.1 _ cs_X12_311) dX12_isNoNumber_106 ?_
            refine lv_iand hx hb dX12_isNoNumber_109 ?_
            refine lv_topi (fun v51 ev51 => ?_)
            refine lv_if_eq (tgt := 128) hx hb dX12_isNoNumber_110 (by decide) (fun c52 => ?_) (fun c52 => ?_)
            · refine lv_iconst (v := 1) hx hb dX12_isNoNumber_128 (by decide) ?_
              refine lv_goto (tgt := 133) hx hb dX12_isNoNumber_129 (by decide) ?_
              have hw : Wd G A [] s.heap _ _ := hw.sub [] rfl rfl
              exact r_zret cx hr rfl hlk () (by subst hr2 hr5 hr8 hr26 hr44 ev51; rw [m_noN42_eq, if_pos c3, if_pos c6, if_neg c9, if_neg c27, if_neg c45, if_pos c52]) hw (Nat.le_of_ble_eq_true rfl) (Nat.le_of_ble_eq_true rfl) dX12_isNoNumber_133
            · refine lv_iload_n hx hb dX12_isNoNumber_113 rfl (lv_at hl 2 rfl) ?_
              refine lv_ldcw hx hb cx.2.2.2.1 (cx.2.2.2.2.1 _ cs_X12_311) dX12_isNoNumber_114 ?_
              refine lv_iand hx hb dX12_isNoNumber_117 ?_
              refine lv_topi (fun v53 ev53 => ?_)
              refine lv_if_ne (tgt := 132) hx hb dX12_isNoNumber_118 (by decide) (fun c54 => ?_) (fun c54 => ?_)
              · refine lv_iconst (v := 0) hx hb dX12_isNoNumber_132 (by decide) ?_
                have hw : Wd G A [] s.heap _ _ := hw.sub [] rfl rfl
                exact r_zret cx hr rfl hlk () (by subst hr2 hr5 hr8 hr26 hr44 ev51 ev53; rw [m_noN42_eq, if_pos c3, if_pos c6, if_neg c9, if_neg c27, if_neg c45, if_neg c52, if_neg c54]) hw (Nat.le_of_ble_eq_true rfl) (Nat.le_of_ble_eq_true rfl) dX12_isNoNumber_133
              · refine lv_iload_n hx hb dX12_isNoNumber_121 rfl (lv_at hl 3 rfl) ?_
                refine r_callS0I (As := [.int y]) (rest := []) cx hw hA (g_isInf l G y) ml_X12_313 st_X12_isInfinite in_X12 co_X12_isInfinite hd_X12_isInfinite rfl ⟨Nat.le_of_ble_eq_true rfl, Nat.le_of_ble_eq_true rfl⟩ hl.1 rfl (Nat.le_of_ble_eq_true rfl) dX12_isNoNumber_122 ⟨Nat.le_of_ble_eq_true rfl, Nat.le_of_ble_eq_true rfl⟩ (fun r56 H locs hr56 hw => ?_)
                refine lv_if_eq (tgt := 132) hx hb dX12_isNoNumber_125 (by decide) (fun c57 => ?_) (fun c57 => ?_)
                · refine lv_iconst (v := 0) hx hb dX12_isNoNumber_132 (by decide) ?_
                  have hw : Wd G A [] s.heap _ _ := hw.sub [] rfl rfl
                  exact r_zret cx hr rfl hlk () (by subst hr2 hr5 hr8 hr26 hr44 ev51 ev53 hr56; rw [m_noN42_eq, if_pos c3, if_pos c6, if_neg c9, if_neg c27, if_neg c45, if_neg c52, if_pos c54, if_pos c57]) hw (Nat.le_of_ble_eq_true rfl) (Nat.le_of_ble_eq_true rfl) dX12_isNoNumber_133
                · refine lv_iconst (v := 1) hx hb dX12_isNoNumber_128 (by decide) ?_
                  refine lv_goto (tgt := 133) hx hb dX12_isNoNumber_129 (by decide) ?_
                  have hw : Wd G A [] s.heap _ _ := hw.sub [] rfl rfl
                  exact r_zret cx hr rfl hlk () (by subst hr2 hr5 hr8 hr26 hr44 ev51 ev53 hr56; rw [m_noN42_eq, if_pos c3, if_pos c6, if_neg c9, if_neg c27, if_neg c45, if_neg c52, if_pos c54, if_neg c57]) hw (Nat.le_of_ble_eq_true rfl) (Nat.le_of_ble_eq_true rfl) dX12_isNoNumber_133
    · refine lv_iconst (v := 1) hx hb dX12_isNoNumber_14 (by decide) ?_
      have hw : Wd G A [] s.heap _ _ := hw.sub [] rfl rfl
      exact r_zret cx hr rfl hlk () (by subst hr2 hr5; rw [m_noN42_eq, if_pos c3, if_neg c6]) hw (Nat.le_of_ble_eq_true rfl) (Nat.le_of_ble_eq_true rfl) dX12_isNoNumber_15

theorem m_noN47_ex : ∃ f : Int32 → Int32 → Int32, ∀ (x : Int32) (y : Int32), f x y = (if (m_isNan x) = (0 : Int32) then (if (m_isNan y) = (0 : Int32) then (if (m_isInf x) = (0 : Int32) then (if (x &&& (2147483647 : Int32)) = (0 : Int32) then (if (y &&& (2147483647 : Int32)) = (0 : Int32) then (1) else (0)) else (0)) else (if (m_isInf y) = (0 : Int32) then (if (x &&& (2147483647 : Int32)) = (0 : Int32) then (if (y &&& (2147483647 : Int32)) = (0 : Int32) then (1) else (0)) else (0)) else (1))) else (1)) else (1)) := ⟨fun (x : Int32) (y : Int32) => (if (m_isNan x) = (0 : Int32) then (if (m_isNan y) = (0 : Int32) then (if (m_isInf x) = (0 : Int32) then (if (x &&& (2147483647 : Int32)) = (0 : Int32) then (if (y &&& (2147483647 : Int32)) = (0 : Int32) then (1) else (0)) else (0)) else (if (m_isInf y) = (0 : Int32) then (if (x &&& (2147483647 : Int32)) = (0 : Int32) then (if (y &&& (2147483647 : Int32)) = (0 : Int32) then (1) else (0)) else (0)) else (1))) else (1)) else (1)), fun _ _ => rfl⟩
noncomputable def m_noN47 : Int32 → Int32 → Int32 := Classical.choose m_noN47_ex
theorem m_noN47_eq (x : Int32) (y : Int32) : m_noN47 x y = (if (m_isNan x) = (0 : Int32) then (if (m_isNan y) = (0 : Int32) then (if (m_isInf x) = (0 : Int32) then (if (x &&& (2147483647 : Int32)) = (0 : Int32) then (if (y &&& (2147483647 : Int32)) = (0 : Int32) then (1) else (0)) else (0)) else (if (m_isInf y) = (0 : Int32) then (if (x &&& (2147483647 : Int32)) = (0 : Int32) then (if (y &&& (2147483647 : Int32)) = (0 : Int32) then (1) else (0)) else (0)) else (1))) else (1)) else (1)) := Classical.choose_spec m_noN47_ex x y
set_option maxHeartbeats 4000000 in
set_option maxRecDepth 100000 in
theorem g_noN47 (l : Launch) (G : Gt) (x : Int32) (y : Int32) : Mt l yX12_isNoNumber cX12_isNoNumber 4 (some .boolean) ({ frames := 1, cells := 0, slots := 0, locals := 20 } : Room) G [.int 47, .int x, .int y] [] (qI G (fun (r : Int32) (w : Unit) => r = m_noN47 x y) (fun w => [])) := by
  refine Mt.of (own := RX12) (cc := cX12_isNoNumber) (by decide) rfl (Nat.le_of_ble_eq_true rfl) ?_
  intro p e s m below meth c A ls cx hr hlk hmn hA hl hw
  have hx := cx.1
  have hb := cx.2.1
  have hl : lv_has ls 4 [(0, .int 47), (1, .int x), (2, .int y)] := hl
  refine lv_iload_n hx hb dX12_isNoNumber_0 rfl (lv_at hl 1 rfl) ?_
  refine r_callS0I (As := [.int x]) (rest := []) cx hw hA (g_isNan l G x) ml_X12_291 st_X12_isNan in_X12 co_X12_isNan hd_X12_isNan rfl ⟨Nat.le_of_ble_eq_true rfl, Nat.le_of_ble_eq_true rfl⟩ hl.1 rfl (Nat.le_of_ble_eq_true rfl) dX12_isNoNumber_1 ⟨Nat.le_of_ble_eq_true rfl, Nat.le_of_ble_eq_true rfl⟩ (fun r2 H locs hr2 hw => ?_)
  refine lv_if_ne (tgt := 14) hx hb dX12_isNoNumber_4 (by decide) (fun c3 => ?_) (fun c3 => ?_)
  · refine lv_iconst (v := 1) hx hb dX12_isNoNumber_14 (by decide) ?_
    have hw : Wd G A [] s.heap _ _ := hw.sub [] rfl rfl
    exact r_zret cx hr rfl hlk () (by subst hr2; rw [m_noN47_eq, if_neg c3]) hw (Nat.le_of_ble_eq_true rfl) (Nat.le_of_ble_eq_true rfl) dX12_isNoNumber_15
  · refine lv_iload_n hx hb dX12_isNoNumber_7 rfl (lv_at hl 2 rfl) ?_
    refine r_callS0I (As := [.int y]) (rest := []) cx hw hA (g_isNan l G y) ml_X12_291 st_X12_isNan in_X12 co_X12_isNan hd_X12_isNan rfl ⟨Nat.le_of_ble_eq_true rfl, Nat.le_of_ble_eq_true rfl⟩ hl.1 rfl (Nat.le_of_ble_eq_true rfl) dX12_isNoNumber_8 ⟨Nat.le_of_ble_eq_true rfl, Nat.le_of_ble_eq_true rfl⟩ (fun r5 H locs hr5 hw => ?_)
    refine lv_if_eq (tgt := 16) hx hb dX12_isNoNumber_11 (by decide) (fun c6 => ?_) (fun c6 => ?_)
    · refine lv_iload_n hx hb dX12_isNoNumber_16 rfl (lv_at hl 1 rfl) ?_
      refine r_callS0I (As := [.int x]) (rest := []) cx hw hA (g_isInf l G x) ml_X12_313 st_X12_isInfinite in_X12 co_X12_isInfinite hd_X12_isInfinite rfl ⟨Nat.le_of_ble_eq_true rfl, Nat.le_of_ble_eq_true rfl⟩ hl.1 rfl (Nat.le_of_ble_eq_true rfl) dX12_isNoNumber_17 ⟨Nat.le_of_ble_eq_true rfl, Nat.le_of_ble_eq_true rfl⟩ (fun r8 H locs hr8 hw => ?_)
      refine lv_if_eq (tgt := 34) hx hb dX12_isNoNumber_20 (by decide) (fun c9 => ?_) (fun c9 => ?_)
      · refine lv_iconst (v := 0) hx hb dX12_isNoNumber_34 (by decide) ?_
        refine lv_istore_n (lv' := [(3, .int 0), (0, .int 47), (1, .int x), (2, .int y)]) hx hb dX12_isNoNumber_35 rfl hl (by decide) rfl (fun ls hl => ?_)
        refine lv_iload_n hx hb dX12_isNoNumber_36 rfl (lv_at hl 1 rfl) ?_
        refine lv_tableOut (tgt := 134) hx hb dX12_isNoNumber_37 (by decide +kernel) (by decide) ?_
        refine lv_iload_n hx hb dX12_isNoNumber_134 rfl (lv_at hl 0 rfl) ?_
        refine lv_if_ne (tgt := 154) hx hb dX12_isNoNumber_135 (by decide) (fun c9 => absurd (by decide) c9) (fun _ => ?_)
        refine lv_iload_n hx hb dX12_isNoNumber_138 rfl (lv_at hl 2 rfl) ?_
        refine lv_ldcw hx hb cx.2.2.2.1 (cx.2.2.2.2.1 _ cs_X12_311) dX12_isNoNumber_139 ?_
        refine lv_iand hx hb dX12_isNoNumber_142 ?_
        refine lv_topi (fun v10 ev10 => ?_)
        refine lv_if_ne (tgt := 158) hx hb dX12_isNoNumber_143 (by decide) (fun c11 => ?_) (fun c11 => ?_)
        · refine lv_iconst (v := 0) hx hb dX12_isNoNumber_158 (by decide) ?_
          have hw : Wd G A [] s.heap _ _ := hw.sub [] rfl rfl
          exact r_zret cx hr rfl hlk () (by subst hr2 hr5 hr8 ev10; rw [m_noN47_eq, if_pos c3, if_pos c6, if_pos c9, if_neg c11]) hw (Nat.le_of_ble_eq_true rfl) (Nat.le_of_ble_eq_true rfl) dX12_isNoNumber_159
        · refine lv_iload_n hx hb dX12_isNoNumber_146 rfl (lv_at hl 3 rfl) ?_
          refine lv_ldcw hx hb cx.2.2.2.1 (cx.2.2.2.2.1 _ cs_X12_311) dX12_isNoNumber_147 ?_
          refine lv_iand hx hb dX12_isNoNumber_150 ?_
          refine lv_topi (fun v12 ev12 => ?_)
          refine lv_if_ne (tgt := 158) hx hb dX12_isNoNumber_151 (by decide) (fun c13 => ?_) (fun c13 => ?_)
          · refine lv_iconst (v := 0) hx hb dX12_isNoNumber_158 (by decide) ?_
            have hw : Wd G A [] s.heap _ _ := hw.sub [] rfl rfl
            exact r_zret cx hr rfl hlk () (by subst hr2 hr5 hr8 ev10 ev12; rw [m_noN47_eq, if_pos c3, if_pos c6, if_pos c9, if_pos c11, if_neg c13]) hw (Nat.le_of_ble_eq_true rfl) (Nat.le_of_ble_eq_true rfl) dX12_isNoNumber_159
          · refine lv_iconst (v := 1) hx hb dX12_isNoNumber_154 (by decide) ?_
            refine lv_goto (tgt := 159) hx hb dX12_isNoNumber_155 (by decide) ?_
            have hw : Wd G A [] s.heap _ _ := hw.sub [] rfl rfl
            exact r_zret cx hr rfl hlk () (by subst hr2 hr5 hr8 ev10 ev12; rw [m_noN47_eq, if_pos c3, if_pos c6, if_pos c9, if_pos c11, if_pos c13]) hw (Nat.le_of_ble_eq_true rfl) (Nat.le_of_ble_eq_true rfl) dX12_isNoNumber_159
      · refine lv_iload_n hx hb dX12_isNoNumber_23 rfl (lv_at hl 2 rfl) ?_
        refine r_callS0I (As := [.int y]) (rest := []) cx hw hA (g_isInf l G y) ml_X12_313 st_X12_isInfinite in_X12 co_X12_isInfinite hd_X12_isInfinite rfl ⟨Nat.le_of_ble_eq_true rfl, Nat.le_of_ble_eq_true rfl⟩ hl.1 rfl (Nat.le_of_ble_eq_true rfl) dX12_isNoNumber_24 ⟨Nat.le_of_ble_eq_true rfl, Nat.le_of_ble_eq_true rfl⟩ (fun r15 H locs hr15 hw => ?_)
        refine lv_if_eq (tgt := 34) hx hb dX12_isNoNumber_27 (by decide) (fun c16 => ?_) (fun c16 => ?_)
        · refine lv_iconst (v := 0) hx hb dX12_isNoNumber_34 (by decide) ?_
          refine lv_istore_n (lv' := [(3, .int 0), (0, .int 47), (1, .int x), (2, .int y)]) hx hb dX12_isNoNumber_35 rfl hl (by decide) rfl (fun ls hl => ?_)
          refine lv_iload_n hx hb dX12_isNoNumber_36 rfl (lv_at hl 1 rfl) ?_
          refine lv_tableOut (tgt := 134) hx hb dX12_isNoNumber_37 (by decide +kernel) (by decide) ?_
          refine lv_iload_n hx hb dX12_isNoNumber_134 rfl (lv_at hl 0 rfl) ?_
          refine lv_if_ne (tgt := 154) hx hb dX12_isNoNumber_135 (by decide) (fun c9 => absurd (by decide) c9) (fun _ => ?_)
          refine lv_iload_n hx hb dX12_isNoNumber_138 rfl (lv_at hl 2 rfl) ?_
          refine lv_ldcw hx hb cx.2.2.2.1 (cx.2.2.2.2.1 _ cs_X12_311) dX12_isNoNumber_139 ?_
          refine lv_iand hx hb dX12_isNoNumber_142 ?_
          refine lv_topi (fun v17 ev17 => ?_)
          refine lv_if_ne (tgt := 158) hx hb dX12_isNoNumber_143 (by decide) (fun c18 => ?_) (fun c18 => ?_)
          · refine lv_iconst (v := 0) hx hb dX12_isNoNumber_158 (by decide) ?_
            have hw : Wd G A [] s.heap _ _ := hw.sub [] rfl rfl
            exact r_zret cx hr rfl hlk () (by subst hr2 hr5 hr8 hr15 ev17; rw [m_noN47_eq, if_pos c3, if_pos c6, if_neg c9, if_pos c16, if_neg c18]) hw (Nat.le_of_ble_eq_true rfl) (Nat.le_of_ble_eq_true rfl) dX12_isNoNumber_159
          · refine lv_iload_n hx hb dX12_isNoNumber_146 rfl (lv_at hl 3 rfl) ?_
            refine lv_ldcw hx hb cx.2.2.2.1 (cx.2.2.2.2.1 _ cs_X12_311) dX12_isNoNumber_147 ?_
            refine lv_iand hx hb dX12_isNoNumber_150 ?_
            refine lv_topi (fun v19 ev19 => ?_)
            refine lv_if_ne (tgt := 158) hx hb dX12_isNoNumber_151 (by decide) (fun c20 => ?_) (fun c20 => ?_)
            · refine lv_iconst (v := 0) hx hb dX12_isNoNumber_158 (by decide) ?_
              have hw : Wd G A [] s.heap _ _ := hw.sub [] rfl rfl
              exact r_zret cx hr rfl hlk () (by subst hr2 hr5 hr8 hr15 ev17 ev19; rw [m_noN47_eq, if_pos c3, if_pos c6, if_neg c9, if_pos c16, if_pos c18, if_neg c20]) hw (Nat.le_of_ble_eq_true rfl) (Nat.le_of_ble_eq_true rfl) dX12_isNoNumber_159
            · refine lv_iconst (v := 1) hx hb dX12_isNoNumber_154 (by decide) ?_
              refine lv_goto (tgt := 159) hx hb dX12_isNoNumber_155 (by decide) ?_
              have hw : Wd G A [] s.heap _ _ := hw.sub [] rfl rfl
              exact r_zret cx hr rfl hlk () (by subst hr2 hr5 hr8 hr15 ev17 ev19; rw [m_noN47_eq, if_pos c3, if_pos c6, if_neg c9, if_pos c16, if_pos c18, if_pos c20]) hw (Nat.le_of_ble_eq_true rfl) (Nat.le_of_ble_eq_true rfl) dX12_isNoNumber_159
        · refine lv_iconst (v := 1) hx hb dX12_isNoNumber_30 (by decide) ?_
          refine lv_goto (tgt := 35) hx hb dX12_isNoNumber_31 (by decide) ?_
          refine lv_istore_n (lv' := [(3, .int 1), (0, .int 47), (1, .int x), (2, .int y)]) hx hb dX12_isNoNumber_35 rfl hl (by decide) rfl (fun ls hl => ?_)
          refine lv_iload_n hx hb dX12_isNoNumber_36 rfl (lv_at hl 1 rfl) ?_
          refine lv_tableOut (tgt := 134) hx hb dX12_isNoNumber_37 (by decide +kernel) (by decide) ?_
          refine lv_iload_n hx hb dX12_isNoNumber_134 rfl (lv_at hl 0 rfl) ?_
          refine lv_if_ne (tgt := 154) hx hb dX12_isNoNumber_135 (by decide) (fun _ => ?_) (fun c9 => absurd c9 (by decide))
          refine lv_iconst (v := 1) hx hb dX12_isNoNumber_154 (by decide) ?_
          refine lv_goto (tgt := 159) hx hb dX12_isNoNumber_155 (by decide) ?_
          have hw : Wd G A [] s.heap _ _ := hw.sub [] rfl rfl
          exact r_zret cx hr rfl hlk () (by subst hr2 hr5 hr8 hr15; rw [m_noN47_eq, if_pos c3, if_pos c6, if_neg c9, if_neg c16]) hw (Nat.le_of_ble_eq_true rfl) (Nat.le_of_ble_eq_true rfl) dX12_isNoNumber_159
    · refine lv_iconst (v := 1) hx hb dX12_isNoNumber_14 (by decide) ?_
      have hw : Wd G A [] s.heap _ _ := hw.sub [] rfl rfl
      exact r_zret cx hr rfl hlk () (by subst hr2 hr5; rw [m_noN47_eq, if_pos c3, if_neg c6]) hw (Nat.le_of_ble_eq_true rfl) (Nat.le_of_ble_eq_true rfl) dX12_isNoNumber_15

theorem noN43 {a b : Int32} (h : m_noN43 a b = 0) : nn a % 2147483648 ≤ 2139095040 ∧ nn b % 2147483648 ≤ 2139095040 ∧ (nn a % 2147483648 = 2139095040 → nn b % 2147483648 = 2139095040 → nn a = nn b) := by
  rw [m_noN43_eq] at h
  simp only [mN, mI, mZ, mE a b] at h
  repeat' split at h
  all_goals first | exact absurd h (by decide) | omega
theorem sniA43 {a b : Int32} (h : m_noN43 a b = 0) : vn_sni2f a = false := sni_nn (noN43 h).1
theorem sniB43 {a b : Int32} (h : m_noN43 a b = 0) : vn_sni2f b = false := sni_nn (noN43 h).2.1
theorem nan43 {a b : Int32} (h : m_noN43 a b = 0) : vf_n32 (FP.fadd a.toUInt32 b.toUInt32) := by
  obtain ⟨h1, h2, h3⟩ := noN43 h
  exact let q := enc_dat (n32_add (nn_lt a) (nn_lt b) h1 h2 h3); n32_of q.1 q.2
theorem noN45 {a b : Int32} (h : m_noN45 a b = 0) : nn a % 2147483648 ≤ 2139095040 ∧ nn b % 2147483648 ≤ 2139095040 ∧ (nn a % 2147483648 = 2139095040 → nn b % 2147483648 = 2139095040 → ¬ nn a = nn b) := by
  rw [m_noN45_eq] at h
  simp only [mN, mI, mZ, mE a b] at h
  repeat' split at h
  all_goals first | exact absurd h (by decide) | omega
theorem sniA45 {a b : Int32} (h : m_noN45 a b = 0) : vn_sni2f a = false := sni_nn (noN45 h).1
theorem sniB45 {a b : Int32} (h : m_noN45 a b = 0) : vn_sni2f b = false := sni_nn (noN45 h).2.1
theorem nan45 {a b : Int32} (h : m_noN45 a b = 0) : vf_n32 (FP.fsub a.toUInt32 b.toUInt32) := by
  obtain ⟨h1, h2, h3⟩ := noN45 h
  exact let q := enc_dat (n32_sub (nn_lt a) (nn_lt b) h1 h2 h3); n32_of q.1 q.2
theorem noN42 {a b : Int32} (h : m_noN42 a b = 0) : nn a % 2147483648 ≤ 2139095040 ∧ nn b % 2147483648 ≤ 2139095040 ∧ (nn a % 2147483648 = 2139095040 → ¬ nn b % 2147483648 = 0) ∧ (nn b % 2147483648 = 2139095040 → ¬ nn a % 2147483648 = 0) := by
  rw [m_noN42_eq] at h
  simp only [mN, mI, mZ] at h
  repeat' split at h
  all_goals first | exact absurd h (by decide) | omega
theorem sniA42 {a b : Int32} (h : m_noN42 a b = 0) : vn_sni2f a = false := sni_nn (noN42 h).1
theorem sniB42 {a b : Int32} (h : m_noN42 a b = 0) : vn_sni2f b = false := sni_nn (noN42 h).2.1
theorem nan42 {a b : Int32} (h : m_noN42 a b = 0) : vf_n32 (FP.fmul a.toUInt32 b.toUInt32) := by
  obtain ⟨h1, h2, h3⟩ := noN42 h
  exact let q := enc_dat (n32_mul h1 h2 h3.1 h3.2); n32_of q.1 q.2
theorem noN47 {a b : Int32} (h : m_noN47 a b = 0) : nn a % 2147483648 ≤ 2139095040 ∧ nn b % 2147483648 ≤ 2139095040 ∧ ¬ (nn a % 2147483648 = 2139095040 ∧ nn b % 2147483648 = 2139095040) ∧ ¬ (nn a % 2147483648 = 0 ∧ nn b % 2147483648 = 0) := by
  rw [m_noN47_eq] at h
  simp only [mN, mI, mZ] at h
  repeat' split at h
  all_goals first | exact absurd h (by decide) | omega
theorem sniA47 {a b : Int32} (h : m_noN47 a b = 0) : vn_sni2f a = false := sni_nn (noN47 h).1
theorem sniB47 {a b : Int32} (h : m_noN47 a b = 0) : vn_sni2f b = false := sni_nn (noN47 h).2.1
theorem nan47 {a b : Int32} (h : m_noN47 a b = 0) : vf_n32 (FP.fdiv a.toUInt32 b.toUInt32) := by
  obtain ⟨h1, h2, h3⟩ := noN47 h
  exact let q := n32_div h1 h2 h3.1 h3.2; n32_of q.1 q.2
theorem m_br43_ex : ∃ f : Int32 → Int32 → Int32, ∀ (a : Int32) (b : Int32), f a b = (if (m_noN43 a b) = (0 : Int32) then ((m_bitsOf (FP.fadd a.toUInt32 b.toUInt32))) else (2143289344)) := ⟨fun (a : Int32) (b : Int32) => (if (m_noN43 a b) = (0 : Int32) then ((m_bitsOf (FP.fadd a.toUInt32 b.toUInt32))) else (2143289344)), fun _ _ => rfl⟩
noncomputable def m_br43 : Int32 → Int32 → Int32 := Classical.choose m_br43_ex
theorem m_br43_eq (a : Int32) (b : Int32) : m_br43 a b = (if (m_noN43 a b) = (0 : Int32) then ((m_bitsOf (FP.fadd a.toUInt32 b.toUInt32))) else (2143289344)) := Classical.choose_spec m_br43_ex a b
set_option maxHeartbeats 4000000 in
set_option maxRecDepth 100000 in
theorem g_br43 (l : Launch) (G : Gt) (a : Int32) (b : Int32) : Mt l yX12_brokens cX12_brokens 5 (some .int) ({ frames := 3, cells := 0, slots := 0, locals := 60 } : Room) G [.int 43, .int a, .int b] [] (qI G (fun (r : Int32) (w : Unit) => r = m_br43 a b) (fun w => [])) := by
  refine Mt.of (own := RX12) (cc := cX12_brokens) (by decide) rfl (Nat.le_of_ble_eq_true rfl) ?_
  intro p e s m below meth c A ls cx hr hlk hmn hA hl hw
  have hx := cx.1
  have hb := cx.2.1
  have hl : lv_has ls 5 [(0, .int 43), (1, .int a), (2, .int b)] := hl
  refine lv_iload_n hx hb dX12_brokens_0 rfl (lv_at hl 0 rfl) ?_
  refine lv_iload_n hx hb dX12_brokens_1 rfl (lv_at hl 1 rfl) ?_
  refine lv_iload_n hx hb dX12_brokens_2 rfl (lv_at hl 2 rfl) ?_
  refine r_callS0I (As := [.int 43, .int a, .int b]) (rest := []) cx hw hA (g_noN43 l G a b) ml_X12_316 st_X12_isNoNumber in_X12 co_X12_isNoNumber hd_X12_isNoNumber rfl ⟨Nat.le_of_ble_eq_true rfl, Nat.le_of_ble_eq_true rfl⟩ hl.1 rfl (Nat.le_of_ble_eq_true rfl) dX12_brokens_3 ⟨Nat.le_of_ble_eq_true rfl, Nat.le_of_ble_eq_true rfl⟩ (fun r2 H locs hr2 hw => ?_)
  refine lv_if_eq (tgt := 13) hx hb dX12_brokens_6 (by decide) (fun c3 => ?_) (fun c3 => ?_)
  · refine lv_iload_n hx hb dX12_brokens_13 rfl (lv_at hl 1 rfl) ?_
    refine r_i2f cx ml_X12_296 hl.1 (sniA43 (Eq.trans (Eq.symm hr2) c3)) (Nat.le_of_ble_eq_true rfl) (Nat.le_of_ble_eq_true rfl) dX12_brokens_14 ?_
    refine lv_fstore_n (lv' := [(3, .float a.toUInt32), (0, .int 43), (1, .int a), (2, .int b)]) hx hb dX12_brokens_17 rfl hl (by decide) rfl (fun ls hl => ?_)
    refine lv_iload_n hx hb dX12_brokens_18 rfl (lv_at hl 3 rfl) ?_
    refine r_i2f cx ml_X12_296 hl.1 (sniB43 (Eq.trans (Eq.symm hr2) c3)) (Nat.le_of_ble_eq_true rfl) (Nat.le_of_ble_eq_true rfl) dX12_brokens_19 ?_
    refine lv_fstore (lv' := [(4, .float b.toUInt32), (3, .float a.toUInt32), (0, .int 43), (1, .int a), (2, .int b)]) hx hb dX12_brokens_22 hl (by decide) rfl (fun ls hl => ?_)
    refine lv_iload_n hx hb dX12_brokens_24 rfl (lv_at hl 2 rfl) ?_
    refine lv_tableIn (tgt := 56) hx hb dX12_brokens_25 (by decide +kernel) (by decide +kernel) rfl (by decide) ?_
    refine lv_fload_n hx hb dX12_brokens_56 rfl (lv_at hl 1 rfl) ?_
    refine lv_fload hx hb dX12_brokens_57 (lv_at hl 0 rfl) ?_
    refine lv_fadd hx hb dX12_brokens_59 (nan43 (Eq.trans (Eq.symm hr2) c3)) ?_
    refine r_callS0I (As := [.float (FP.fadd a.toUInt32 b.toUInt32)]) (rest := []) cx hw hA (g_bitsOf l G (FP.fadd a.toUInt32 b.toUInt32)) ml_X12_287 st_X12_bitsOf in_X12 co_X12_bitsOf hd_X12_bitsOf rfl ⟨Nat.le_of_ble_eq_true rfl, Nat.le_of_ble_eq_true rfl⟩ hl.1 rfl (Nat.le_of_ble_eq_true rfl) dX12_brokens_60 ⟨Nat.le_of_ble_eq_true rfl, Nat.le_of_ble_eq_true rfl⟩ (fun r5 H locs hr5 hw => ?_)
    have hw : Wd G A [] s.heap _ _ := hw.sub [] rfl rfl
    exact r_iret cx hr hlk () (by subst hr2 hr5; rw [m_br43_eq, if_pos c3]) hw (Nat.le_of_ble_eq_true rfl) (Nat.le_of_ble_eq_true rfl) dX12_brokens_63
  · refine lv_ldcw hx hb cx.2.2.2.1 (cx.2.2.2.2.1 _ cs_X12_295) dX12_brokens_9 ?_
    have hw : Wd G A [] s.heap _ _ := hw.sub [] rfl rfl
    exact r_iret cx hr hlk () (by subst hr2; rw [m_br43_eq, if_neg c3]) hw (Nat.le_of_ble_eq_true rfl) (Nat.le_of_ble_eq_true rfl) dX12_brokens_12

theorem m_br45_ex : ∃ f : Int32 → Int32 → Int32, ∀ (a : Int32) (b : Int32), f a b = (if (m_noN45 a b) = (0 : Int32) then ((m_bitsOf (FP.fsub a.toUInt32 b.toUInt32))) else (2143289344)) := ⟨fun (a : Int32) (b : Int32) => (if (m_noN45 a b) = (0 : Int32) then ((m_bitsOf (FP.fsub a.toUInt32 b.toUInt32))) else (2143289344)), fun _ _ => rfl⟩
noncomputable def m_br45 : Int32 → Int32 → Int32 := Classical.choose m_br45_ex
theorem m_br45_eq (a : Int32) (b : Int32) : m_br45 a b = (if (m_noN45 a b) = (0 : Int32) then ((m_bitsOf (FP.fsub a.toUInt32 b.toUInt32))) else (2143289344)) := Classical.choose_spec m_br45_ex a b
set_option maxHeartbeats 4000000 in
set_option maxRecDepth 100000 in
theorem g_br45 (l : Launch) (G : Gt) (a : Int32) (b : Int32) : Mt l yX12_brokens cX12_brokens 5 (some .int) ({ frames := 3, cells := 0, slots := 0, locals := 60 } : Room) G [.int 45, .int a, .int b] [] (qI G (fun (r : Int32) (w : Unit) => r = m_br45 a b) (fun w => [])) := by
  refine Mt.of (own := RX12) (cc := cX12_brokens) (by decide) rfl (Nat.le_of_ble_eq_true rfl) ?_
  intro p e s m below meth c A ls cx hr hlk hmn hA hl hw
  have hx := cx.1
  have hb := cx.2.1
  have hl : lv_has ls 5 [(0, .int 45), (1, .int a), (2, .int b)] := hl
  refine lv_iload_n hx hb dX12_brokens_0 rfl (lv_at hl 0 rfl) ?_
  refine lv_iload_n hx hb dX12_brokens_1 rfl (lv_at hl 1 rfl) ?_
  refine lv_iload_n hx hb dX12_brokens_2 rfl (lv_at hl 2 rfl) ?_
  refine r_callS0I (As := [.int 45, .int a, .int b]) (rest := []) cx hw hA (g_noN45 l G a b) ml_X12_316 st_X12_isNoNumber in_X12 co_X12_isNoNumber hd_X12_isNoNumber rfl ⟨Nat.le_of_ble_eq_true rfl, Nat.le_of_ble_eq_true rfl⟩ hl.1 rfl (Nat.le_of_ble_eq_true rfl) dX12_brokens_3 ⟨Nat.le_of_ble_eq_true rfl, Nat.le_of_ble_eq_true rfl⟩ (fun r2 H locs hr2 hw => ?_)
  refine lv_if_eq (tgt := 13) hx hb dX12_brokens_6 (by decide) (fun c3 => ?_) (fun c3 => ?_)
  · refine lv_iload_n hx hb dX12_brokens_13 rfl (lv_at hl 1 rfl) ?_
    refine r_i2f cx ml_X12_296 hl.1 (sniA45 (Eq.trans (Eq.symm hr2) c3)) (Nat.le_of_ble_eq_true rfl) (Nat.le_of_ble_eq_true rfl) dX12_brokens_14 ?_
    refine lv_fstore_n (lv' := [(3, .float a.toUInt32), (0, .int 45), (1, .int a), (2, .int b)]) hx hb dX12_brokens_17 rfl hl (by decide) rfl (fun ls hl => ?_)
    refine lv_iload_n hx hb dX12_brokens_18 rfl (lv_at hl 3 rfl) ?_
    refine r_i2f cx ml_X12_296 hl.1 (sniB45 (Eq.trans (Eq.symm hr2) c3)) (Nat.le_of_ble_eq_true rfl) (Nat.le_of_ble_eq_true rfl) dX12_brokens_19 ?_
    refine lv_fstore (lv' := [(4, .float b.toUInt32), (3, .float a.toUInt32), (0, .int 45), (1, .int a), (2, .int b)]) hx hb dX12_brokens_22 hl (by decide) rfl (fun ls hl => ?_)
    refine lv_iload_n hx hb dX12_brokens_24 rfl (lv_at hl 2 rfl) ?_
    refine lv_tableIn (tgt := 64) hx hb dX12_brokens_25 (by decide +kernel) (by decide +kernel) rfl (by decide) ?_
    refine lv_fload_n hx hb dX12_brokens_64 rfl (lv_at hl 1 rfl) ?_
    refine lv_fload hx hb dX12_brokens_65 (lv_at hl 0 rfl) ?_
    refine lv_fsub hx hb dX12_brokens_67 (nan45 (Eq.trans (Eq.symm hr2) c3)) ?_
    refine r_callS0I (As := [.float (FP.fsub a.toUInt32 b.toUInt32)]) (rest := []) cx hw hA (g_bitsOf l G (FP.fsub a.toUInt32 b.toUInt32)) ml_X12_287 st_X12_bitsOf in_X12 co_X12_bitsOf hd_X12_bitsOf rfl ⟨Nat.le_of_ble_eq_true rfl, Nat.le_of_ble_eq_true rfl⟩ hl.1 rfl (Nat.le_of_ble_eq_true rfl) dX12_brokens_68 ⟨Nat.le_of_ble_eq_true rfl, Nat.le_of_ble_eq_true rfl⟩ (fun r5 H locs hr5 hw => ?_)
    have hw : Wd G A [] s.heap _ _ := hw.sub [] rfl rfl
    exact r_iret cx hr hlk () (by subst hr2 hr5; rw [m_br45_eq, if_pos c3]) hw (Nat.le_of_ble_eq_true rfl) (Nat.le_of_ble_eq_true rfl) dX12_brokens_71
  · refine lv_ldcw hx hb cx.2.2.2.1 (cx.2.2.2.2.1 _ cs_X12_295) dX12_brokens_9 ?_
    have hw : Wd G A [] s.heap _ _ := hw.sub [] rfl rfl
    exact r_iret cx hr hlk () (by subst hr2; rw [m_br45_eq, if_neg c3]) hw (Nat.le_of_ble_eq_true rfl) (Nat.le_of_ble_eq_true rfl) dX12_brokens_12

theorem m_br42_ex : ∃ f : Int32 → Int32 → Int32, ∀ (a : Int32) (b : Int32), f a b = (if (m_noN42 a b) = (0 : Int32) then ((m_bitsOf (FP.fmul a.toUInt32 b.toUInt32))) else (2143289344)) := ⟨fun (a : Int32) (b : Int32) => (if (m_noN42 a b) = (0 : Int32) then ((m_bitsOf (FP.fmul a.toUInt32 b.toUInt32))) else (2143289344)), fun _ _ => rfl⟩
noncomputable def m_br42 : Int32 → Int32 → Int32 := Classical.choose m_br42_ex
theorem m_br42_eq (a : Int32) (b : Int32) : m_br42 a b = (if (m_noN42 a b) = (0 : Int32) then ((m_bitsOf (FP.fmul a.toUInt32 b.toUInt32))) else (2143289344)) := Classical.choose_spec m_br42_ex a b
set_option maxHeartbeats 4000000 in
set_option maxRecDepth 100000 in
theorem g_br42 (l : Launch) (G : Gt) (a : Int32) (b : Int32) : Mt l yX12_brokens cX12_brokens 5 (some .int) ({ frames := 3, cells := 0, slots := 0, locals := 60 } : Room) G [.int 42, .int a, .int b] [] (qI G (fun (r : Int32) (w : Unit) => r = m_br42 a b) (fun w => [])) := by
  refine Mt.of (own := RX12) (cc := cX12_brokens) (by decide) rfl (Nat.le_of_ble_eq_true rfl) ?_
  intro p e s m below meth c A ls cx hr hlk hmn hA hl hw
  have hx := cx.1
  have hb := cx.2.1
  have hl : lv_has ls 5 [(0, .int 42), (1, .int a), (2, .int b)] := hl
  refine lv_iload_n hx hb dX12_brokens_0 rfl (lv_at hl 0 rfl) ?_
  refine lv_iload_n hx hb dX12_brokens_1 rfl (lv_at hl 1 rfl) ?_
  refine lv_iload_n hx hb dX12_brokens_2 rfl (lv_at hl 2 rfl) ?_
  refine r_callS0I (As := [.int 42, .int a, .int b]) (rest := []) cx hw hA (g_noN42 l G a b) ml_X12_316 st_X12_isNoNumber in_X12 co_X12_isNoNumber hd_X12_isNoNumber rfl ⟨Nat.le_of_ble_eq_true rfl, Nat.le_of_ble_eq_true rfl⟩ hl.1 rfl (Nat.le_of_ble_eq_true rfl) dX12_brokens_3 ⟨Nat.le_of_ble_eq_true rfl, Nat.le_of_ble_eq_true rfl⟩ (fun r2 H locs hr2 hw => ?_)
  refine lv_if_eq (tgt := 13) hx hb dX12_brokens_6 (by decide) (fun c3 => ?_) (fun c3 => ?_)
  · refine lv_iload_n hx hb dX12_brokens_13 rfl (lv_at hl 1 rfl) ?_
    refine r_i2f cx ml_X12_296 hl.1 (sniA42 (Eq.trans (Eq.symm hr2) c3)) (Nat.le_of_ble_eq_true rfl) (Nat.le_of_ble_eq_true rfl) dX12_brokens_14 ?_
    refine lv_fstore_n (lv' := [(3, .float a.toUInt32), (0, .int 42), (1, .int a), (2, .int b)]) hx hb dX12_brokens_17 rfl hl (by decide) rfl (fun ls hl => ?_)
    refine lv_iload_n hx hb dX12_brokens_18 rfl (lv_at hl 3 rfl) ?_
    refine r_i2f cx ml_X12_296 hl.1 (sniB42 (Eq.trans (Eq.symm hr2) c3)) (Nat.le_of_ble_eq_true rfl) (Nat.le_of_ble_eq_true rfl) dX12_brokens_19 ?_
    refine lv_fstore (lv' := [(4, .float b.toUInt32), (3, .float a.toUInt32), (0, .int 42), (1, .int a), (2, .int b)]) hx hb dX12_brokens_22 hl (by decide) rfl (fun ls hl => ?_)
    refine lv_iload_n hx hb dX12_brokens_24 rfl (lv_at hl 2 rfl) ?_
    refine lv_tableIn (tgt := 72) hx hb dX12_brokens_25 (by decide +kernel) (by decide +kernel) rfl (by decide) ?_
    refine lv_fload_n hx hb dX12_brokens_72 rfl (lv_at hl 1 rfl) ?_
    refine lv_fload hx hb dX12_brokens_73 (lv_at hl 0 rfl) ?_
    refine lv_fmul hx hb dX12_brokens_75 (nan42 (Eq.trans (Eq.symm hr2) c3)) ?_
    refine r_callS0I (As := [.float (FP.fmul a.toUInt32 b.toUInt32)]) (rest := []) cx hw hA (g_bitsOf l G (FP.fmul a.toUInt32 b.toUInt32)) ml_X12_287 st_X12_bitsOf in_X12 co_X12_bitsOf hd_X12_bitsOf rfl ⟨Nat.le_of_ble_eq_true rfl, Nat.le_of_ble_eq_true rfl⟩ hl.1 rfl (Nat.le_of_ble_eq_true rfl) dX12_brokens_76 ⟨Nat.le_of_ble_eq_true rfl, Nat.le_of_ble_eq_true rfl⟩ (fun r5 H locs hr5 hw => ?_)
    have hw : Wd G A [] s.heap _ _ := hw.sub [] rfl rfl
    exact r_iret cx hr hlk () (by subst hr2 hr5; rw [m_br42_eq, if_pos c3]) hw (Nat.le_of_ble_eq_true rfl) (Nat.le_of_ble_eq_true rfl) dX12_brokens_79
  · refine lv_ldcw hx hb cx.2.2.2.1 (cx.2.2.2.2.1 _ cs_X12_295) dX12_brokens_9 ?_
    have hw : Wd G A [] s.heap _ _ := hw.sub [] rfl rfl
    exact r_iret cx hr hlk () (by subst hr2; rw [m_br42_eq, if_neg c3]) hw (Nat.le_of_ble_eq_true rfl) (Nat.le_of_ble_eq_true rfl) dX12_brokens_12

theorem m_br47_ex : ∃ f : Int32 → Int32 → Int32, ∀ (a : Int32) (b : Int32), f a b = (if (m_noN47 a b) = (0 : Int32) then ((m_bitsOf (FP.fdiv a.toUInt32 b.toUInt32))) else (2143289344)) := ⟨fun (a : Int32) (b : Int32) => (if (m_noN47 a b) = (0 : Int32) then ((m_bitsOf (FP.fdiv a.toUInt32 b.toUInt32))) else (2143289344)), fun _ _ => rfl⟩
noncomputable def m_br47 : Int32 → Int32 → Int32 := Classical.choose m_br47_ex
theorem m_br47_eq (a : Int32) (b : Int32) : m_br47 a b = (if (m_noN47 a b) = (0 : Int32) then ((m_bitsOf (FP.fdiv a.toUInt32 b.toUInt32))) else (2143289344)) := Classical.choose_spec m_br47_ex a b
set_option maxHeartbeats 4000000 in
set_option maxRecDepth 100000 in
theorem g_br47 (l : Launch) (G : Gt) (a : Int32) (b : Int32) : Mt l yX12_brokens cX12_brokens 5 (some .int) ({ frames := 3, cells := 0, slots := 0, locals := 60 } : Room) G [.int 47, .int a, .int b] [] (qI G (fun (r : Int32) (w : Unit) => r = m_br47 a b) (fun w => [])) := by
  refine Mt.of (own := RX12) (cc := cX12_brokens) (by decide) rfl (Nat.le_of_ble_eq_true rfl) ?_
  intro p e s m below meth c A ls cx hr hlk hmn hA hl hw
  have hx := cx.1
  have hb := cx.2.1
  have hl : lv_has ls 5 [(0, .int 47), (1, .int a), (2, .int b)] := hl
  refine lv_iload_n hx hb dX12_brokens_0 rfl (lv_at hl 0 rfl) ?_
  refine lv_iload_n hx hb dX12_brokens_1 rfl (lv_at hl 1 rfl) ?_
  refine lv_iload_n hx hb dX12_brokens_2 rfl (lv_at hl 2 rfl) ?_
  refine r_callS0I (As := [.int 47, .int a, .int b]) (rest := []) cx hw hA (g_noN47 l G a b) ml_X12_316 st_X12_isNoNumber in_X12 co_X12_isNoNumber hd_X12_isNoNumber rfl ⟨Nat.le_of_ble_eq_true rfl, Nat.le_of_ble_eq_true rfl⟩ hl.1 rfl (Nat.le_of_ble_eq_true rfl) dX12_brokens_3 ⟨Nat.le_of_ble_eq_true rfl, Nat.le_of_ble_eq_true rfl⟩ (fun r2 H locs hr2 hw => ?_)
  refine lv_if_eq (tgt := 13) hx hb dX12_brokens_6 (by decide) (fun c3 => ?_) (fun c3 => ?_)
  · refine lv_iload_n hx hb dX12_brokens_13 rfl (lv_at hl 1 rfl) ?_
    refine r_i2f cx ml_X12_296 hl.1 (sniA47 (Eq.trans (Eq.symm hr2) c3)) (Nat.le_of_ble_eq_true rfl) (Nat.le_of_ble_eq_true rfl) dX12_brokens_14 ?_
    refine lv_fstore_n (lv' := [(3, .float a.toUInt32), (0, .int 47), (1, .int a), (2, .int b)]) hx hb dX12_brokens_17 rfl hl (by decide) rfl (fun ls hl => ?_)
    refine lv_iload_n hx hb dX12_brokens_18 rfl (lv_at hl 3 rfl) ?_
    refine r_i2f cx ml_X12_296 hl.1 (sniB47 (Eq.trans (Eq.symm hr2) c3)) (Nat.le_of_ble_eq_true rfl) (Nat.le_of_ble_eq_true rfl) dX12_brokens_19 ?_
    refine lv_fstore (lv' := [(4, .float b.toUInt32), (3, .float a.toUInt32), (0, .int 47), (1, .int a), (2, .int b)]) hx hb dX12_brokens_22 hl (by decide) rfl (fun ls hl => ?_)
    refine lv_iload_n hx hb dX12_brokens_24 rfl (lv_at hl 2 rfl) ?_
    refine lv_tableOut (tgt := 80) hx hb dX12_brokens_25 (by decide +kernel) (by decide) ?_
    refine lv_fload_n hx hb dX12_brokens_80 rfl (lv_at hl 1 rfl) ?_
    refine lv_fload hx hb dX12_brokens_81 (lv_at hl 0 rfl) ?_
    refine lv_fdiv hx hb dX12_brokens_83 (nan47 (Eq.trans (Eq.symm hr2) c3)) ?_
    refine r_callS0I (As := [.float (FP.fdiv a.toUInt32 b.toUInt32)]) (rest := []) cx hw hA (g_bitsOf l G (FP.fdiv a.toUInt32 b.toUInt32)) ml_X12_287 st_X12_bitsOf in_X12 co_X12_bitsOf hd_X12_bitsOf rfl ⟨Nat.le_of_ble_eq_true rfl, Nat.le_of_ble_eq_true rfl⟩ hl.1 rfl (Nat.le_of_ble_eq_true rfl) dX12_brokens_84 ⟨Nat.le_of_ble_eq_true rfl, Nat.le_of_ble_eq_true rfl⟩ (fun r5 H locs hr5 hw => ?_)
    have hw : Wd G A [] s.heap _ _ := hw.sub [] rfl rfl
    exact r_iret cx hr hlk () (by subst hr2 hr5; rw [m_br47_eq, if_pos c3]) hw (Nat.le_of_ble_eq_true rfl) (Nat.le_of_ble_eq_true rfl) dX12_brokens_87
  · refine lv_ldcw hx hb cx.2.2.2.1 (cx.2.2.2.2.1 _ cs_X12_295) dX12_brokens_9 ?_
    have hw : Wd G A [] s.heap _ _ := hw.sub [] rfl rfl
    exact r_iret cx hr hlk () (by subst hr2; rw [m_br47_eq, if_neg c3]) hw (Nat.le_of_ble_eq_true rfl) (Nat.le_of_ble_eq_true rfl) dX12_brokens_12

theorem m_isLess_ex : ∃ f : Int32 → Int32 → Int32, ∀ (a : Int32) (b : Int32), f a b = (if (m_isNan a) = (0 : Int32) then (if (m_isNan b) = (0 : Int32) then (if (0 : Int32) ≤ (Op.cmpValue (FP.fcmp a.toUInt32 b.toUInt32) CmpOp.g) then (0) else (1)) else (0)) else (0)) := ⟨fun (a : Int32) (b : Int32) => (if (m_isNan a) = (0 : Int32) then (if (m_isNan b) = (0 : Int32) then (if (0 : Int32) ≤ (Op.cmpValue (FP.fcmp a.toUInt32 b.toUInt32) CmpOp.g) then (0) else (1)) else (0)) else (0)), fun _ _ => rfl⟩
noncomputable def m_isLess : Int32 → Int32 → Int32 := Classical.choose m_isLess_ex
theorem m_isLess_eq (a : Int32) (b : Int32) : m_isLess a b = (if (m_isNan a) = (0 : Int32) then (if (m_isNan b) = (0 : Int32) then (if (0 : Int32) ≤ (Op.cmpValue (FP.fcmp a.toUInt32 b.toUInt32) CmpOp.g) then (0) else (1)) else (0)) else (0)) := Classical.choose_spec m_isLess_ex a b
set_option maxHeartbeats 4000000 in
set_option maxRecDepth 100000 in
theorem g_isLess (l : Launch) (G : Gt) (a : Int32) (b : Int32) : Mt l yX12_isLess cX12_isLess 2 (some .boolean) ({ frames := 1, cells := 0, slots := 0, locals := 20 } : Room) G [.int a, .int b] [] (qI G (fun (r : Int32) (w : Unit) => r = m_isLess a b) (fun w => [])) := by
  refine Mt.of (own := RX12) (cc := cX12_isLess) (by decide) rfl (Nat.le_of_ble_eq_true rfl) ?_
  intro p e s m below meth c A ls cx hr hlk hmn hA hl hw
  have hx := cx.1
  have hb := cx.2.1
  have hl : lv_has ls 2 [(0, .int a), (1, .int b)] := hl
  refine lv_iload_n hx hb dX12_isLess_0 rfl (lv_at hl 0 rfl) ?_
  refine r_callS0I (As := [.int a]) (rest := []) cx hw hA (g_isNan l G a) ml_X12_291 st_X12_isNan in_X12 co_X12_isNan hd_X12_isNan rfl ⟨Nat.le_of_ble_eq_true rfl, Nat.le_of_ble_eq_true rfl⟩ hl.1 rfl (Nat.le_of_ble_eq_true rfl) dX12_isLess_1 ⟨Nat.le_of_ble_eq_true rfl, Nat.le_of_ble_eq_true rfl⟩ (fun r2 H locs hr2 hw => ?_)
  refine lv_if_ne (tgt := 30) hx hb dX12_isLess_4 (by decide) (fun c3 => ?_) (fun c3 => ?_)
  · refine lv_iconst (v := 0) hx hb dX12_isLess_30 (by decide) ?_
    have hw : Wd G A [] s.heap _ _ := hw.sub [] rfl rfl
    exact r_zret cx hr rfl hlk () (by subst hr2; rw [m_isLess_eq, if_neg c3]) hw (Nat.le_of_ble_eq_true rfl) (Nat.le_of_ble_eq_true rfl) dX12_isLess_31
  · refine lv_iload_n hx hb dX12_isLess_7 rfl (lv_at hl 1 rfl) ?_
    refine r_callS0I (As := [.int b]) (rest := []) cx hw hA (g_isNan l G b) ml_X12_291 st_X12_isNan in_X12 co_X12_isNan hd_X12_isNan rfl ⟨Nat.le_of_ble_eq_true rfl, Nat.le_of_ble_eq_true rfl⟩ hl.1 rfl (Nat.le_of_ble_eq_true rfl) dX12_isLess_8 ⟨Nat.le_of_ble_eq_true rfl, Nat.le_of_ble_eq_true rfl⟩ (fun r5 H locs hr5 hw => ?_)
    refine lv_if_ne (tgt := 30) hx hb dX12_isLess_11 (by decide) (fun c6 => ?_) (fun c6 => ?_)
    · refine lv_iconst (v := 0) hx hb dX12_isLess_30 (by decide) ?_
      have hw : Wd G A [] s.heap _ _ := hw.sub [] rfl rfl
      exact r_zret cx hr rfl hlk () (by subst hr2 hr5; rw [m_isLess_eq, if_pos c3, if_neg c6]) hw (Nat.le_of_ble_eq_true rfl) (Nat.le_of_ble_eq_true rfl) dX12_isLess_31
    · refine lv_iload_n hx hb dX12_isLess_14 rfl (lv_at hl 0 rfl) ?_
      refine r_i2f cx ml_X12_296 hl.1 (sni_of (Eq.trans (Eq.symm hr2) c3)) (Nat.le_of_ble_eq_true rfl) (Nat.le_of_ble_eq_true rfl) dX12_isLess_15 ?_
      refine lv_iload_n hx hb dX12_isLess_18 rfl (lv_at hl 1 rfl) ?_
      refine r_i2f cx ml_X12_296 hl.1 (sni_of (Eq.trans (Eq.symm hr5) c6)) (Nat.le_of_ble_eq_true rfl) (Nat.le_of_ble_eq_true rfl) dX12_isLess_19 ?_
      refine lv_fcmp hx hb dX12_isLess_22 ?_
      refine lv_topi (fun v7 ev7 => ?_)
      refine lv_if_ge (tgt := 30) hx hb dX12_isLess_23 (by decide) (fun c8 => ?_) (fun c8 => ?_)
      · refine lv_iconst (v := 0) hx hb dX12_isLess_30 (by decide) ?_
        have hw : Wd G A [] s.heap _ _ := hw.sub [] rfl rfl
        exact r_zret cx hr rfl hlk () (by subst hr2 hr5 ev7; rw [m_isLess_eq, if_pos c3, if_pos c6, if_pos c8]) hw (Nat.le_of_ble_eq_true rfl) (Nat.le_of_ble_eq_true rfl) dX12_isLess_31
      · refine lv_iconst (v := 1) hx hb dX12_isLess_26 (by decide) ?_
        refine lv_goto (tgt := 31) hx hb dX12_isLess_27 (by decide) ?_
        have hw : Wd G A [] s.heap _ _ := hw.sub [] rfl rfl
        exact r_zret cx hr rfl hlk () (by subst hr2 hr5 ev7; rw [m_isLess_eq, if_pos c3, if_pos c6, if_neg c8]) hw (Nat.le_of_ble_eq_true rfl) (Nat.le_of_ble_eq_true rfl) dX12_isLess_31

theorem m_isSame_ex : ∃ f : Int32 → Int32 → Int32, ∀ (a : Int32) (b : Int32), f a b = (if (m_isNan a) = (0 : Int32) then (if (m_isNan b) = (0 : Int32) then (if (Op.cmpValue (FP.fcmp a.toUInt32 b.toUInt32) CmpOp.l) = (0 : Int32) then (1) else (0)) else (0)) else (0)) := ⟨fun (a : Int32) (b : Int32) => (if (m_isNan a) = (0 : Int32) then (if (m_isNan b) = (0 : Int32) then (if (Op.cmpValue (FP.fcmp a.toUInt32 b.toUInt32) CmpOp.l) = (0 : Int32) then (1) else (0)) else (0)) else (0)), fun _ _ => rfl⟩
noncomputable def m_isSame : Int32 → Int32 → Int32 := Classical.choose m_isSame_ex
theorem m_isSame_eq (a : Int32) (b : Int32) : m_isSame a b = (if (m_isNan a) = (0 : Int32) then (if (m_isNan b) = (0 : Int32) then (if (Op.cmpValue (FP.fcmp a.toUInt32 b.toUInt32) CmpOp.l) = (0 : Int32) then (1) else (0)) else (0)) else (0)) := Classical.choose_spec m_isSame_ex a b
set_option maxHeartbeats 4000000 in
set_option maxRecDepth 100000 in
theorem g_isSame (l : Launch) (G : Gt) (a : Int32) (b : Int32) : Mt l yX12_isSame cX12_isSame 2 (some .boolean) ({ frames := 1, cells := 0, slots := 0, locals := 20 } : Room) G [.int a, .int b] [] (qI G (fun (r : Int32) (w : Unit) => r = m_isSame a b) (fun w => [])) := by
  refine Mt.of (own := RX12) (cc := cX12_isSame) (by decide) rfl (Nat.le_of_ble_eq_true rfl) ?_
  intro p e s m below meth c A ls cx hr hlk hmn hA hl hw
  have hx := cx.1
  have hb := cx.2.1
  have hl : lv_has ls 2 [(0, .int a), (1, .int b)] := hl
  refine lv_iload_n hx hb dX12_isSame_0 rfl (lv_at hl 0 rfl) ?_
  refine r_callS0I (As := [.int a]) (rest := []) cx hw hA (g_isNan l G a) ml_X12_291 st_X12_isNan in_X12 co_X12_isNan hd_X12_isNan rfl ⟨Nat.le_of_ble_eq_true rfl, Nat.le_of_ble_eq_true rfl⟩ hl.1 rfl (Nat.le_of_ble_eq_true rfl) dX12_isSame_1 ⟨Nat.le_of_ble_eq_true rfl, Nat.le_of_ble_eq_true rfl⟩ (fun r2 H locs hr2 hw => ?_)
  refine lv_if_ne (tgt := 30) hx hb dX12_isSame_4 (by decide) (fun c3 => ?_) (fun c3 => ?_)
  · refine lv_iconst (v := 0) hx hb dX12_isSame_30 (by decide) ?_
    have hw : Wd G A [] s.heap _ _ := hw.sub [] rfl rfl
    exact r_zret cx hr rfl hlk () (by subst hr2; rw [m_isSame_eq, if_neg c3]) hw (Nat.le_of_ble_eq_true rfl) (Nat.le_of_ble_eq_true rfl) dX12_isSame_31
  · refine lv_iload_n hx hb dX12_isSame_7 rfl (lv_at hl 1 rfl) ?_
    refine r_callS0I (As := [.int b]) (rest := []) cx hw hA (g_isNan l G b) ml_X12_291 st_X12_isNan in_X12 co_X12_isNan hd_X12_isNan rfl ⟨Nat.le_of_ble_eq_true rfl, Nat.le_of_ble_eq_true rfl⟩ hl.1 rfl (Nat.le_of_ble_eq_true rfl) dX12_isSame_8 ⟨Nat.le_of_ble_eq_true rfl, Nat.le_of_ble_eq_true rfl⟩ (fun r5 H locs hr5 hw => ?_)
    refine lv_if_ne (tgt := 30) hx hb dX12_isSame_11 (by decide) (fun c6 => ?_) (fun c6 => ?_)
    · refine lv_iconst (v := 0) hx hb dX12_isSame_30 (by decide) ?_
      have hw : Wd G A [] s.heap _ _ := hw.sub [] rfl rfl
      exact r_zret cx hr rfl hlk () (by subst hr2 hr5; rw [m_isSame_eq, if_pos c3, if_neg c6]) hw (Nat.le_of_ble_eq_true rfl) (Nat.le_of_ble_eq_true rfl) dX12_isSame_31
    · refine lv_iload_n hx hb dX12_isSame_14 rfl (lv_at hl 0 rfl) ?_
      refine r_i2f cx ml_X12_296 hl.1 (sni_of (Eq.trans (Eq.symm hr2) c3)) (Nat.le_of_ble_eq_true rfl) (Nat.le_of_ble_eq_true rfl) dX12_isSame_15 ?_
      refine lv_iload_n hx hb dX12_isSame_18 rfl (lv_at hl 1 rfl) ?_
      refine r_i2f cx ml_X12_296 hl.1 (sni_of (Eq.trans (Eq.symm hr5) c6)) (Nat.le_of_ble_eq_true rfl) (Nat.le_of_ble_eq_true rfl) dX12_isSame_19 ?_
      refine lv_fcmp hx hb dX12_isSame_22 ?_
      refine lv_topi (fun v7 ev7 => ?_)
      refine lv_if_ne (tgt := 30) hx hb dX12_isSame_23 (by decide) (fun c8 => ?_) (fun c8 => ?_)
      · refine lv_iconst (v := 0) hx hb dX12_isSame_30 (by decide) ?_
        have hw : Wd G A [] s.heap _ _ := hw.sub [] rfl rfl
        exact r_zret cx hr rfl hlk () (by subst hr2 hr5 ev7; rw [m_isSame_eq, if_pos c3, if_pos c6, if_neg c8]) hw (Nat.le_of_ble_eq_true rfl) (Nat.le_of_ble_eq_true rfl) dX12_isSame_31
      · refine lv_iconst (v := 1) hx hb dX12_isSame_26 (by decide) ?_
        refine lv_goto (tgt := 31) hx hb dX12_isSame_27 (by decide) ?_
        have hw : Wd G A [] s.heap _ _ := hw.sub [] rfl rfl
        exact r_zret cx hr rfl hlk () (by subst hr2 hr5 ev7; rw [m_isSame_eq, if_pos c3, if_pos c6, if_pos c8]) hw (Nat.le_of_ble_eq_true rfl) (Nat.le_of_ble_eq_true rfl) dX12_isSame_31

set_option maxHeartbeats 4000000 in
set_option maxRecDepth 100000 in
theorem g_give (l : Launch) (G : Gt) (h0 : Nat) (u : Nat → Nat) (pa : Int32) (qa : Int32) : Mt l yX12_give cX12_give 3 none ({ frames := 0, cells := 0, slots := 0, locals := 0 } : Room) G [.ref h0, .int pa, .int qa] [(h0, ob 11 [.int 0, .int 0, .ref (u 0), .int 0, .int 0, .int (-1), .int 0, .int 0, .ref (u 1), .ref (u 2), .ref (u 3), .ref (u 4), .ref (u 5), .ref (u 6), .ref (u 7), .ref (u 8), .ref (u 9), .int 0, .int 0, .ref (u 10), .ref (u 11), .ref (u 12), .ref (u 13), .ref (u 14), .ref (u 15), .ref (u 16), .ref (u 17), .int 0, .int 0, .ref (u 18), .ref (u 19), .ref (u 20), .int 0, .ref (u 21), .ref (u 22), .ref (u 23), .int 0, .int 0, .ref (u 24), .ref (u 25), .ref (u 26), .ref (u 27), .int 1, .int 0, .int 0, .int 0, .int 0, .int 0, .int 0, .int 0, .ref (u 28), .ref (u 29), .ref (u 30), .ref (u 31), .ref (u 32), .ref (u 33), .int 0, .ref (u 34), .int 0, .ref (u 35), .ref (u 36), .ref (u 37), .ref (u 38), .ref (u 39), .ref (u 40), .int 0, .int 0, .int 0, .int 0, .int 0, .ref (u 41), .ref (u 42), .ref (u 43), .int 0, .ref (u 44), .int 0, .int 0, .int 0, .ref (u 45), .ref (u 46), .ref (u 47), .ref (u 48), .ref (u 49), .ref (u 50), .ref (u 51), .ref (u 52), .ref (u 53), .int 0, .int 0, .int 0, .int 0, .int 0, .int 0, .int 0, .int 0, .int 0, .int 0, .int 0, .ref (u 54), .ref (u 55), .ref (u 56), .ref (u 57), .ref (u 58), .ref (u 59), .ref (u 60), .ref (u 61), .ref (u 62), .ref (u 63), .ref (u 64), .ref (u 65), .int 0, .int 0, .ref (u 66), .ref (u 67), .ref (u 68), .ref (u 69), .ref (u 70), .ref (u 71), .int 0, .ref (u 72), .ref (u 73), .ref (u 74), .int 0, .ref (u 75), .ref (u 76), .ref (u 77), .int 0, .ref (u 78), .ref (u 79), .ref (u 80), .ref (u 81), .ref (u 82), .int 0, .int 0, .ref (u 83), .ref (u 84), .ref (u 85), .ref (u 86), .ref (u 87), .int 0, .ref (u 88)])] (qV G (fun (w : Unit) => True) (fun w => [(h0, ob 11 [.int pa, .int qa, .ref (u 0), .int 0, .int 0, .int (-1), .int 0, .int 0, .ref (u 1), .ref (u 2), .ref (u 3), .ref (u 4), .ref (u 5), .ref (u 6), .ref (u 7), .ref (u 8), .ref (u 9), .int 0, .int 0, .ref (u 10), .ref (u 11), .ref (u 12), .ref (u 13), .ref (u 14), .ref (u 15), .ref (u 16), .ref (u 17), .int 0, .int 0, .ref (u 18), .ref (u 19), .ref (u 20), .int 0, .ref (u 21), .ref (u 22), .ref (u 23), .int 0, .int 0, .ref (u 24), .ref (u 25), .ref (u 26), .ref (u 27), .int 1, .int 0, .int 0, .int 0, .int 0, .int 0, .int 0, .int 0, .ref (u 28), .ref (u 29), .ref (u 30), .ref (u 31), .ref (u 32), .ref (u 33), .int 0, .ref (u 34), .int 0, .ref (u 35), .ref (u 36), .ref (u 37), .ref (u 38), .ref (u 39), .ref (u 40), .int 0, .int 0, .int 0, .int 0, .int 0, .ref (u 41), .ref (u 42), .ref (u 43), .int 0, .ref (u 44), .int 0, .int 0, .int 0, .ref (u 45), .ref (u 46), .ref (u 47), .ref (u 48), .ref (u 49), .ref (u 50), .ref (u 51), .ref (u 52), .ref (u 53), .int 0, .int 0, .int 0, .int 0, .int 0, .int 0, .int 0, .int 0, .int 0, .int 0, .int 0, .ref (u 54), .ref (u 55), .ref (u 56), .ref (u 57), .ref (u 58), .ref (u 59), .ref (u 60), .ref (u 61), .ref (u 62), .ref (u 63), .ref (u 64), .ref (u 65), .int 0, .int 0, .ref (u 66), .ref (u 67), .ref (u 68), .ref (u 69), .ref (u 70), .ref (u 71), .int 0, .ref (u 72), .ref (u 73), .ref (u 74), .int 0, .ref (u 75), .ref (u 76), .ref (u 77), .int 0, .ref (u 78), .ref (u 79), .ref (u 80), .ref (u 81), .ref (u 82), .int 0, .int 0, .ref (u 83), .ref (u 84), .ref (u 85), .ref (u 86), .ref (u 87), .int 0, .ref (u 88)])])) := by
  refine Mt.of (own := RX12) (cc := cX12_give) (by decide) rfl (Nat.le_of_ble_eq_true rfl) ?_
  intro p e s m below meth c A ls cx hr hlk hmn hA hl hw
  have hx := cx.1
  have hb := cx.2.1
  have hl : lv_has ls 3 [(0, .ref h0), (1, .int pa), (2, .int qa)] := hl
  refine lv_aload_n hx hb dX12_give_0 rfl (lv_at hl 0 rfl) ?_
  refine lv_iload_n hx hb dX12_give_1 rfl (lv_at hl 1 rfl) ?_
  refine r_put cx hw inX12 (ci := 11) rfl tyX12_ok nmX12 0 rfl 0 (by decide) fl_X12_305 rfl rfl rfl (Nat.le_of_ble_eq_true rfl) (ws' := [(h0, ob 11 [.int pa, .int 0, .ref (u 0), .int 0, .int 0, .int (-1), .int 0, .int 0, .ref (u 1), .ref (u 2), .ref (u 3), .ref (u 4), .ref (u 5), .ref (u 6), .ref (u 7), .ref (u 8), .ref (u 9), .int 0, .int 0, .ref (u 10), .ref (u 11), .ref (u 12), .ref (u 13), .ref (u 14), .ref (u 15), .ref (u 16), .ref (u 17), .int 0, .int 0, .ref (u 18), .ref (u 19), .ref (u 20), .int 0, .ref (u 21), .ref (u 22), .ref (u 23), .int 0, .int 0, .ref (u 24), .ref (u 25), .ref (u 26), .ref (u 27), .int 1, .int 0, .int 0, .int 0, .int 0, .int 0, .int 0, .int 0, .ref (u 28), .ref (u 29), .ref (u 30), .ref (u 31), .ref (u 32), .ref (u 33), .int 0, .ref (u 34), .int 0, .ref (u 35), .ref (u 36), .ref (u 37), .ref (u 38), .ref (u 39), .ref (u 40), .int 0, .int 0, .int 0, .int 0, .int 0, .ref (u 41), .ref (u 42), .ref (u 43), .int 0, .ref (u 44), .int 0, .int 0, .int 0, .ref (u 45), .ref (u 46), .ref (u 47), .ref (u 48), .ref (u 49), .ref (u 50), .ref (u 51), .ref (u 52), .ref (u 53), .int 0, .int 0, .int 0, .int 0, .int 0, .int 0, .int 0, .int 0, .int 0, .int 0, .int 0, .ref (u 54), .ref (u 55), .ref (u 56), .ref (u 57), .ref (u 58), .ref (u 59), .ref (u 60), .ref (u 61), .ref (u 62), .ref (u 63), .ref (u 64), .ref (u 65), .int 0, .int 0, .ref (u 66), .ref (u 67), .ref (u 68), .ref (u 69), .ref (u 70), .ref (u 71), .int 0, .ref (u 72), .ref (u 73), .ref (u 74), .int 0, .ref (u 75), .ref (u 76), .ref (u 77), .int 0, .ref (u 78), .ref (u 79), .ref (u 80), .ref (u 81), .ref (u 82), .int 0, .int 0, .ref (u 83), .ref (u 84), .ref (u 85), .ref (u 86), .ref (u 87), .int 0, .ref (u 88)])]) rfl dX12_give_2 (fun H locs hw => ?_)
  refine lv_aload_n hx hb dX12_give_5 rfl (lv_at hl 0 rfl) ?_
  refine lv_iload_n hx hb dX12_give_6 rfl (lv_at hl 2 rfl) ?_
  refine r_put cx hw inX12 (ci := 11) rfl tyX12_ok nmX12 0 rfl 1 (by decide) fl_X12_308 rfl rfl rfl (Nat.le_of_ble_eq_true rfl) (ws' := [(h0, ob 11 [.int pa, .int qa, .ref (u 0), .int 0, .int 0, .int (-1), .int 0, .int 0, .ref (u 1), .ref (u 2), .ref (u 3), .ref (u 4), .ref (u 5), .ref (u 6), .ref (u 7), .ref (u 8), .ref (u 9), .int 0, .int 0, .ref (u 10), .ref (u 11), .ref (u 12), .ref (u 13), .ref (u 14), .ref (u 15), .ref (u 16), .ref (u 17), .int 0, .int 0, .ref (u 18), .ref (u 19), .ref (u 20), .int 0, .ref (u 21), .ref (u 22), .ref (u 23), .int 0, .int 0, .ref (u 24), .ref (u 25), .ref (u 26), .ref (u 27), .int 1, .int 0, .int 0, .int 0, .int 0, .int 0, .int 0, .int 0, .ref (u 28), .ref (u 29), .ref (u 30), .ref (u 31), .ref (u 32), .ref (u 33), .int 0, .ref (u 34), .int 0, .ref (u 35), .ref (u 36), .ref (u 37), .ref (u 38), .ref (u 39), .ref (u 40), .int 0, .int 0, .int 0, .int 0, .int 0, .ref (u 41), .ref (u 42), .ref (u 43), .int 0, .ref (u 44), .int 0, .int 0, .int 0, .ref (u 45), .ref (u 46), .ref (u 47), .ref (u 48), .ref (u 49), .ref (u 50), .ref (u 51), .ref (u 52), .ref (u 53), .int 0, .int 0, .int 0, .int 0, .int 0, .int 0, .int 0, .int 0, .int 0, .int 0, .int 0, .ref (u 54), .ref (u 55), .ref (u 56), .ref (u 57), .ref (u 58), .ref (u 59), .ref (u 60), .ref (u 61), .ref (u 62), .ref (u 63), .ref (u 64), .ref (u 65), .int 0, .int 0, .ref (u 66), .ref (u 67), .ref (u 68), .ref (u 69), .ref (u 70), .ref (u 71), .int 0, .ref (u 72), .ref (u 73), .ref (u 74), .int 0, .ref (u 75), .ref (u 76), .ref (u 77), .int 0, .ref (u 78), .ref (u 79), .ref (u 80), .ref (u 81), .ref (u 82), .int 0, .int 0, .ref (u 83), .ref (u 84), .ref (u 85), .ref (u 86), .ref (u 87), .int 0, .ref (u 88)])]) rfl dX12_give_7 (fun H locs hw => ?_)
  have hw : Wd G A [(h0, ob 11 [.int pa, .int qa, .ref (u 0), .int 0, .int 0, .int (-1), .int 0, .int 0, .ref (u 1), .ref (u 2), .ref (u 3), .ref (u 4), .ref (u 5), .ref (u 6), .ref (u 7), .ref (u 8), .ref (u 9), .int 0, .int 0, .ref (u 10), .ref (u 11), .ref (u 12), .ref (u 13), .ref (u 14), .ref (u 15), .ref (u 16), .ref (u 17), .int 0, .int 0, .ref (u 18), .ref (u 19), .ref (u 20), .int 0, .ref (u 21), .ref (u 22), .ref (u 23), .int 0, .int 0, .ref (u 24), .ref (u 25), .ref (u 26), .ref (u 27), .int 1, .int 0, .int 0, .int 0, .int 0, .int 0, .int 0, .int 0, .ref (u 28), .ref (u 29), .ref (u 30), .ref (u 31), .ref (u 32), .ref (u 33), .int 0, .ref (u 34), .int 0, .ref (u 35), .ref (u 36), .ref (u 37), .ref (u 38), .ref (u 39), .ref (u 40), .int 0, .int 0, .int 0, .int 0, .int 0, .ref (u 41), .ref (u 42), .ref (u 43), .int 0, .ref (u 44), .int 0, .int 0, .int 0, .ref (u 45), .ref (u 46), .ref (u 47), .ref (u 48), .ref (u 49), .ref (u 50), .ref (u 51), .ref (u 52), .ref (u 53), .int 0, .int 0, .int 0, .int 0, .int 0, .int 0, .int 0, .int 0, .int 0, .int 0, .int 0, .ref (u 54), .ref (u 55), .ref (u 56), .ref (u 57), .ref (u 58), .ref (u 59), .ref (u 60), .ref (u 61), .ref (u 62), .ref (u 63), .ref (u 64), .ref (u 65), .int 0, .int 0, .ref (u 66), .ref (u 67), .ref (u 68), .ref (u 69), .ref (u 70), .ref (u 71), .int 0, .ref (u 72), .ref (u 73), .ref (u 74), .int 0, .ref (u 75), .ref (u 76), .ref (u 77), .int 0, .ref (u 78), .ref (u 79), .ref (u 80), .ref (u 81), .ref (u 82), .int 0, .int 0, .ref (u 83), .ref (u 84), .ref (u 85), .ref (u 86), .ref (u 87), .int 0, .ref (u 88)])] s.heap _ _ := hw.sub [0] rfl rfl
  exact r_vret cx hr hlk () trivial hw (Nat.le_of_ble_eq_true rfl) (Nat.le_of_ble_eq_true rfl) dX12_give_10

theorem m_ap43_ex : ∃ f : Int32 → Int32 → Int32, ∀ (a : Int32) (d : Int32), f a d = ((m_br43 (m_floatOf a) (m_floatOf d))) := ⟨fun (a : Int32) (d : Int32) => ((m_br43 (m_floatOf a) (m_floatOf d))), fun _ _ => rfl⟩
noncomputable def m_ap43 : Int32 → Int32 → Int32 := Classical.choose m_ap43_ex
theorem m_ap43_eq (a : Int32) (d : Int32) : m_ap43 a d = ((m_br43 (m_floatOf a) (m_floatOf d))) := Classical.choose_spec m_ap43_ex a d
set_option maxHeartbeats 4000000 in
set_option maxRecDepth 100000 in
theorem g_j43 (l : Launch) (G : Gt) (h0 : Nat) (u : Nat → Nat) (a : Int32) (d : Int32) : Mt l yX12_join cX12_join 8 none ({ frames := 4, cells := 0, slots := 0, locals := 84 } : Room) G [.ref h0, .int 43, .int 1, .int a, .int 1, .int d] [(h0, ob 11 [.int 0, .int 0, .ref (u 0), .int 0, .int 0, .int (-1), .int 0, .int 0, .ref (u 1), .ref (u 2), .ref (u 3), .ref (u 4), .ref (u 5), .ref (u 6), .ref (u 7), .ref (u 8), .ref (u 9), .int 0, .int 0, .ref (u 10), .ref (u 11), .ref (u 12), .ref (u 13), .ref (u 14), .ref (u 15), .ref (u 16), .ref (u 17), .int 0, .int 0, .ref (u 18), .ref (u 19), .ref (u 20), .int 0, .ref (u 21), .ref (u 22), .ref (u 23), .int 0, .int 0, .ref (u 24), .ref (u 25), .ref (u 26), .ref (u 27), .int 1, .int 0, .int 0, .int 0, .int 0, .int 0, .int 0, .int 0, .ref (u 28), .ref (u 29), .ref (u 30), .ref (u 31), .ref (u 32), .ref (u 33), .int 0, .ref (u 34), .int 0, .ref (u 35), .ref (u 36), .ref (u 37), .ref (u 38), .ref (u 39), .ref (u 40), .int 0, .int 0, .int 0, .int 0, .int 0, .ref (u 41), .ref (u 42), .ref (u 43), .int 0, .ref (u 44), .int 0, .int 0, .int 0, .ref (u 45), .ref (u 46), .ref (u 47), .ref (u 48), .ref (u 49), .ref (u 50), .ref (u 51), .ref (u 52), .ref (u 53), .int 0, .int 0, .int 0, .int 0, .int 0, .int 0, .int 0, .int 0, .int 0, .int 0, .int 0, .ref (u 54), .ref (u 55), .ref (u 56), .ref (u 57), .ref (u 58), .ref (u 59), .ref (u 60), .ref (u 61), .ref (u 62), .ref (u 63), .ref (u 64), .ref (u 65), .int 0, .int 0, .ref (u 66), .ref (u 67), .ref (u 68), .ref (u 69), .ref (u 70), .ref (u 71), .int 0, .ref (u 72), .ref (u 73), .ref (u 74), .int 0, .ref (u 75), .ref (u 76), .ref (u 77), .int 0, .ref (u 78), .ref (u 79), .ref (u 80), .ref (u 81), .ref (u 82), .int 0, .int 0, .ref (u 83), .ref (u 84), .ref (u 85), .ref (u 86), .ref (u 87), .int 0, .ref (u 88)])] (qV G (fun (w : Unit) => True) (fun w => [(h0, ob 11 [.int 1, .int (m_ap43 a d), .ref (u 0), .int 0, .int 0, .int (-1), .int 0, .int 0, .ref (u 1), .ref (u 2), .ref (u 3), .ref (u 4), .ref (u 5), .ref (u 6), .ref (u 7), .ref (u 8), .ref (u 9), .int 0, .int 0, .ref (u 10), .ref (u 11), .ref (u 12), .ref (u 13), .ref (u 14), .ref (u 15), .ref (u 16), .ref (u 17), .int 0, .int 0, .ref (u 18), .ref (u 19), .ref (u 20), .int 0, .ref (u 21), .ref (u 22), .ref (u 23), .int 0, .int 0, .ref (u 24), .ref (u 25), .ref (u 26), .ref (u 27), .int 1, .int 0, .int 0, .int 0, .int 0, .int 0, .int 0, .int 0, .ref (u 28), .ref (u 29), .ref (u 30), .ref (u 31), .ref (u 32), .ref (u 33), .int 0, .ref (u 34), .int 0, .ref (u 35), .ref (u 36), .ref (u 37), .ref (u 38), .ref (u 39), .ref (u 40), .int 0, .int 0, .int 0, .int 0, .int 0, .ref (u 41), .ref (u 42), .ref (u 43), .int 0, .ref (u 44), .int 0, .int 0, .int 0, .ref (u 45), .ref (u 46), .ref (u 47), .ref (u 48), .ref (u 49), .ref (u 50), .ref (u 51), .ref (u 52), .ref (u 53), .int 0, .int 0, .int 0, .int 0, .int 0, .int 0, .int 0, .int 0, .int 0, .int 0, .int 0, .ref (u 54), .ref (u 55), .ref (u 56), .ref (u 57), .ref (u 58), .ref (u 59), .ref (u 60), .ref (u 61), .ref (u 62), .ref (u 63), .ref (u 64), .ref (u 65), .int 0, .int 0, .ref (u 66), .ref (u 67), .ref (u 68), .ref (u 69), .ref (u 70), .ref (u 71), .int 0, .ref (u 72), .ref (u 73), .ref (u 74), .int 0, .ref (u 75), .ref (u 76), .ref (u 77), .int 0, .ref (u 78), .ref (u 79), .ref (u 80), .ref (u 81), .ref (u 82), .int 0, .int 0, .ref (u 83), .ref (u 84), .ref (u 85), .ref (u 86), .ref (u 87), .int 0, .ref (u 88)])])) := by
  refine Mt.of (own := RX12) (cc := cX12_join) (by decide) rfl (Nat.le_of_ble_eq_true rfl) ?_
  intro p e s m below meth c A ls cx hr hlk hmn hA hl hw
  have hx := cx.1
  have hb := cx.2.1
  have hl : lv_has ls 8 [(0, .ref h0), (1, .int 43), (2, .int 1), (3, .int a), (4, .int 1), (5, .int d)] := hl
  refine lv_iload_n hx hb dX12_join_0 rfl (lv_at hl 2 rfl) ?_
  refine lv_iconst (v := 1) hx hb dX12_join_1 (by decide) ?_
  refine lv_icmp_eq (tgt := 11) hx hb dX12_join_2 (by decide) (fun _ => ?_) (fun c9 => absurd (by decide) c9)
  refine lv_iconst (v := 1) hx hb dX12_join_11 (by decide) ?_
  refine lv_goto (tgt := 16) hx hb dX12_join_12 (by decide) ?_
  refine lv_istore (lv' := [(6, .int 1), (0, .ref h0), (1, .int 43), (2, .int 1), (3, .int a), (4, .int 1), (5, .int d)]) hx hb dX12_join_16 hl (by decide) rfl (fun ls hl => ?_)
  refine lv_iload_n hx hb dX12_join_18 rfl (lv_at hl 2 rfl) ?_
  refine lv_bipush (v := 37) hx hb dX12_join_19 (by decide) ?_
  refine lv_icmp_ne (tgt := 58) hx hb dX12_join_21 (by decide) (fun _ => ?_) (fun c9 => absurd c9 (by decide))
  refine lv_iload_n hx hb dX12_join_58 rfl (lv_at hl 2 rfl) ?_
  refine lv_bipush (v := 60) hx hb dX12_join_59 (by decide) ?_
  refine lv_icmp_ne (tgt := 109) hx hb dX12_join_61 (by decide) (fun _ => ?_) (fun c9 => absurd c9 (by decide))
  refine lv_iload_n hx hb dX12_join_109 rfl (lv_at hl 2 rfl) ?_
  refine lv_bipush (v := 61) hx hb dX12_join_110 (by decide) ?_
  refine lv_icmp_ne (tgt := 160) hx hb dX12_join_112 (by decide) (fun _ => ?_) (fun c9 => absurd c9 (by decide))
  refine lv_iload hx hb dX12_join_160 (lv_at hl 0 rfl) ?_
  refine lv_if_eq (tgt := 189) hx hb dX12_join_162 (by decide) (fun c9 => absurd c9 (by decide)) (fun _ => ?_)
  refine lv_aload_n hx hb dX12_join_165 rfl (lv_at hl 1 rfl) ?_
  refine lv_iconst (v := 1) hx hb dX12_join_166 (by decide) ?_
  refine lv_iload_n hx hb dX12_join_167 rfl (lv_at hl 2 rfl) ?_
  refine lv_iload_n hx hb dX12_join_168 rfl (lv_at hl 3 rfl) ?_
  refine lv_iload_n hx hb dX12_join_169 rfl (lv_at hl 4 rfl) ?_
  refine r_callS0I (As := [.int 1, .int a]) (rest := [.int 43, .int 1, .ref h0]) cx hw hA (g_floatOf l G a) ml_X12_328 st_X12_floatOf in_X12 co_X12_floatOf hd_X12_floatOf rfl ⟨Nat.le_of_ble_eq_true rfl, Nat.le_of_ble_eq_true rfl⟩ hl.1 rfl (Nat.le_of_ble_eq_true rfl) dX12_join_170 ⟨Nat.le_of_ble_eq_true rfl, Nat.le_of_ble_eq_true rfl⟩ (fun r2 H locs hr2 hw => ?_)
  refine lv_iload hx hb dX12_join_173 (lv_at hl 5 rfl) ?_
  refine lv_iload hx hb dX12_join_175 (lv_at hl 6 rfl) ?_
  refine r_callS0I (As := [.int 1, .int d]) (rest := [.int r2, .int 43, .int 1, .ref h0]) cx hw hA (g_floatOf l G d) ml_X12_328 st_X12_floatOf in_X12 co_X12_floatOf hd_X12_floatOf rfl ⟨Nat.le_of_ble_eq_true rfl, Nat.le_of_ble_eq_true rfl⟩ hl.1 rfl (Nat.le_of_ble_eq_true rfl) dX12_join_177 ⟨Nat.le_of_ble_eq_true rfl, Nat.le_of_ble_eq_true rfl⟩ (fun r4 H locs hr4 hw => ?_)
  refine r_callS0I (As := [.int 43, .int r2, .int r4]) (rest := [.int 1, .ref h0]) cx hw hA (g_br43 l G r2 r4) ml_X12_338 st_X12_brokens in_X12 co_X12_brokens hd_X12_brokens rfl ⟨Nat.le_of_ble_eq_true rfl, Nat.le_of_ble_eq_true rfl⟩ hl.1 rfl (Nat.le_of_ble_eq_true rfl) dX12_join_180 ⟨Nat.le_of_ble_eq_true rfl, Nat.le_of_ble_eq_true rfl⟩ (fun r6 H locs hr6 hw => ?_)
  refine r_callVV (As := [.int 1, .int r6]) (rest := []) (wr := []) cx hw hA (g_give l G h0 u 1 r6) [0] [] rfl rfl rfl rfl rfl 0 rfl (ci := 11) rfl ml_X12_324 im_X12_give se_X12_give in_X12 co_X12_give rfl hd_X12_give rfl ⟨Nat.le_of_ble_eq_true rfl, Nat.le_of_ble_eq_true rfl⟩ hl.1 rfl (Nat.le_of_ble_eq_true rfl) dX12_join_183 ⟨Nat.le_of_ble_eq_true rfl, Nat.le_of_ble_eq_true rfl⟩ (fun u7 H locs hr8 hw => ?_)
  have hw : Wd G A [(h0, ob 11 [.int 1, .int r6, .ref (u 0), .int 0, .int 0, .int (-1), .int 0, .int 0, .ref (u 1), .ref (u 2), .ref (u 3), .ref (u 4), .ref (u 5), .ref (u 6), .ref (u 7), .ref (u 8), .ref (u 9), .int 0, .int 0, .ref (u 10), .ref (u 11), .ref (u 12), .ref (u 13), .ref (u 14), .ref (u 15), .ref (u 16), .ref (u 17), .int 0, .int 0, .ref (u 18), .ref (u 19), .ref (u 20), .int 0, .ref (u 21), .ref (u 22), .ref (u 23), .int 0, .int 0, .ref (u 24), .ref (u 25), .ref (u 26), .ref (u 27), .int 1, .int 0, .int 0, .int 0, .int 0, .int 0, .int 0, .int 0, .ref (u 28), .ref (u 29), .ref (u 30), .ref (u 31), .ref (u 32), .ref (u 33), .int 0, .ref (u 34), .int 0, .ref (u 35), .ref (u 36), .ref (u 37), .ref (u 38), .ref (u 39), .ref (u 40), .int 0, .int 0, .int 0, .int 0, .int 0, .ref (u 41), .ref (u 42), .ref (u 43), .int 0, .ref (u 44), .int 0, .int 0, .int 0, .ref (u 45), .ref (u 46), .ref (u 47), .ref (u 48), .ref (u 49), .ref (u 50), .ref (u 51), .ref (u 52), .ref (u 53), .int 0, .int 0, .int 0, .int 0, .int 0, .int 0, .int 0, .int 0, .int 0, .int 0, .int 0, .ref (u 54), .ref (u 55), .ref (u 56), .ref (u 57), .ref (u 58), .ref (u 59), .ref (u 60), .ref (u 61), .ref (u 62), .ref (u 63), .ref (u 64), .ref (u 65), .int 0, .int 0, .ref (u 66), .ref (u 67), .ref (u 68), .ref (u 69), .ref (u 70), .ref (u 71), .int 0, .ref (u 72), .ref (u 73), .ref (u 74), .int 0, .ref (u 75), .ref (u 76), .ref (u 77), .int 0, .ref (u 78), .ref (u 79), .ref (u 80), .ref (u 81), .ref (u 82), .int 0, .int 0, .ref (u 83), .ref (u 84), .ref (u 85), .ref (u 86), .ref (u 87), .int 0, .ref (u 88)])] s.heap _ _ := hw
  refine lv_goto (tgt := 201) hx hb dX12_join_186 (by decide) ?_
  have hz : r6 = m_ap43 a d := (by subst hr2 hr4 hr6; rw [m_ap43_eq])
  have hw : Wd G A [(h0, ob 11 [.int 1, .int (m_ap43 a d), .ref (u 0), .int 0, .int 0, .int (-1), .int 0, .int 0, .ref (u 1), .ref (u 2), .ref (u 3), .ref (u 4), .ref (u 5), .ref (u 6), .ref (u 7), .ref (u 8), .ref (u 9), .int 0, .int 0, .ref (u 10), .ref (u 11), .ref (u 12), .ref (u 13), .ref (u 14), .ref (u 15), .ref (u 16), .ref (u 17), .int 0, .int 0, .ref (u 18), .ref (u 19), .ref (u 20), .int 0, .ref (u 21), .ref (u 22), .ref (u 23), .int 0, .int 0, .ref (u 24), .ref (u 25), .ref (u 26), .ref (u 27), .int 1, .int 0, .int 0, .int 0, .int 0, .int 0, .int 0, .int 0, .ref (u 28), .ref (u 29), .ref (u 30), .ref (u 31), .ref (u 32), .ref (u 33), .int 0, .ref (u 34), .int 0, .ref (u 35), .ref (u 36), .ref (u 37), .ref (u 38), .ref (u 39), .ref (u 40), .int 0, .int 0, .int 0, .int 0, .int 0, .ref (u 41), .ref (u 42), .ref (u 43), .int 0, .ref (u 44), .int 0, .int 0, .int 0, .ref (u 45), .ref (u 46), .ref (u 47), .ref (u 48), .ref (u 49), .ref (u 50), .ref (u 51), .ref (u 52), .ref (u 53), .int 0, .int 0, .int 0, .int 0, .int 0, .int 0, .int 0, .int 0, .int 0, .int 0, .int 0, .ref (u 54), .ref (u 55), .ref (u 56), .ref (u 57), .ref (u 58), .ref (u 59), .ref (u 60), .ref (u 61), .ref (u 62), .ref (u 63), .ref (u 64), .ref (u 65), .int 0, .int 0, .ref (u 66), .ref (u 67), .ref (u 68), .ref (u 69), .ref (u 70), .ref (u 71), .int 0, .ref (u 72), .ref (u 73), .ref (u 74), .int 0, .ref (u 75), .ref (u 76), .ref (u 77), .int 0, .ref (u 78), .ref (u 79), .ref (u 80), .ref (u 81), .ref (u 82), .int 0, .int 0, .ref (u 83), .ref (u 84), .ref (u 85), .ref (u 86), .ref (u 87), .int 0, .ref (u 88)])] s.heap _ _ := (by rw [← hz]; exact hw.sub [0] rfl rfl)
  exact r_vret cx hr hlk () trivial hw (Nat.le_of_ble_eq_true rfl) (Nat.le_of_ble_eq_true rfl) dX12_join_201

theorem m_ap45_ex : ∃ f : Int32 → Int32 → Int32, ∀ (a : Int32) (d : Int32), f a d = ((m_br45 (m_floatOf a) (m_floatOf d))) := ⟨fun (a : Int32) (d : Int32) => ((m_br45 (m_floatOf a) (m_floatOf d))), fun _ _ => rfl⟩
noncomputable def m_ap45 : Int32 → Int32 → Int32 := Classical.choose m_ap45_ex
theorem m_ap45_eq (a : Int32) (d : Int32) : m_ap45 a d = ((m_br45 (m_floatOf a) (m_floatOf d))) := Classical.choose_spec m_ap45_ex a d
set_option maxHeartbeats 4000000 in
set_option maxRecDepth 100000 in
theorem g_j45 (l : Launch) (G : Gt) (h0 : Nat) (u : Nat → Nat) (a : Int32) (d : Int32) : Mt l yX12_join cX12_join 8 none ({ frames := 4, cells := 0, slots := 0, locals := 84 } : Room) G [.ref h0, .int 45, .int 1, .int a, .int 1, .int d] [(h0, ob 11 [.int 0, .int 0, .ref (u 0), .int 0, .int 0, .int (-1), .int 0, .int 0, .ref (u 1), .ref (u 2), .ref (u 3), .ref (u 4), .ref (u 5), .ref (u 6), .ref (u 7), .ref (u 8), .ref (u 9), .int 0, .int 0, .ref (u 10), .ref (u 11), .ref (u 12), .ref (u 13), .ref (u 14), .ref (u 15), .ref (u 16), .ref (u 17), .int 0, .int 0, .ref (u 18), .ref (u 19), .ref (u 20), .int 0, .ref (u 21), .ref (u 22), .ref (u 23), .int 0, .int 0, .ref (u 24), .ref (u 25), .ref (u 26), .ref (u 27), .int 1, .int 0, .int 0, .int 0, .int 0, .int 0, .int 0, .int 0, .ref (u 28), .ref (u 29), .ref (u 30), .ref (u 31), .ref (u 32), .ref (u 33), .int 0, .ref (u 34), .int 0, .ref (u 35), .ref (u 36), .ref (u 37), .ref (u 38), .ref (u 39), .ref (u 40), .int 0, .int 0, .int 0, .int 0, .int 0, .ref (u 41), .ref (u 42), .ref (u 43), .int 0, .ref (u 44), .int 0, .int 0, .int 0, .ref (u 45), .ref (u 46), .ref (u 47), .ref (u 48), .ref (u 49), .ref (u 50), .ref (u 51), .ref (u 52), .ref (u 53), .int 0, .int 0, .int 0, .int 0, .int 0, .int 0, .int 0, .int 0, .int 0, .int 0, .int 0, .ref (u 54), .ref (u 55), .ref (u 56), .ref (u 57), .ref (u 58), .ref (u 59), .ref (u 60), .ref (u 61), .ref (u 62), .ref (u 63), .ref (u 64), .ref (u 65), .int 0, .int 0, .ref (u 66), .ref (u 67), .ref (u 68), .ref (u 69), .ref (u 70), .ref (u 71), .int 0, .ref (u 72), .ref (u 73), .ref (u 74), .int 0, .ref (u 75), .ref (u 76), .ref (u 77), .int 0, .ref (u 78), .ref (u 79), .ref (u 80), .ref (u 81), .ref (u 82), .int 0, .int 0, .ref (u 83), .ref (u 84), .ref (u 85), .ref (u 86), .ref (u 87), .int 0, .ref (u 88)])] (qV G (fun (w : Unit) => True) (fun w => [(h0, ob 11 [.int 1, .int (m_ap45 a d), .ref (u 0), .int 0, .int 0, .int (-1), .int 0, .int 0, .ref (u 1), .ref (u 2), .ref (u 3), .ref (u 4), .ref (u 5), .ref (u 6), .ref (u 7), .ref (u 8), .ref (u 9), .int 0, .int 0, .ref (u 10), .ref (u 11), .ref (u 12), .ref (u 13), .ref (u 14), .ref (u 15), .ref (u 16), .ref (u 17), .int 0, .int 0, .ref (u 18), .ref (u 19), .ref (u 20), .int 0, .ref (u 21), .ref (u 22), .ref (u 23), .int 0, .int 0, .ref (u 24), .ref (u 25), .ref (u 26), .ref (u 27), .int 1, .int 0, .int 0, .int 0, .int 0, .int 0, .int 0, .int 0, .ref (u 28), .ref (u 29), .ref (u 30), .ref (u 31), .ref (u 32), .ref (u 33), .int 0, .ref (u 34), .int 0, .ref (u 35), .ref (u 36), .ref (u 37), .ref (u 38), .ref (u 39), .ref (u 40), .int 0, .int 0, .int 0, .int 0, .int 0, .ref (u 41), .ref (u 42), .ref (u 43), .int 0, .ref (u 44), .int 0, .int 0, .int 0, .ref (u 45), .ref (u 46), .ref (u 47), .ref (u 48), .ref (u 49), .ref (u 50), .ref (u 51), .ref (u 52), .ref (u 53), .int 0, .int 0, .int 0, .int 0, .int 0, .int 0, .int 0, .int 0, .int 0, .int 0, .int 0, .ref (u 54), .ref (u 55), .ref (u 56), .ref (u 57), .ref (u 58), .ref (u 59), .ref (u 60), .ref (u 61), .ref (u 62), .ref (u 63), .ref (u 64), .ref (u 65), .int 0, .int 0, .ref (u 66), .ref (u 67), .ref (u 68), .ref (u 69), .ref (u 70), .ref (u 71), .int 0, .ref (u 72), .ref (u 73), .ref (u 74), .int 0, .ref (u 75), .ref (u 76), .ref (u 77), .int 0, .ref (u 78), .ref (u 79), .ref (u 80), .ref (u 81), .ref (u 82), .int 0, .int 0, .ref (u 83), .ref (u 84), .ref (u 85), .ref (u 86), .ref (u 87), .int 0, .ref (u 88)])])) := by
  refine Mt.of (own := RX12) (cc := cX12_join) (by decide) rfl (Nat.le_of_ble_eq_true rfl) ?_
  intro p e s m below meth c A ls cx hr hlk hmn hA hl hw
  have hx := cx.1
  have hb := cx.2.1
  have hl : lv_has ls 8 [(0, .ref h0), (1, .int 45), (2, .int 1), (3, .int a), (4, .int 1), (5, .int d)] := hl
  refine lv_iload_n hx hb dX12_join_0 rfl (lv_at hl 2 rfl) ?_
  refine lv_iconst (v := 1) hx hb dX12_join_1 (by decide) ?_
  refine lv_icmp_eq (tgt := 11) hx hb dX12_join_2 (by decide) (fun _ => ?_) (fun c9 => absurd (by decide) c9)
  refine lv_iconst (v := 1) hx hb dX12_join_11 (by decide) ?_
  refine lv_goto (tgt := 16) hx hb dX12_join_12 (by decide) ?_
  refine lv_istore (lv' := [(6, .int 1), (0, .ref h0), (1, .int 45), (2, .int 1), (3, .int a), (4, .int 1), (5, .int d)]) hx hb dX12_join_16 hl (by decide) rfl (fun ls hl => ?_)
  refine lv_iload_n hx hb dX12_join_18 rfl (lv_at hl 2 rfl) ?_
  refine lv_bipush (v := 37) hx hb dX12_join_19 (by decide) ?_
  refine lv_icmp_ne (tgt := 58) hx hb dX12_join_21 (by decide) (fun _ => ?_) (fun c9 => absurd c9 (by decide))
  refine lv_iload_n hx hb dX12_join_58 rfl (lv_at hl 2 rfl) ?_
  refine lv_bipush (v := 60) hx hb dX12_join_59 (by decide) ?_
  refine lv_icmp_ne (tgt := 109) hx hb dX12_join_61 (by decide) (fun _ => ?_) (fun c9 => absurd c9 (by decide))
  refine lv_iload_n hx hb dX12_join_109 rfl (lv_at hl 2 rfl) ?_
  refine lv_bipush (v := 61) hx hb dX12_join_110 (by decide) ?_
  refine lv_icmp_ne (tgt := 160) hx hb dX12_join_112 (by decide) (fun _ => ?_) (fun c9 => absurd c9 (by decide))
  refine lv_iload hx hb dX12_join_160 (lv_at hl 0 rfl) ?_
  refine lv_if_eq (tgt := 189) hx hb dX12_join_162 (by decide) (fun c9 => absurd c9 (by decide)) (fun _ => ?_)
  refine lv_aload_n hx hb dX12_join_165 rfl (lv_at hl 1 rfl) ?_
  refine lv_iconst (v := 1) hx hb dX12_join_166 (by decide) ?_
  refine lv_iload_n hx hb dX12_join_167 rfl (lv_at hl 2 rfl) ?_
  refine lv_iload_n hx hb dX12_join_168 rfl (lv_at hl 3 rfl) ?_
  refine lv_iload_n hx hb dX12_join_169 rfl (lv_at hl 4 rfl) ?_
  refine r_callS0I (As := [.int 1, .int a]) (rest := [.int 45, .int 1, .ref h0]) cx hw hA (g_floatOf l G a) ml_X12_328 st_X12_floatOf in_X12 co_X12_floatOf hd_X12_floatOf rfl ⟨Nat.le_of_ble_eq_true rfl, Nat.le_of_ble_eq_true rfl⟩ hl.1 rfl (Nat.le_of_ble_eq_true rfl) dX12_join_170 ⟨Nat.le_of_ble_eq_true rfl, Nat.le_of_ble_eq_true rfl⟩ (fun r2 H locs hr2 hw => ?_)
  refine lv_iload hx hb dX12_join_173 (lv_at hl 5 rfl) ?_
  refine lv_iload hx hb dX12_join_175 (lv_at hl 6 rfl) ?_
  refine r_callS0I (As := [.int 1, .int d]) (rest := [.int r2, .int 45, .int 1, .ref h0]) cx hw hA (g_floatOf l G d) ml_X12_328 st_X12_floatOf in_X12 co_X12_floatOf hd_X12_floatOf rfl ⟨Nat.le_of_ble_eq_true rfl, Nat.le_of_ble_eq_true rfl⟩ hl.1 rfl (Nat.le_of_ble_eq_true rfl) dX12_join_177 ⟨Nat.le_of_ble_eq_true rfl, Nat.le_of_ble_eq_true rfl⟩ (fun r4 H locs hr4 hw => ?_)
  refine r_callS0I (As := [.int 45, .int r2, .int r4]) (rest := [.int 1, .ref h0]) cx hw hA (g_br45 l G r2 r4) ml_X12_338 st_X12_brokens in_X12 co_X12_brokens hd_X12_brokens rfl ⟨Nat.le_of_ble_eq_true rfl, Nat.le_of_ble_eq_true rfl⟩ hl.1 rfl (Nat.le_of_ble_eq_true rfl) dX12_join_180 ⟨Nat.le_of_ble_eq_true rfl, Nat.le_of_ble_eq_true rfl⟩ (fun r6 H locs hr6 hw => ?_)
  refine r_callVV (As := [.int 1, .int r6]) (rest := []) (wr := []) cx hw hA (g_give l G h0 u 1 r6) [0] [] rfl rfl rfl rfl rfl 0 rfl (ci := 11) rfl ml_X12_324 im_X12_give se_X12_give in_X12 co_X12_give rfl hd_X12_give rfl ⟨Nat.le_of_ble_eq_true rfl, Nat.le_of_ble_eq_true rfl⟩ hl.1 rfl (Nat.le_of_ble_eq_true rfl) dX12_join_183 ⟨Nat.le_of_ble_eq_true rfl, Nat.le_of_ble_eq_true rfl⟩ (fun u7 H locs hr8 hw => ?_)
  have hw : Wd G A [(h0, ob 11 [.int 1, .int r6, .ref (u 0), .int 0, .int 0, .int (-1), .int 0, .int 0, .ref (u 1), .ref (u 2), .ref (u 3), .ref (u 4), .ref (u 5), .ref (u 6), .ref (u 7), .ref (u 8), .ref (u 9), .int 0, .int 0, .ref (u 10), .ref (u 11), .ref (u 12), .ref (u 13), .ref (u 14), .ref (u 15), .ref (u 16), .ref (u 17), .int 0, .int 0, .ref (u 18), .ref (u 19), .ref (u 20), .int 0, .ref (u 21), .ref (u 22), .ref (u 23), .int 0, .int 0, .ref (u 24), .ref (u 25), .ref (u 26), .ref (u 27), .int 1, .int 0, .int 0, .int 0, .int 0, .int 0, .int 0, .int 0, .ref (u 28), .ref (u 29), .ref (u 30), .ref (u 31), .ref (u 32), .ref (u 33), .int 0, .ref (u 34), .int 0, .ref (u 35), .ref (u 36), .ref (u 37), .ref (u 38), .ref (u 39), .ref (u 40), .int 0, .int 0, .int 0, .int 0, .int 0, .ref (u 41), .ref (u 42), .ref (u 43), .int 0, .ref (u 44), .int 0, .int 0, .int 0, .ref (u 45), .ref (u 46), .ref (u 47), .ref (u 48), .ref (u 49), .ref (u 50), .ref (u 51), .ref (u 52), .ref (u 53), .int 0, .int 0, .int 0, .int 0, .int 0, .int 0, .int 0, .int 0, .int 0, .int 0, .int 0, .ref (u 54), .ref (u 55), .ref (u 56), .ref (u 57), .ref (u 58), .ref (u 59), .ref (u 60), .ref (u 61), .ref (u 62), .ref (u 63), .ref (u 64), .ref (u 65), .int 0, .int 0, .ref (u 66), .ref (u 67), .ref (u 68), .ref (u 69), .ref (u 70), .ref (u 71), .int 0, .ref (u 72), .ref (u 73), .ref (u 74), .int 0, .ref (u 75), .ref (u 76), .ref (u 77), .int 0, .ref (u 78), .ref (u 79), .ref (u 80), .ref (u 81), .ref (u 82), .int 0, .int 0, .ref (u 83), .ref (u 84), .ref (u 85), .ref (u 86), .ref (u 87), .int 0, .ref (u 88)])] s.heap _ _ := hw
  refine lv_goto (tgt := 201) hx hb dX12_join_186 (by decide) ?_
  have hz : r6 = m_ap45 a d := (by subst hr2 hr4 hr6; rw [m_ap45_eq])
  have hw : Wd G A [(h0, ob 11 [.int 1, .int (m_ap45 a d), .ref (u 0), .int 0, .int 0, .int (-1), .int 0, .int 0, .ref (u 1), .ref (u 2), .ref (u 3), .ref (u 4), .ref (u 5), .ref (u 6), .ref (u 7), .ref (u 8), .ref (u 9), .int 0, .int 0, .ref (u 10), .ref (u 11), .ref (u 12), .ref (u 13), .ref (u 14), .ref (u 15), .ref (u 16), .ref (u 17), .int 0, .int 0, .ref (u 18), .ref (u 19), .ref (u 20), .int 0, .ref (u 21), .ref (u 22), .ref (u 23), .int 0, .int 0, .ref (u 24), .ref (u 25), .ref (u 26), .ref (u 27), .int 1, .int 0, .int 0, .int 0, .int 0, .int 0, .int 0, .int 0, .ref (u 28), .ref (u 29), .ref (u 30), .ref (u 31), .ref (u 32), .ref (u 33), .int 0, .ref (u 34), .int 0, .ref (u 35), .ref (u 36), .ref (u 37), .ref (u 38), .ref (u 39), .ref (u 40), .int 0, .int 0, .int 0, .int 0, .int 0, .ref (u 41), .ref (u 42), .ref (u 43), .int 0, .ref (u 44), .int 0, .int 0, .int 0, .ref (u 45), .ref (u 46), .ref (u 47), .ref (u 48), .ref (u 49), .ref (u 50), .ref (u 51), .ref (u 52), .ref (u 53), .int 0, .int 0, .int 0, .int 0, .int 0, .int 0, .int 0, .int 0, .int 0, .int 0, .int 0, .ref (u 54), .ref (u 55), .ref (u 56), .ref (u 57), .ref (u 58), .ref (u 59), .ref (u 60), .ref (u 61), .ref (u 62), .ref (u 63), .ref (u 64), .ref (u 65), .int 0, .int 0, .ref (u 66), .ref (u 67), .ref (u 68), .ref (u 69), .ref (u 70), .ref (u 71), .int 0, .ref (u 72), .ref (u 73), .ref (u 74), .int 0, .ref (u 75), .ref (u 76), .ref (u 77), .int 0, .ref (u 78), .ref (u 79), .ref (u 80), .ref (u 81), .ref (u 82), .int 0, .int 0, .ref (u 83), .ref (u 84), .ref (u 85), .ref (u 86), .ref (u 87), .int 0, .ref (u 88)])] s.heap _ _ := (by rw [← hz]; exact hw.sub [0] rfl rfl)
  exact r_vret cx hr hlk () trivial hw (Nat.le_of_ble_eq_true rfl) (Nat.le_of_ble_eq_true rfl) dX12_join_201

theorem m_ap42_ex : ∃ f : Int32 → Int32 → Int32, ∀ (a : Int32) (d : Int32), f a d = ((m_br42 (m_floatOf a) (m_floatOf d))) := ⟨fun (a : Int32) (d : Int32) => ((m_br42 (m_floatOf a) (m_floatOf d))), fun _ _ => rfl⟩
noncomputable def m_ap42 : Int32 → Int32 → Int32 := Classical.choose m_ap42_ex
theorem m_ap42_eq (a : Int32) (d : Int32) : m_ap42 a d = ((m_br42 (m_floatOf a) (m_floatOf d))) := Classical.choose_spec m_ap42_ex a d
set_option maxHeartbeats 4000000 in
set_option maxRecDepth 100000 in
theorem g_j42 (l : Launch) (G : Gt) (h0 : Nat) (u : Nat → Nat) (a : Int32) (d : Int32) : Mt l yX12_join cX12_join 8 none ({ frames := 4, cells := 0, slots := 0, locals := 84 } : Room) G [.ref h0, .int 42, .int 1, .int a, .int 1, .int d] [(h0, ob 11 [.int 0, .int 0, .ref (u 0), .int 0, .int 0, .int (-1), .int 0, .int 0, .ref (u 1), .ref (u 2), .ref (u 3), .ref (u 4), .ref (u 5), .ref (u 6), .ref (u 7), .ref (u 8), .ref (u 9), .int 0, .int 0, .ref (u 10), .ref (u 11), .ref (u 12), .ref (u 13), .ref (u 14), .ref (u 15), .ref (u 16), .ref (u 17), .int 0, .int 0, .ref (u 18), .ref (u 19), .ref (u 20), .int 0, .ref (u 21), .ref (u 22), .ref (u 23), .int 0, .int 0, .ref (u 24), .ref (u 25), .ref (u 26), .ref (u 27), .int 1, .int 0, .int 0, .int 0, .int 0, .int 0, .int 0, .int 0, .ref (u 28), .ref (u 29), .ref (u 30), .ref (u 31), .ref (u 32), .ref (u 33), .int 0, .ref (u 34), .int 0, .ref (u 35), .ref (u 36), .ref (u 37), .ref (u 38), .ref (u 39), .ref (u 40), .int 0, .int 0, .int 0, .int 0, .int 0, .ref (u 41), .ref (u 42), .ref (u 43), .int 0, .ref (u 44), .int 0, .int 0, .int 0, .ref (u 45), .ref (u 46), .ref (u 47), .ref (u 48), .ref (u 49), .ref (u 50), .ref (u 51), .ref (u 52), .ref (u 53), .int 0, .int 0, .int 0, .int 0, .int 0, .int 0, .int 0, .int 0, .int 0, .int 0, .int 0, .ref (u 54), .ref (u 55), .ref (u 56), .ref (u 57), .ref (u 58), .ref (u 59), .ref (u 60), .ref (u 61), .ref (u 62), .ref (u 63), .ref (u 64), .ref (u 65), .int 0, .int 0, .ref (u 66), .ref (u 67), .ref (u 68), .ref (u 69), .ref (u 70), .ref (u 71), .int 0, .ref (u 72), .ref (u 73), .ref (u 74), .int 0, .ref (u 75), .ref (u 76), .ref (u 77), .int 0, .ref (u 78), .ref (u 79), .ref (u 80), .ref (u 81), .ref (u 82), .int 0, .int 0, .ref (u 83), .ref (u 84), .ref (u 85), .ref (u 86), .ref (u 87), .int 0, .ref (u 88)])] (qV G (fun (w : Unit) => True) (fun w => [(h0, ob 11 [.int 1, .int (m_ap42 a d), .ref (u 0), .int 0, .int 0, .int (-1), .int 0, .int 0, .ref (u 1), .ref (u 2), .ref (u 3), .ref (u 4), .ref (u 5), .ref (u 6), .ref (u 7), .ref (u 8), .ref (u 9), .int 0, .int 0, .ref (u 10), .ref (u 11), .ref (u 12), .ref (u 13), .ref (u 14), .ref (u 15), .ref (u 16), .ref (u 17), .int 0, .int 0, .ref (u 18), .ref (u 19), .ref (u 20), .int 0, .ref (u 21), .ref (u 22), .ref (u 23), .int 0, .int 0, .ref (u 24), .ref (u 25), .ref (u 26), .ref (u 27), .int 1, .int 0, .int 0, .int 0, .int 0, .int 0, .int 0, .int 0, .ref (u 28), .ref (u 29), .ref (u 30), .ref (u 31), .ref (u 32), .ref (u 33), .int 0, .ref (u 34), .int 0, .ref (u 35), .ref (u 36), .ref (u 37), .ref (u 38), .ref (u 39), .ref (u 40), .int 0, .int 0, .int 0, .int 0, .int 0, .ref (u 41), .ref (u 42), .ref (u 43), .int 0, .ref (u 44), .int 0, .int 0, .int 0, .ref (u 45), .ref (u 46), .ref (u 47), .ref (u 48), .ref (u 49), .ref (u 50), .ref (u 51), .ref (u 52), .ref (u 53), .int 0, .int 0, .int 0, .int 0, .int 0, .int 0, .int 0, .int 0, .int 0, .int 0, .int 0, .ref (u 54), .ref (u 55), .ref (u 56), .ref (u 57), .ref (u 58), .ref (u 59), .ref (u 60), .ref (u 61), .ref (u 62), .ref (u 63), .ref (u 64), .ref (u 65), .int 0, .int 0, .ref (u 66), .ref (u 67), .ref (u 68), .ref (u 69), .ref (u 70), .ref (u 71), .int 0, .ref (u 72), .ref (u 73), .ref (u 74), .int 0, .ref (u 75), .ref (u 76), .ref (u 77), .int 0, .ref (u 78), .ref (u 79), .ref (u 80), .ref (u 81), .ref (u 82), .int 0, .int 0, .ref (u 83), .ref (u 84), .ref (u 85), .ref (u 86), .ref (u 87), .int 0, .ref (u 88)])])) := by
  refine Mt.of (own := RX12) (cc := cX12_join) (by decide) rfl (Nat.le_of_ble_eq_true rfl) ?_
  intro p e s m below meth c A ls cx hr hlk hmn hA hl hw
  have hx := cx.1
  have hb := cx.2.1
  have hl : lv_has ls 8 [(0, .ref h0), (1, .int 42), (2, .int 1), (3, .int a), (4, .int 1), (5, .int d)] := hl
  refine lv_iload_n hx hb dX12_join_0 rfl (lv_at hl 2 rfl) ?_
  refine lv_iconst (v := 1) hx hb dX12_join_1 (by decide) ?_
  refine lv_icmp_eq (tgt := 11) hx hb dX12_join_2 (by decide) (fun _ => ?_) (fun c9 => absurd (by decide) c9)
  refine lv_iconst (v := 1) hx hb dX12_join_11 (by decide) ?_
  refine lv_goto (tgt := 16) hx hb dX12_join_12 (by decide) ?_
  refine lv_istore (lv' := [(6, .int 1), (0, .ref h0), (1, .int 42), (2, .int 1), (3, .int a), (4, .int 1), (5, .int d)]) hx hb dX12_join_16 hl (by decide) rfl (fun ls hl => ?_)
  refine lv_iload_n hx hb dX12_join_18 rfl (lv_at hl 2 rfl) ?_
  refine lv_bipush (v := 37) hx hb dX12_join_19 (by decide) ?_
  refine lv_icmp_ne (tgt := 58) hx hb dX12_join_21 (by decide) (fun _ => ?_) (fun c9 => absurd c9 (by decide))
  refine lv_iload_n hx hb dX12_join_58 rfl (lv_at hl 2 rfl) ?_
  refine lv_bipush (v := 60) hx hb dX12_join_59 (by decide) ?_
  refine lv_icmp_ne (tgt := 109) hx hb dX12_join_61 (by decide) (fun _ => ?_) (fun c9 => absurd c9 (by decide))
  refine lv_iload_n hx hb dX12_join_109 rfl (lv_at hl 2 rfl) ?_
  refine lv_bipush (v := 61) hx hb dX12_join_110 (by decide) ?_
  refine lv_icmp_ne (tgt := 160) hx hb dX12_join_112 (by decide) (fun _ => ?_) (fun c9 => absurd c9 (by decide))
  refine lv_iload hx hb dX12_join_160 (lv_at hl 0 rfl) ?_
  refine lv_if_eq (tgt := 189) hx hb dX12_join_162 (by decide) (fun c9 => absurd c9 (by decide)) (fun _ => ?_)
  refine lv_aload_n hx hb dX12_join_165 rfl (lv_at hl 1 rfl) ?_
  refine lv_iconst (v := 1) hx hb dX12_join_166 (by decide) ?_
  refine lv_iload_n hx hb dX12_join_167 rfl (lv_at hl 2 rfl) ?_
  refine lv_iload_n hx hb dX12_join_168 rfl (lv_at hl 3 rfl) ?_
  refine lv_iload_n hx hb dX12_join_169 rfl (lv_at hl 4 rfl) ?_
  refine r_callS0I (As := [.int 1, .int a]) (rest := [.int 42, .int 1, .ref h0]) cx hw hA (g_floatOf l G a) ml_X12_328 st_X12_floatOf in_X12 co_X12_floatOf hd_X12_floatOf rfl ⟨Nat.le_of_ble_eq_true rfl, Nat.le_of_ble_eq_true rfl⟩ hl.1 rfl (Nat.le_of_ble_eq_true rfl) dX12_join_170 ⟨Nat.le_of_ble_eq_true rfl, Nat.le_of_ble_eq_true rfl⟩ (fun r2 H locs hr2 hw => ?_)
  refine lv_iload hx hb dX12_join_173 (lv_at hl 5 rfl) ?_
  refine lv_iload hx hb dX12_join_175 (lv_at hl 6 rfl) ?_
  refine r_callS0I (As := [.int 1, .int d]) (rest := [.int r2, .int 42, .int 1, .ref h0]) cx hw hA (g_floatOf l G d) ml_X12_328 st_X12_floatOf in_X12 co_X12_floatOf hd_X12_floatOf rfl ⟨Nat.le_of_ble_eq_true rfl, Nat.le_of_ble_eq_true rfl⟩ hl.1 rfl (Nat.le_of_ble_eq_true rfl) dX12_join_177 ⟨Nat.le_of_ble_eq_true rfl, Nat.le_of_ble_eq_true rfl⟩ (fun r4 H locs hr4 hw => ?_)
  refine r_callS0I (As := [.int 42, .int r2, .int r4]) (rest := [.int 1, .ref h0]) cx hw hA (g_br42 l G r2 r4) ml_X12_338 st_X12_brokens in_X12 co_X12_brokens hd_X12_brokens rfl ⟨Nat.le_of_ble_eq_true rfl, Nat.le_of_ble_eq_true rfl⟩ hl.1 rfl (Nat.le_of_ble_eq_true rfl) dX12_join_180 ⟨Nat.le_of_ble_eq_true rfl, Nat.le_of_ble_eq_true rfl⟩ (fun r6 H locs hr6 hw => ?_)
  refine r_callVV (As := [.int 1, .int r6]) (rest := []) (wr := []) cx hw hA (g_give l G h0 u 1 r6) [0] [] rfl rfl rfl rfl rfl 0 rfl (ci := 11) rfl ml_X12_324 im_X12_give se_X12_give in_X12 co_X12_give rfl hd_X12_give rfl ⟨Nat.le_of_ble_eq_true rfl, Nat.le_of_ble_eq_true rfl⟩ hl.1 rfl (Nat.le_of_ble_eq_true rfl) dX12_join_183 ⟨Nat.le_of_ble_eq_true rfl, Nat.le_of_ble_eq_true rfl⟩ (fun u7 H locs hr8 hw => ?_)
  have hw : Wd G A [(h0, ob 11 [.int 1, .int r6, .ref (u 0), .int 0, .int 0, .int (-1), .int 0, .int 0, .ref (u 1), .ref (u 2), .ref (u 3), .ref (u 4), .ref (u 5), .ref (u 6), .ref (u 7), .ref (u 8), .ref (u 9), .int 0, .int 0, .ref (u 10), .ref (u 11), .ref (u 12), .ref (u 13), .ref (u 14), .ref (u 15), .ref (u 16), .ref (u 17), .int 0, .int 0, .ref (u 18), .ref (u 19), .ref (u 20), .int 0, .ref (u 21), .ref (u 22), .ref (u 23), .int 0, .int 0, .ref (u 24), .ref (u 25), .ref (u 26), .ref (u 27), .int 1, .int 0, .int 0, .int 0, .int 0, .int 0, .int 0, .int 0, .ref (u 28), .ref (u 29), .ref (u 30), .ref (u 31), .ref (u 32), .ref (u 33), .int 0, .ref (u 34), .int 0, .ref (u 35), .ref (u 36), .ref (u 37), .ref (u 38), .ref (u 39), .ref (u 40), .int 0, .int 0, .int 0, .int 0, .int 0, .ref (u 41), .ref (u 42), .ref (u 43), .int 0, .ref (u 44), .int 0, .int 0, .int 0, .ref (u 45), .ref (u 46), .ref (u 47), .ref (u 48), .ref (u 49), .ref (u 50), .ref (u 51), .ref (u 52), .ref (u 53), .int 0, .int 0, .int 0, .int 0, .int 0, .int 0, .int 0, .int 0, .int 0, .int 0, .int 0, .ref (u 54), .ref (u 55), .ref (u 56), .ref (u 57), .ref (u 58), .ref (u 59), .ref (u 60), .ref (u 61), .ref (u 62), .ref (u 63), .ref (u 64), .ref (u 65), .int 0, .int 0, .ref (u 66), .ref (u 67), .ref (u 68), .ref (u 69), .ref (u 70), .ref (u 71), .int 0, .ref (u 72), .ref (u 73), .ref (u 74), .int 0, .ref (u 75), .ref (u 76), .ref (u 77), .int 0, .ref (u 78), .ref (u 79), .ref (u 80), .ref (u 81), .ref (u 82), .int 0, .int 0, .ref (u 83), .ref (u 84), .ref (u 85), .ref (u 86), .ref (u 87), .int 0, .ref (u 88)])] s.heap _ _ := hw
  refine lv_goto (tgt := 201) hx hb dX12_join_186 (by decide) ?_
  have hz : r6 = m_ap42 a d := (by subst hr2 hr4 hr6; rw [m_ap42_eq])
  have hw : Wd G A [(h0, ob 11 [.int 1, .int (m_ap42 a d), .ref (u 0), .int 0, .int 0, .int (-1), .int 0, .int 0, .ref (u 1), .ref (u 2), .ref (u 3), .ref (u 4), .ref (u 5), .ref (u 6), .ref (u 7), .ref (u 8), .ref (u 9), .int 0, .int 0, .ref (u 10), .ref (u 11), .ref (u 12), .ref (u 13), .ref (u 14), .ref (u 15), .ref (u 16), .ref (u 17), .int 0, .int 0, .ref (u 18), .ref (u 19), .ref (u 20), .int 0, .ref (u 21), .ref (u 22), .ref (u 23), .int 0, .int 0, .ref (u 24), .ref (u 25), .ref (u 26), .ref (u 27), .int 1, .int 0, .int 0, .int 0, .int 0, .int 0, .int 0, .int 0, .ref (u 28), .ref (u 29), .ref (u 30), .ref (u 31), .ref (u 32), .ref (u 33), .int 0, .ref (u 34), .int 0, .ref (u 35), .ref (u 36), .ref (u 37), .ref (u 38), .ref (u 39), .ref (u 40), .int 0, .int 0, .int 0, .int 0, .int 0, .ref (u 41), .ref (u 42), .ref (u 43), .int 0, .ref (u 44), .int 0, .int 0, .int 0, .ref (u 45), .ref (u 46), .ref (u 47), .ref (u 48), .ref (u 49), .ref (u 50), .ref (u 51), .ref (u 52), .ref (u 53), .int 0, .int 0, .int 0, .int 0, .int 0, .int 0, .int 0, .int 0, .int 0, .int 0, .int 0, .ref (u 54), .ref (u 55), .ref (u 56), .ref (u 57), .ref (u 58), .ref (u 59), .ref (u 60), .ref (u 61), .ref (u 62), .ref (u 63), .ref (u 64), .ref (u 65), .int 0, .int 0, .ref (u 66), .ref (u 67), .ref (u 68), .ref (u 69), .ref (u 70), .ref (u 71), .int 0, .ref (u 72), .ref (u 73), .ref (u 74), .int 0, .ref (u 75), .ref (u 76), .ref (u 77), .int 0, .ref (u 78), .ref (u 79), .ref (u 80), .ref (u 81), .ref (u 82), .int 0, .int 0, .ref (u 83), .ref (u 84), .ref (u 85), .ref (u 86), .ref (u 87), .int 0, .ref (u 88)])] s.heap _ _ := (by rw [← hz]; exact hw.sub [0] rfl rfl)
  exact r_vret cx hr hlk () trivial hw (Nat.le_of_ble_eq_true rfl) (Nat.le_of_ble_eq_true rfl) dX12_join_201

theorem m_ap47_ex : ∃ f : Int32 → Int32 → Int32, ∀ (a : Int32) (d : Int32), f a d = ((m_br47 (m_floatOf a) (m_floatOf d))) := ⟨fun (a : Int32) (d : Int32) => ((m_br47 (m_floatOf a) (m_floatOf d))), fun _ _ => rfl⟩
noncomputable def m_ap47 : Int32 → Int32 → Int32 := Classical.choose m_ap47_ex
theorem m_ap47_eq (a : Int32) (d : Int32) : m_ap47 a d = ((m_br47 (m_floatOf a) (m_floatOf d))) := Classical.choose_spec m_ap47_ex a d
set_option maxHeartbeats 4000000 in
set_option maxRecDepth 100000 in
theorem g_j47 (l : Launch) (G : Gt) (h0 : Nat) (u : Nat → Nat) (a : Int32) (d : Int32) : Mt l yX12_join cX12_join 8 none ({ frames := 4, cells := 0, slots := 0, locals := 84 } : Room) G [.ref h0, .int 47, .int 1, .int a, .int 1, .int d] [(h0, ob 11 [.int 0, .int 0, .ref (u 0), .int 0, .int 0, .int (-1), .int 0, .int 0, .ref (u 1), .ref (u 2), .ref (u 3), .ref (u 4), .ref (u 5), .ref (u 6), .ref (u 7), .ref (u 8), .ref (u 9), .int 0, .int 0, .ref (u 10), .ref (u 11), .ref (u 12), .ref (u 13), .ref (u 14), .ref (u 15), .ref (u 16), .ref (u 17), .int 0, .int 0, .ref (u 18), .ref (u 19), .ref (u 20), .int 0, .ref (u 21), .ref (u 22), .ref (u 23), .int 0, .int 0, .ref (u 24), .ref (u 25), .ref (u 26), .ref (u 27), .int 1, .int 0, .int 0, .int 0, .int 0, .int 0, .int 0, .int 0, .ref (u 28), .ref (u 29), .ref (u 30), .ref (u 31), .ref (u 32), .ref (u 33), .int 0, .ref (u 34), .int 0, .ref (u 35), .ref (u 36), .ref (u 37), .ref (u 38), .ref (u 39), .ref (u 40), .int 0, .int 0, .int 0, .int 0, .int 0, .ref (u 41), .ref (u 42), .ref (u 43), .int 0, .ref (u 44), .int 0, .int 0, .int 0, .ref (u 45), .ref (u 46), .ref (u 47), .ref (u 48), .ref (u 49), .ref (u 50), .ref (u 51), .ref (u 52), .ref (u 53), .int 0, .int 0, .int 0, .int 0, .int 0, .int 0, .int 0, .int 0, .int 0, .int 0, .int 0, .ref (u 54), .ref (u 55), .ref (u 56), .ref (u 57), .ref (u 58), .ref (u 59), .ref (u 60), .ref (u 61), .ref (u 62), .ref (u 63), .ref (u 64), .ref (u 65), .int 0, .int 0, .ref (u 66), .ref (u 67), .ref (u 68), .ref (u 69), .ref (u 70), .ref (u 71), .int 0, .ref (u 72), .ref (u 73), .ref (u 74), .int 0, .ref (u 75), .ref (u 76), .ref (u 77), .int 0, .ref (u 78), .ref (u 79), .ref (u 80), .ref (u 81), .ref (u 82), .int 0, .int 0, .ref (u 83), .ref (u 84), .ref (u 85), .ref (u 86), .ref (u 87), .int 0, .ref (u 88)])] (qV G (fun (w : Unit) => True) (fun w => [(h0, ob 11 [.int 1, .int (m_ap47 a d), .ref (u 0), .int 0, .int 0, .int (-1), .int 0, .int 0, .ref (u 1), .ref (u 2), .ref (u 3), .ref (u 4), .ref (u 5), .ref (u 6), .ref (u 7), .ref (u 8), .ref (u 9), .int 0, .int 0, .ref (u 10), .ref (u 11), .ref (u 12), .ref (u 13), .ref (u 14), .ref (u 15), .ref (u 16), .ref (u 17), .int 0, .int 0, .ref (u 18), .ref (u 19), .ref (u 20), .int 0, .ref (u 21), .ref (u 22), .ref (u 23), .int 0, .int 0, .ref (u 24), .ref (u 25), .ref (u 26), .ref (u 27), .int 1, .int 0, .int 0, .int 0, .int 0, .int 0, .int 0, .int 0, .ref (u 28), .ref (u 29), .ref (u 30), .ref (u 31), .ref (u 32), .ref (u 33), .int 0, .ref (u 34), .int 0, .ref (u 35), .ref (u 36), .ref (u 37), .ref (u 38), .ref (u 39), .ref (u 40), .int 0, .int 0, .int 0, .int 0, .int 0, .ref (u 41), .ref (u 42), .ref (u 43), .int 0, .ref (u 44), .int 0, .int 0, .int 0, .ref (u 45), .ref (u 46), .ref (u 47), .ref (u 48), .ref (u 49), .ref (u 50), .ref (u 51), .ref (u 52), .ref (u 53), .int 0, .int 0, .int 0, .int 0, .int 0, .int 0, .int 0, .int 0, .int 0, .int 0, .int 0, .ref (u 54), .ref (u 55), .ref (u 56), .ref (u 57), .ref (u 58), .ref (u 59), .ref (u 60), .ref (u 61), .ref (u 62), .ref (u 63), .ref (u 64), .ref (u 65), .int 0, .int 0, .ref (u 66), .ref (u 67), .ref (u 68), .ref (u 69), .ref (u 70), .ref (u 71), .int 0, .ref (u 72), .ref (u 73), .ref (u 74), .int 0, .ref (u 75), .ref (u 76), .ref (u 77), .int 0, .ref (u 78), .ref (u 79), .ref (u 80), .ref (u 81), .ref (u 82), .int 0, .int 0, .ref (u 83), .ref (u 84), .ref (u 85), .ref (u 86), .ref (u 87), .int 0, .ref (u 88)])])) := by
  refine Mt.of (own := RX12) (cc := cX12_join) (by decide) rfl (Nat.le_of_ble_eq_true rfl) ?_
  intro p e s m below meth c A ls cx hr hlk hmn hA hl hw
  have hx := cx.1
  have hb := cx.2.1
  have hl : lv_has ls 8 [(0, .ref h0), (1, .int 47), (2, .int 1), (3, .int a), (4, .int 1), (5, .int d)] := hl
  refine lv_iload_n hx hb dX12_join_0 rfl (lv_at hl 2 rfl) ?_
  refine lv_iconst (v := 1) hx hb dX12_join_1 (by decide) ?_
  refine lv_icmp_eq (tgt := 11) hx hb dX12_join_2 (by decide) (fun _ => ?_) (fun c9 => absurd (by decide) c9)
  refine lv_iconst (v := 1) hx hb dX12_join_11 (by decide) ?_
  refine lv_goto (tgt := 16) hx hb dX12_join_12 (by decide) ?_
  refine lv_istore (lv' := [(6, .int 1), (0, .ref h0), (1, .int 47), (2, .int 1), (3, .int a), (4, .int 1), (5, .int d)]) hx hb dX12_join_16 hl (by decide) rfl (fun ls hl => ?_)
  refine lv_iload_n hx hb dX12_join_18 rfl (lv_at hl 2 rfl) ?_
  refine lv_bipush (v := 37) hx hb dX12_join_19 (by decide) ?_
  refine lv_icmp_ne (tgt := 58) hx hb dX12_join_21 (by decide) (fun _ => ?_) (fun c9 => absurd c9 (by decide))
  refine lv_iload_n hx hb dX12_join_58 rfl (lv_at hl 2 rfl) ?_
  refine lv_bipush (v := 60) hx hb dX12_join_59 (by decide) ?_
  refine lv_icmp_ne (tgt := 109) hx hb dX12_join_61 (by decide) (fun _ => ?_) (fun c9 => absurd c9 (by decide))
  refine lv_iload_n hx hb dX12_join_109 rfl (lv_at hl 2 rfl) ?_
  refine lv_bipush (v := 61) hx hb dX12_join_110 (by decide) ?_
  refine lv_icmp_ne (tgt := 160) hx hb dX12_join_112 (by decide) (fun _ => ?_) (fun c9 => absurd c9 (by decide))
  refine lv_iload hx hb dX12_join_160 (lv_at hl 0 rfl) ?_
  refine lv_if_eq (tgt := 189) hx hb dX12_join_162 (by decide) (fun c9 => absurd c9 (by decide)) (fun _ => ?_)
  refine lv_aload_n hx hb dX12_join_165 rfl (lv_at hl 1 rfl) ?_
  refine lv_iconst (v := 1) hx hb dX12_join_166 (by decide) ?_
  refine lv_iload_n hx hb dX12_join_167 rfl (lv_at hl 2 rfl) ?_
  refine lv_iload_n hx hb dX12_join_168 rfl (lv_at hl 3 rfl) ?_
  refine lv_iload_n hx hb dX12_join_169 rfl (lv_at hl 4 rfl) ?_
  refine r_callS0I (As := [.int 1, .int a]) (rest := [.int 47, .int 1, .ref h0]) cx hw hA (g_floatOf l G a) ml_X12_328 st_X12_floatOf in_X12 co_X12_floatOf hd_X12_floatOf rfl ⟨Nat.le_of_ble_eq_true rfl, Nat.le_of_ble_eq_true rfl⟩ hl.1 rfl (Nat.le_of_ble_eq_true rfl) dX12_join_170 ⟨Nat.le_of_ble_eq_true rfl, Nat.le_of_ble_eq_true rfl⟩ (fun r2 H locs hr2 hw => ?_)
  refine lv_iload hx hb dX12_join_173 (lv_at hl 5 rfl) ?_
  refine lv_iload hx hb dX12_join_175 (lv_at hl 6 rfl) ?_
  refine r_callS0I (As := [.int 1, .int d]) (rest := [.int r2, .int 47, .int 1, .ref h0]) cx hw hA (g_floatOf l G d) ml_X12_328 st_X12_floatOf in_X12 co_X12_floatOf hd_X12_floatOf rfl ⟨Nat.le_of_ble_eq_true rfl, Nat.le_of_ble_eq_true rfl⟩ hl.1 rfl (Nat.le_of_ble_eq_true rfl) dX12_join_177 ⟨Nat.le_of_ble_eq_true rfl, Nat.le_of_ble_eq_true rfl⟩ (fun r4 H locs hr4 hw => ?_)
  refine r_callS0I (As := [.int 47, .int r2, .int r4]) (rest := [.int 1, .ref h0]) cx hw hA (g_br47 l G r2 r4) ml_X12_338 st_X12_brokens in_X12 co_X12_brokens hd_X12_brokens rfl ⟨Nat.le_of_ble_eq_true rfl, Nat.le_of_ble_eq_true rfl⟩ hl.1 rfl (Nat.le_of_ble_eq_true rfl) dX12_join_180 ⟨Nat.le_of_ble_eq_true rfl, Nat.le_of_ble_eq_true rfl⟩ (fun r6 H locs hr6 hw => ?_)
  refine r_callVV (As := [.int 1, .int r6]) (rest := []) (wr := []) cx hw hA (g_give l G h0 u 1 r6) [0] [] rfl rfl rfl rfl rfl 0 rfl (ci := 11) rfl ml_X12_324 im_X12_give se_X12_give in_X12 co_X12_give rfl hd_X12_give rfl ⟨Nat.le_of_ble_eq_true rfl, Nat.le_of_ble_eq_true rfl⟩ hl.1 rfl (Nat.le_of_ble_eq_true rfl) dX12_join_183 ⟨Nat.le_of_ble_eq_true rfl, Nat.le_of_ble_eq_true rfl⟩ (fun u7 H locs hr8 hw => ?_)
  have hw : Wd G A [(h0, ob 11 [.int 1, .int r6, .ref (u 0), .int 0, .int 0, .int (-1), .int 0, .int 0, .ref (u 1), .ref (u 2), .ref (u 3), .ref (u 4), .ref (u 5), .ref (u 6), .ref (u 7), .ref (u 8), .ref (u 9), .int 0, .int 0, .ref (u 10), .ref (u 11), .ref (u 12), .ref (u 13), .ref (u 14), .ref (u 15), .ref (u 16), .ref (u 17), .int 0, .int 0, .ref (u 18), .ref (u 19), .ref (u 20), .int 0, .ref (u 21), .ref (u 22), .ref (u 23), .int 0, .int 0, .ref (u 24), .ref (u 25), .ref (u 26), .ref (u 27), .int 1, .int 0, .int 0, .int 0, .int 0, .int 0, .int 0, .int 0, .ref (u 28), .ref (u 29), .ref (u 30), .ref (u 31), .ref (u 32), .ref (u 33), .int 0, .ref (u 34), .int 0, .ref (u 35), .ref (u 36), .ref (u 37), .ref (u 38), .ref (u 39), .ref (u 40), .int 0, .int 0, .int 0, .int 0, .int 0, .ref (u 41), .ref (u 42), .ref (u 43), .int 0, .ref (u 44), .int 0, .int 0, .int 0, .ref (u 45), .ref (u 46), .ref (u 47), .ref (u 48), .ref (u 49), .ref (u 50), .ref (u 51), .ref (u 52), .ref (u 53), .int 0, .int 0, .int 0, .int 0, .int 0, .int 0, .int 0, .int 0, .int 0, .int 0, .int 0, .ref (u 54), .ref (u 55), .ref (u 56), .ref (u 57), .ref (u 58), .ref (u 59), .ref (u 60), .ref (u 61), .ref (u 62), .ref (u 63), .ref (u 64), .ref (u 65), .int 0, .int 0, .ref (u 66), .ref (u 67), .ref (u 68), .ref (u 69), .ref (u 70), .ref (u 71), .int 0, .ref (u 72), .ref (u 73), .ref (u 74), .int 0, .ref (u 75), .ref (u 76), .ref (u 77), .int 0, .ref (u 78), .ref (u 79), .ref (u 80), .ref (u 81), .ref (u 82), .int 0, .int 0, .ref (u 83), .ref (u 84), .ref (u 85), .ref (u 86), .ref (u 87), .int 0, .ref (u 88)])] s.heap _ _ := hw
  refine lv_goto (tgt := 201) hx hb dX12_join_186 (by decide) ?_
  have hz : r6 = m_ap47 a d := (by subst hr2 hr4 hr6; rw [m_ap47_eq])
  have hw : Wd G A [(h0, ob 11 [.int 1, .int (m_ap47 a d), .ref (u 0), .int 0, .int 0, .int (-1), .int 0, .int 0, .ref (u 1), .ref (u 2), .ref (u 3), .ref (u 4), .ref (u 5), .ref (u 6), .ref (u 7), .ref (u 8), .ref (u 9), .int 0, .int 0, .ref (u 10), .ref (u 11), .ref (u 12), .ref (u 13), .ref (u 14), .ref (u 15), .ref (u 16), .ref (u 17), .int 0, .int 0, .ref (u 18), .ref (u 19), .ref (u 20), .int 0, .ref (u 21), .ref (u 22), .ref (u 23), .int 0, .int 0, .ref (u 24), .ref (u 25), .ref (u 26), .ref (u 27), .int 1, .int 0, .int 0, .int 0, .int 0, .int 0, .int 0, .int 0, .ref (u 28), .ref (u 29), .ref (u 30), .ref (u 31), .ref (u 32), .ref (u 33), .int 0, .ref (u 34), .int 0, .ref (u 35), .ref (u 36), .ref (u 37), .ref (u 38), .ref (u 39), .ref (u 40), .int 0, .int 0, .int 0, .int 0, .int 0, .ref (u 41), .ref (u 42), .ref (u 43), .int 0, .ref (u 44), .int 0, .int 0, .int 0, .ref (u 45), .ref (u 46), .ref (u 47), .ref (u 48), .ref (u 49), .ref (u 50), .ref (u 51), .ref (u 52), .ref (u 53), .int 0, .int 0, .int 0, .int 0, .int 0, .int 0, .int 0, .int 0, .int 0, .int 0, .int 0, .ref (u 54), .ref (u 55), .ref (u 56), .ref (u 57), .ref (u 58), .ref (u 59), .ref (u 60), .ref (u 61), .ref (u 62), .ref (u 63), .ref (u 64), .ref (u 65), .int 0, .int 0, .ref (u 66), .ref (u 67), .ref (u 68), .ref (u 69), .ref (u 70), .ref (u 71), .int 0, .ref (u 72), .ref (u 73), .ref (u 74), .int 0, .ref (u 75), .ref (u 76), .ref (u 77), .int 0, .ref (u 78), .ref (u 79), .ref (u 80), .ref (u 81), .ref (u 82), .int 0, .int 0, .ref (u 83), .ref (u 84), .ref (u 85), .ref (u 86), .ref (u 87), .int 0, .ref (u 88)])] s.heap _ _ := (by rw [← hz]; exact hw.sub [0] rfl rfl)
  exact r_vret cx hr hlk () trivial hw (Nat.le_of_ble_eq_true rfl) (Nat.le_of_ble_eq_true rfl) dX12_join_201

theorem m_ap37_ex : ∃ f : Int32 → Int32 → Int32, ∀ (a : Int32) (d : Int32), f a d = (if (m_intOf d) = (0 : Int32) then (0) else (((m_intOf a) - (m_intOf a) / (m_intOf d) * (m_intOf d)))) := ⟨fun (a : Int32) (d : Int32) => (if (m_intOf d) = (0 : Int32) then (0) else (((m_intOf a) - (m_intOf a) / (m_intOf d) * (m_intOf d)))), fun _ _ => rfl⟩
noncomputable def m_ap37 : Int32 → Int32 → Int32 := Classical.choose m_ap37_ex
theorem m_ap37_eq (a : Int32) (d : Int32) : m_ap37 a d = (if (m_intOf d) = (0 : Int32) then (0) else (((m_intOf a) - (m_intOf a) / (m_intOf d) * (m_intOf d)))) := Classical.choose_spec m_ap37_ex a d
set_option maxHeartbeats 4000000 in
set_option maxRecDepth 100000 in
theorem g_j37 (l : Launch) (G : Gt) (h0 : Nat) (u : Nat → Nat) (a : Int32) (d : Int32) : Mt l yX12_join cX12_join 8 none ({ frames := 2, cells := 0, slots := 0, locals := 41 } : Room) G [.ref h0, .int 37, .int 1, .int a, .int 1, .int d] [(h0, ob 11 [.int 0, .int 0, .ref (u 0), .int 0, .int 0, .int (-1), .int 0, .int 0, .ref (u 1), .ref (u 2), .ref (u 3), .ref (u 4), .ref (u 5), .ref (u 6), .ref (u 7), .ref (u 8), .ref (u 9), .int 0, .int 0, .ref (u 10), .ref (u 11), .ref (u 12), .ref (u 13), .ref (u 14), .ref (u 15), .ref (u 16), .ref (u 17), .int 0, .int 0, .ref (u 18), .ref (u 19), .ref (u 20), .int 0, .ref (u 21), .ref (u 22), .ref (u 23), .int 0, .int 0, .ref (u 24), .ref (u 25), .ref (u 26), .ref (u 27), .int 1, .int 0, .int 0, .int 0, .int 0, .int 0, .int 0, .int 0, .ref (u 28), .ref (u 29), .ref (u 30), .ref (u 31), .ref (u 32), .ref (u 33), .int 0, .ref (u 34), .int 0, .ref (u 35), .ref (u 36), .ref (u 37), .ref (u 38), .ref (u 39), .ref (u 40), .int 0, .int 0, .int 0, .int 0, .int 0, .ref (u 41), .ref (u 42), .ref (u 43), .int 0, .ref (u 44), .int 0, .int 0, .int 0, .ref (u 45), .ref (u 46), .ref (u 47), .ref (u 48), .ref (u 49), .ref (u 50), .ref (u 51), .ref (u 52), .ref (u 53), .int 0, .int 0, .int 0, .int 0, .int 0, .int 0, .int 0, .int 0, .int 0, .int 0, .int 0, .ref (u 54), .ref (u 55), .ref (u 56), .ref (u 57), .ref (u 58), .ref (u 59), .ref (u 60), .ref (u 61), .ref (u 62), .ref (u 63), .ref (u 64), .ref (u 65), .int 0, .int 0, .ref (u 66), .ref (u 67), .ref (u 68), .ref (u 69), .ref (u 70), .ref (u 71), .int 0, .ref (u 72), .ref (u 73), .ref (u 74), .int 0, .ref (u 75), .ref (u 76), .ref (u 77), .int 0, .ref (u 78), .ref (u 79), .ref (u 80), .ref (u 81), .ref (u 82), .int 0, .int 0, .ref (u 83), .ref (u 84), .ref (u 85), .ref (u 86), .ref (u 87), .int 0, .ref (u 88)])] (qV G (fun (w : Unit) => True) (fun w => [(h0, ob 11 [.int 0, .int (m_ap37 a d), .ref (u 0), .int 0, .int 0, .int (-1), .int 0, .int 0, .ref (u 1), .ref (u 2), .ref (u 3), .ref (u 4), .ref (u 5), .ref (u 6), .ref (u 7), .ref (u 8), .ref (u 9), .int 0, .int 0, .ref (u 10), .ref (u 11), .ref (u 12), .ref (u 13), .ref (u 14), .ref (u 15), .ref (u 16), .ref (u 17), .int 0, .int 0, .ref (u 18), .ref (u 19), .ref (u 20), .int 0, .ref (u 21), .ref (u 22), .ref (u 23), .int 0, .int 0, .ref (u 24), .ref (u 25), .ref (u 26), .ref (u 27), .int 1, .int 0, .int 0, .int 0, .int 0, .int 0, .int 0, .int 0, .ref (u 28), .ref (u 29), .ref (u 30), .ref (u 31), .ref (u 32), .ref (u 33), .int 0, .ref (u 34), .int 0, .ref (u 35), .ref (u 36), .ref (u 37), .ref (u 38), .ref (u 39), .ref (u 40), .int 0, .int 0, .int 0, .int 0, .int 0, .ref (u 41), .ref (u 42), .ref (u 43), .int 0, .ref (u 44), .int 0, .int 0, .int 0, .ref (u 45), .ref (u 46), .ref (u 47), .ref (u 48), .ref (u 49), .ref (u 50), .ref (u 51), .ref (u 52), .ref (u 53), .int 0, .int 0, .int 0, .int 0, .int 0, .int 0, .int 0, .int 0, .int 0, .int 0, .int 0, .ref (u 54), .ref (u 55), .ref (u 56), .ref (u 57), .ref (u 58), .ref (u 59), .ref (u 60), .ref (u 61), .ref (u 62), .ref (u 63), .ref (u 64), .ref (u 65), .int 0, .int 0, .ref (u 66), .ref (u 67), .ref (u 68), .ref (u 69), .ref (u 70), .ref (u 71), .int 0, .ref (u 72), .ref (u 73), .ref (u 74), .int 0, .ref (u 75), .ref (u 76), .ref (u 77), .int 0, .ref (u 78), .ref (u 79), .ref (u 80), .ref (u 81), .ref (u 82), .int 0, .int 0, .ref (u 83), .ref (u 84), .ref (u 85), .ref (u 86), .ref (u 87), .int 0, .ref (u 88)])])) := by
  refine Mt.of (own := RX12) (cc := cX12_join) (by decide) rfl (Nat.le_of_ble_eq_true rfl) ?_
  intro p e s m below meth c A ls cx hr hlk hmn hA hl hw
  have hx := cx.1
  have hb := cx.2.1
  have hl : lv_has ls 8 [(0, .ref h0), (1, .int 37), (2, .int 1), (3, .int a), (4, .int 1), (5, .int d)] := hl
  refine lv_iload_n hx hb dX12_join_0 rfl (lv_at hl 2 rfl) ?_
  refine lv_iconst (v := 1) hx hb dX12_join_1 (by decide) ?_
  refine lv_icmp_eq (tgt := 11) hx hb dX12_join_2 (by decide) (fun _ => ?_) (fun c9 => absurd (by decide) c9)
  refine lv_iconst (v := 1) hx hb dX12_join_11 (by decide) ?_
  refine lv_goto (tgt := 16) hx hb dX12_join_12 (by decide) ?_
  refine lv_istore (lv' := [(6, .int 1), (0, .ref h0), (1, .int 37), (2, .int 1), (3, .int a), (4, .int 1), (5, .int d)]) hx hb dX12_join_16 hl (by decide) rfl (fun ls hl => ?_)
  refine lv_iload_n hx hb dX12_join_18 rfl (lv_at hl 2 rfl) ?_
  refine lv_bipush (v := 37) hx hb dX12_join_19 (by decide) ?_
  refine lv_icmp_ne (tgt := 58) hx hb dX12_join_21 (by decide) (fun c9 => absurd (by decide) c9) (fun _ => ?_)
  refine lv_iload hx hb dX12_join_24 (lv_at hl 5 rfl) ?_
  refine lv_iload hx hb dX12_join_26 (lv_at hl 6 rfl) ?_
  refine r_callS0I (As := [.int 1, .int d]) (rest := []) cx hw hA (g_intOf l G d) ml_X12_320 st_X12_intOf in_X12 co_X12_intOf hd_X12_intOf rfl ⟨Nat.le_of_ble_eq_true rfl, Nat.le_of_ble_eq_true rfl⟩ hl.1 rfl (Nat.le_of_ble_eq_true rfl) dX12_join_28 ⟨Nat.le_of_ble_eq_true rfl, Nat.le_of_ble_eq_true rfl⟩ (fun r2 H locs hr2 hw => ?_)
  refine lv_istore (lv' := [(7, .int r2), (6, .int 1), (0, .ref h0), (1, .int 37), (2, .int 1), (3, .int a), (4, .int 1), (5, .int d)]) hx hb dX12_join_31 hl (by decide) rfl (fun ls hl => ?_)
  refine lv_aload_n hx hb dX12_join_33 rfl (lv_at hl 2 rfl) ?_
  refine lv_iconst (v := 0) hx hb dX12_join_34 (by decide) ?_
  refine lv_iload hx hb dX12_join_35 (lv_at hl 0 rfl) ?_
  refine lv_if_ne (tgt := 44) hx hb dX12_join_37 (by decide) (fun c3 => ?_) (fun c3 => ?_)
  · refine lv_iload_n hx hb dX12_join_44 rfl (lv_at hl 4 rfl) ?_
    refine lv_iload_n hx hb dX12_join_45 rfl (lv_at hl 5 rfl) ?_
    refine r_callS0I (As := [.int 1, .int a]) (rest := [.int 0, .ref h0]) cx hw hA (g_intOf l G a) ml_X12_320 st_X12_intOf in_X12 co_X12_intOf hd_X12_intOf rfl ⟨Nat.le_of_ble_eq_true rfl, Nat.le_of_ble_eq_true rfl⟩ hl.1 rfl (Nat.le_of_ble_eq_true rfl) dX12_join_46 ⟨Nat.le_of_ble_eq_true rfl, Nat.le_of_ble_eq_true rfl⟩ (fun r5 H locs hr5 hw => ?_)
    refine lv_iload hx hb dX12_join_49 (lv_at hl 0 rfl) ?_
    refine lv_irem hx hb dX12_join_51 c3 ?_
    refine lv_topi (fun v6 ev6 => ?_)
    refine r_callVV (As := [.int 0, .int v6]) (rest := []) (wr := []) cx hw hA (g_give l G h0 u 0 v6) [0] [] rfl rfl rfl rfl rfl 0 rfl (ci := 11) rfl ml_X12_324 im_X12_give se_X12_give in_X12 co_X12_give rfl hd_X12_give rfl ⟨Nat.le_of_ble_eq_true rfl, Nat.le_of_ble_eq_true rfl⟩ hl.1 rfl (Nat.le_of_ble_eq_true rfl) dX12_join_52 ⟨Nat.le_of_ble_eq_true rfl, Nat.le_of_ble_eq_true rfl⟩ (fun u7 H locs hr8 hw => ?_)
    have hw : Wd G A [(h0, ob 11 [.int 0, .int v6, .ref (u 0), .int 0, .int 0, .int (-1), .int 0, .int 0, .ref (u 1), .ref (u 2), .ref (u 3), .ref (u 4), .ref (u 5), .ref (u 6), .ref (u 7), .ref (u 8), .ref (u 9), .int 0, .int 0, .ref (u 10), .ref (u 11), .ref (u 12), .ref (u 13), .ref (u 14), .ref (u 15), .ref (u 16), .ref (u 17), .int 0, .int 0, .ref (u 18), .ref (u 19), .ref (u 20), .int 0, .ref (u 21), .ref (u 22), .ref (u 23), .int 0, .int 0, .ref (u 24), .ref (u 25), .ref (u 26), .ref (u 27), .int 1, .int 0, .int 0, .int 0, .int 0, .int 0, .int 0, .int 0, .ref (u 28), .ref (u 29), .ref (u 30), .ref (u 31), .ref (u 32), .ref (u 33), .int 0, .ref (u 34), .int 0, .ref (u 35), .ref (u 36), .ref (u 37), .ref (u 38), .ref (u 39), .ref (u 40), .int 0, .int 0, .int 0, .int 0, .int 0, .ref (u 41), .ref (u 42), .ref (u 43), .int 0, .ref (u 44), .int 0, .int 0, .int 0, .ref (u 45), .ref (u 46), .ref (u 47), .ref (u 48), .ref (u 49), .ref (u 50), .ref (u 51), .ref (u 52), .ref (u 53), .int 0, .int 0, .int 0, .int 0, .int 0, .int 0, .int 0, .int 0, .int 0, .int 0, .int 0, .ref (u 54), .ref (u 55), .ref (u 56), .ref (u 57), .ref (u 58), .ref (u 59), .ref (u 60), .ref (u 61), .ref (u 62), .ref (u 63), .ref (u 64), .ref (u 65), .int 0, .int 0, .ref (u 66), .ref (u 67), .ref (u 68), .ref (u 69), .ref (u 70), .ref (u 71), .int 0, .ref (u 72), .ref (u 73), .ref (u 74), .int 0, .ref (u 75), .ref (u 76), .ref (u 77), .int 0, .ref (u 78), .ref (u 79), .ref (u 80), .ref (u 81), .ref (u 82), .int 0, .int 0, .ref (u 83), .ref (u 84), .ref (u 85), .ref (u 86), .ref (u 87), .int 0, .ref (u 88)])] s.heap _ _ := hw
    refine lv_goto (tgt := 201) hx hb dX12_join_55 (by decide) ?_
    have hz : v6 = m_ap37 a d := (by subst hr2 hr5 ev6; rw [m_ap37_eq, if_neg c3])
    have hw : Wd G A [(h0, ob 11 [.int 0, .int (m_ap37 a d), .ref (u 0), .int 0, .int 0, .int (-1), .int 0, .int 0, .ref (u 1), .ref (u 2), .ref (u 3), .ref (u 4), .ref (u 5), .ref (u 6), .ref (u 7), .ref (u 8), .ref (u 9), .int 0, .int 0, .ref (u 10), .ref (u 11), .ref (u 12), .ref (u 13), .ref (u 14), .ref (u 15), .ref (u 16), .ref (u 17), .int 0, .int 0, .ref (u 18), .ref (u 19), .ref (u 20), .int 0, .ref (u 21), .ref (u 22), .ref (u 23), .int 0, .int 0, .ref (u 24), .ref (u 25), .ref (u 26), .ref (u 27), .int 1, .int 0, .int 0, .int 0, .int 0, .int 0, .int 0, .int 0, .ref (u 28), .ref (u 29), .ref (u 30), .ref (u 31), .ref (u 32), .ref (u 33), .int 0, .ref (u 34), .int 0, .ref (u 35), .ref (u 36), .ref (u 37), .ref (u 38), .ref (u 39), .ref (u 40), .int 0, .int 0, .int 0, .int 0, .int 0, .ref (u 41), .ref (u 42), .ref (u 43), .int 0, .ref (u 44), .int 0, .int 0, .int 0, .ref (u 45), .ref (u 46), .ref (u 47), .ref (u 48), .ref (u 49), .ref (u 50), .ref (u 51), .ref (u 52), .ref (u 53), .int 0, .int 0, .int 0, .int 0, .int 0, .int 0, .int 0, .int 0, .int 0, .int 0, .int 0, .ref (u 54), .ref (u 55), .ref (u 56), .ref (u 57), .ref (u 58), .ref (u 59), .ref (u 60), .ref (u 61), .ref (u 62), .ref (u 63), .ref (u 64), .ref (u 65), .int 0, .int 0, .ref (u 66), .ref (u 67), .ref (u 68), .ref (u 69), .ref (u 70), .ref (u 71), .int 0, .ref (u 72), .ref (u 73), .ref (u 74), .int 0, .ref (u 75), .ref (u 76), .ref (u 77), .int 0, .ref (u 78), .ref (u 79), .ref (u 80), .ref (u 81), .ref (u 82), .int 0, .int 0, .ref (u 83), .ref (u 84), .ref (u 85), .ref (u 86), .ref (u 87), .int 0, .ref (u 88)])] s.heap _ _ := (by rw [← hz]; exact hw.sub [0] rfl rfl)
    exact r_vret cx hr hlk () trivial hw (Nat.le_of_ble_eq_true rfl) (Nat.le_of_ble_eq_true rfl) dX12_join_201
  · refine lv_iconst (v := 0) hx hb dX12_join_40 (by decide) ?_
    refine lv_goto (tgt := 52) hx hb dX12_join_41 (by decide) ?_
    refine r_callVV (As := [.int 0, .int 0]) (rest := []) (wr := []) cx hw hA (g_give l G h0 u 0 0) [0] [] rfl rfl rfl rfl rfl 0 rfl (ci := 11) rfl ml_X12_324 im_X12_give se_X12_give in_X12 co_X12_give rfl hd_X12_give rfl ⟨Nat.le_of_ble_eq_true rfl, Nat.le_of_ble_eq_true rfl⟩ hl.1 rfl (Nat.le_of_ble_eq_true rfl) dX12_join_52 ⟨Nat.le_of_ble_eq_true rfl, Nat.le_of_ble_eq_true rfl⟩ (fun u9 H locs hr10 hw => ?_)
    have hw : Wd G A [(h0, ob 11 [.int 0, .int 0, .ref (u 0), .int 0, .int 0, .int (-1), .int 0, .int 0, .ref (u 1), .ref (u 2), .ref (u 3), .ref (u 4), .ref (u 5), .ref (u 6), .ref (u 7), .ref (u 8), .ref (u 9), .int 0, .int 0, .ref (u 10), .ref (u 11), .ref (u 12), .ref (u 13), .ref (u 14), .ref (u 15), .ref (u 16), .ref (u 17), .int 0, .int 0, .ref (u 18), .ref (u 19), .ref (u 20), .int 0, .ref (u 21), .ref (u 22), .ref (u 23), .int 0, .int 0, .ref (u 24), .ref (u 25), .ref (u 26), .ref (u 27), .int 1, .int 0, .int 0, .int 0, .int 0, .int 0, .int 0, .int 0, .ref (u 28), .ref (u 29), .ref (u 30), .ref (u 31), .ref (u 32), .ref (u 33), .int 0, .ref (u 34), .int 0, .ref (u 35), .ref (u 36), .ref (u 37), .ref (u 38), .ref (u 39), .ref (u 40), .int 0, .int 0, .int 0, .int 0, .int 0, .ref (u 41), .ref (u 42), .ref (u 43), .int 0, .ref (u 44), .int 0, .int 0, .int 0, .ref (u 45), .ref (u 46), .ref (u 47), .ref (u 48), .ref (u 49), .ref (u 50), .ref (u 51), .ref (u 52), .ref (u 53), .int 0, .int 0, .int 0, .int 0, .int 0, .int 0, .int 0, .int 0, .int 0, .int 0, .int 0, .ref (u 54), .ref (u 55), .ref (u 56), .ref (u 57), .ref (u 58), .ref (u 59), .ref (u 60), .ref (u 61), .ref (u 62), .ref (u 63), .ref (u 64), .ref (u 65), .int 0, .int 0, .ref (u 66), .ref (u 67), .ref (u 68), .ref (u 69), .ref (u 70), .ref (u 71), .int 0, .ref (u 72), .ref (u 73), .ref (u 74), .int 0, .ref (u 75), .ref (u 76), .ref (u 77), .int 0, .ref (u 78), .ref (u 79), .ref (u 80), .ref (u 81), .ref (u 82), .int 0, .int 0, .ref (u 83), .ref (u 84), .ref (u 85), .ref (u 86), .ref (u 87), .int 0, .ref (u 88)])] s.heap _ _ := hw
    refine lv_goto (tgt := 201) hx hb dX12_join_55 (by decide) ?_
    have hz : (0 : Int32) = m_ap37 a d := (by subst hr2; rw [m_ap37_eq, if_pos c3])
    have hw : Wd G A [(h0, ob 11 [.int 0, .int (m_ap37 a d), .ref (u 0), .int 0, .int 0, .int (-1), .int 0, .int 0, .ref (u 1), .ref (u 2), .ref (u 3), .ref (u 4), .ref (u 5), .ref (u 6), .ref (u 7), .ref (u 8), .ref (u 9), .int 0, .int 0, .ref (u 10), .ref (u 11), .ref (u 12), .ref (u 13), .ref (u 14), .ref (u 15), .ref (u 16), .ref (u 17), .int 0, .int 0, .ref (u 18), .ref (u 19), .ref (u 20), .int 0, .ref (u 21), .ref (u 22), .ref (u 23), .int 0, .int 0, .ref (u 24), .ref (u 25), .ref (u 26), .ref (u 27), .int 1, .int 0, .int 0, .int 0, .int 0, .int 0, .int 0, .int 0, .ref (u 28), .ref (u 29), .ref (u 30), .ref (u 31), .ref (u 32), .ref (u 33), .int 0, .ref (u 34), .int 0, .ref (u 35), .ref (u 36), .ref (u 37), .ref (u 38), .ref (u 39), .ref (u 40), .int 0, .int 0, .int 0, .int 0, .int 0, .ref (u 41), .ref (u 42), .ref (u 43), .int 0, .ref (u 44), .int 0, .int 0, .int 0, .ref (u 45), .ref (u 46), .ref (u 47), .ref (u 48), .ref (u 49), .ref (u 50), .ref (u 51), .ref (u 52), .ref (u 53), .int 0, .int 0, .int 0, .int 0, .int 0, .int 0, .int 0, .int 0, .int 0, .int 0, .int 0, .ref (u 54), .ref (u 55), .ref (u 56), .ref (u 57), .ref (u 58), .ref (u 59), .ref (u 60), .ref (u 61), .ref (u 62), .ref (u 63), .ref (u 64), .ref (u 65), .int 0, .int 0, .ref (u 66), .ref (u 67), .ref (u 68), .ref (u 69), .ref (u 70), .ref (u 71), .int 0, .ref (u 72), .ref (u 73), .ref (u 74), .int 0, .ref (u 75), .ref (u 76), .ref (u 77), .int 0, .ref (u 78), .ref (u 79), .ref (u 80), .ref (u 81), .ref (u 82), .int 0, .int 0, .ref (u 83), .ref (u 84), .ref (u 85), .ref (u 86), .ref (u 87), .int 0, .ref (u 88)])] s.heap _ _ := (by rw [← hz]; exact hw.sub [0] rfl rfl)
    exact r_vret cx hr hlk () trivial hw (Nat.le_of_ble_eq_true rfl) (Nat.le_of_ble_eq_true rfl) dX12_join_201

theorem m_ap60_ex : ∃ f : Int32 → Int32 → Int32, ∀ (a : Int32) (d : Int32), f a d = (if (m_isLess (m_floatOf a) (m_floatOf d)) = (0 : Int32) then (0) else (1)) := ⟨fun (a : Int32) (d : Int32) => (if (m_isLess (m_floatOf a) (m_floatOf d)) = (0 : Int32) then (0) else (1)), fun _ _ => rfl⟩
noncomputable def m_ap60 : Int32 → Int32 → Int32 := Classical.choose m_ap60_ex
theorem m_ap60_eq (a : Int32) (d : Int32) : m_ap60 a d = (if (m_isLess (m_floatOf a) (m_floatOf d)) = (0 : Int32) then (0) else (1)) := Classical.choose_spec m_ap60_ex a d
set_option maxHeartbeats 4000000 in
set_option maxRecDepth 100000 in
theorem g_j60 (l : Launch) (G : Gt) (h0 : Nat) (u : Nat → Nat) (a : Int32) (d : Int32) : Mt l yX12_join cX12_join 8 none ({ frames := 2, cells := 0, slots := 0, locals := 41 } : Room) G [.ref h0, .int 60, .int 1, .int a, .int 1, .int d] [(h0, ob 11 [.int 0, .int 0, .ref (u 0), .int 0, .int 0, .int (-1), .int 0, .int 0, .ref (u 1), .ref (u 2), .ref (u 3), .ref (u 4), .ref (u 5), .ref (u 6), .ref (u 7), .ref (u 8), .ref (u 9), .int 0, .int 0, .ref (u 10), .ref (u 11), .ref (u 12), .ref (u 13), .ref (u 14), .ref (u 15), .ref (u 16), .ref (u 17), .int 0, .int 0, .ref (u 18), .ref (u 19), .ref (u 20), .int 0, .ref (u 21), .ref (u 22), .ref (u 23), .int 0, .int 0, .ref (u 24), .ref (u 25), .ref (u 26), .ref (u 27), .int 1, .int 0, .int 0, .int 0, .int 0, .int 0, .int 0, .int 0, .ref (u 28), .ref (u 29), .ref (u 30), .ref (u 31), .ref (u 32), .ref (u 33), .int 0, .ref (u 34), .int 0, .ref (u 35), .ref (u 36), .ref (u 37), .ref (u 38), .ref (u 39), .ref (u 40), .int 0, .int 0, .int 0, .int 0, .int 0, .ref (u 41), .ref (u 42), .ref (u 43), .int 0, .ref (u 44), .int 0, .int 0, .int 0, .ref (u 45), .ref (u 46), .ref (u 47), .ref (u 48), .ref (u 49), .ref (u 50), .ref (u 51), .ref (u 52), .ref (u 53), .int 0, .int 0, .int 0, .int 0, .int 0, .int 0, .int 0, .int 0, .int 0, .int 0, .int 0, .ref (u 54), .ref (u 55), .ref (u 56), .ref (u 57), .ref (u 58), .ref (u 59), .ref (u 60), .ref (u 61), .ref (u 62), .ref (u 63), .ref (u 64), .ref (u 65), .int 0, .int 0, .ref (u 66), .ref (u 67), .ref (u 68), .ref (u 69), .ref (u 70), .ref (u 71), .int 0, .ref (u 72), .ref (u 73), .ref (u 74), .int 0, .ref (u 75), .ref (u 76), .ref (u 77), .int 0, .ref (u 78), .ref (u 79), .ref (u 80), .ref (u 81), .ref (u 82), .int 0, .int 0, .ref (u 83), .ref (u 84), .ref (u 85), .ref (u 86), .ref (u 87), .int 0, .ref (u 88)])] (qV G (fun (w : Unit) => True) (fun w => [(h0, ob 11 [.int 0, .int (m_ap60 a d), .ref (u 0), .int 0, .int 0, .int (-1), .int 0, .int 0, .ref (u 1), .ref (u 2), .ref (u 3), .ref (u 4), .ref (u 5), .ref (u 6), .ref (u 7), .ref (u 8), .ref (u 9), .int 0, .int 0, .ref (u 10), .ref (u 11), .ref (u 12), .ref (u 13), .ref (u 14), .ref (u 15), .ref (u 16), .ref (u 17), .int 0, .int 0, .ref (u 18), .ref (u 19), .ref (u 20), .int 0, .ref (u 21), .ref (u 22), .ref (u 23), .int 0, .int 0, .ref (u 24), .ref (u 25), .ref (u 26), .ref (u 27), .int 1, .int 0, .int 0, .int 0, .int 0, .int 0, .int 0, .int 0, .ref (u 28), .ref (u 29), .ref (u 30), .ref (u 31), .ref (u 32), .ref (u 33), .int 0, .ref (u 34), .int 0, .ref (u 35), .ref (u 36), .ref (u 37), .ref (u 38), .ref (u 39), .ref (u 40), .int 0, .int 0, .int 0, .int 0, .int 0, .ref (u 41), .ref (u 42), .ref (u 43), .int 0, .ref (u 44), .int 0, .int 0, .int 0, .ref (u 45), .ref (u 46), .ref (u 47), .ref (u 48), .ref (u 49), .ref (u 50), .ref (u 51), .ref (u 52), .ref (u 53), .int 0, .int 0, .int 0, .int 0, .int 0, .int 0, .int 0, .int 0, .int 0, .int 0, .int 0, .ref (u 54), .ref (u 55), .ref (u 56), .ref (u 57), .ref (u 58), .ref (u 59), .ref (u 60), .ref (u 61), .ref (u 62), .ref (u 63), .ref (u 64), .ref (u 65), .int 0, .int 0, .ref (u 66), .ref (u 67), .ref (u 68), .ref (u 69), .ref (u 70), .ref (u 71), .int 0, .ref (u 72), .ref (u 73), .ref (u 74), .int 0, .ref (u 75), .ref (u 76), .ref (u 77), .int 0, .ref (u 78), .ref (u 79), .ref (u 80), .ref (u 81), .ref (u 82), .int 0, .int 0, .ref (u 83), .ref (u 84), .ref (u 85), .ref (u 86), .ref (u 87), .int 0, .ref (u 88)])])) := by
  refine Mt.of (own := RX12) (cc := cX12_join) (by decide) rfl (Nat.le_of_ble_eq_true rfl) ?_
  intro p e s m below meth c A ls cx hr hlk hmn hA hl hw
  have hx := cx.1
  have hb := cx.2.1
  have hl : lv_has ls 8 [(0, .ref h0), (1, .int 60), (2, .int 1), (3, .int a), (4, .int 1), (5, .int d)] := hl
  refine lv_iload_n hx hb dX12_join_0 rfl (lv_at hl 2 rfl) ?_
  refine lv_iconst (v := 1) hx hb dX12_join_1 (by decide) ?_
  refine lv_icmp_eq (tgt := 11) hx hb dX12_join_2 (by decide) (fun _ => ?_) (fun c9 => absurd (by decide) c9)
  refine lv_iconst (v := 1) hx hb dX12_join_11 (by decide) ?_
  refine lv_goto (tgt := 16) hx hb dX12_join_12 (by decide) ?_
  refine lv_istore (lv' := [(6, .int 1), (0, .ref h0), (1, .int 60), (2, .int 1), (3, .int a), (4, .int 1), (5, .int d)]) hx hb dX12_join_16 hl (by decide) rfl (fun ls hl => ?_)
  refine lv_iload_n hx hb dX12_join_18 rfl (lv_at hl 2 rfl) ?_
  refine lv_bipush (v := 37) hx hb dX12_join_19 (by decide) ?_
  refine lv_icmp_ne (tgt := 58) hx hb dX12_join_21 (by decide) (fun _ => ?_) (fun c9 => absurd c9 (by decide))
  refine lv_iload_n hx hb dX12_join_58 rfl (lv_at hl 2 rfl) ?_
  refine lv_bipush (v := 60) hx hb dX12_join_59 (by decide) ?_
  refine lv_icmp_ne (tgt := 109) hx hb dX12_join_61 (by decide) (fun c9 => absurd (by decide) c9) (fun _ => ?_)
  refine lv_aload_n hx hb dX12_join_64 rfl (lv_at hl 1 rfl) ?_
  refine lv_iconst (v := 0) hx hb dX12_join_65 (by decide) ?_
  refine lv_iload hx hb dX12_join_66 (lv_at hl 0 rfl) ?_
  refine lv_if_eq (tgt := 92) hx hb dX12_join_68 (by decide) (fun c9 => absurd c9 (by decide)) (fun _ => ?_)
  refine lv_iload_n hx hb dX12_join_71 rfl (lv_at hl 3 rfl) ?_
  refine lv_iload_n hx hb dX12_join_72 rfl (lv_at hl 4 rfl) ?_
  refine r_callS0I (As := [.int 1, .int a]) (rest := [.int 0, .ref h0]) cx hw hA (g_floatOf l G a) ml_X12_328 st_X12_floatOf in_X12 co_X12_floatOf hd_X12_floatOf rfl ⟨Nat.le_of_ble_eq_true rfl, Nat.le_of_ble_eq_true rfl⟩ hl.1 rfl (Nat.le_of_ble_eq_true rfl) dX12_join_73 ⟨Nat.le_of_ble_eq_true rfl, Nat.le_of_ble_eq_true rfl⟩ (fun r2 H locs hr2 hw => ?_)
  refine lv_iload hx hb dX12_join_76 (lv_at hl 5 rfl) ?_
  refine lv_iload hx hb dX12_join_78 (lv_at hl 6 rfl) ?_
  refine r_callS0I (As := [.int 1, .int d]) (rest := [.int r2, .int 0, .ref h0]) cx hw hA (g_floatOf l G d) ml_X12_328 st_X12_floatOf in_X12 co_X12_floatOf hd_X12_floatOf rfl ⟨Nat.le_of_ble_eq_true rfl, Nat.le_of_ble_eq_true rfl⟩ hl.1 rfl (Nat.le_of_ble_eq_true rfl) dX12_join_80 ⟨Nat.le_of_ble_eq_true rfl, Nat.le_of_ble_eq_true rfl⟩ (fun r4 H locs hr4 hw => ?_)
  refine r_callS0I (As := [.int r2, .int r4]) (rest := [.int 0, .ref h0]) cx hw hA (g_isLess l G r2 r4) ml_X12_331 st_X12_isLess in_X12 co_X12_isLess hd_X12_isLess rfl ⟨Nat.le_of_ble_eq_true rfl, Nat.le_of_ble_eq_true rfl⟩ hl.1 rfl (Nat.le_of_ble_eq_true rfl) dX12_join_83 ⟨Nat.le_of_ble_eq_true rfl, Nat.le_of_ble_eq_true rfl⟩ (fun r6 H locs hr6 hw => ?_)
  refine lv_if_eq (tgt := 102) hx hb dX12_join_86 (by decide) (fun c7 => ?_) (fun c7 => ?_)
  · refine lv_iconst (v := 0) hx hb dX12_join_102 (by decide) ?_
    refine r_callVV (As := [.int 0, .int 0]) (rest := []) (wr := []) cx hw hA (g_give l G h0 u 0 0) [0] [] rfl rfl rfl rfl rfl 0 rfl (ci := 11) rfl ml_X12_324 im_X12_give se_X12_give in_X12 co_X12_give rfl hd_X12_give rfl ⟨Nat.le_of_ble_eq_true rfl, Nat.le_of_ble_eq_true rfl⟩ hl.1 rfl (Nat.le_of_ble_eq_true rfl) dX12_join_103 ⟨Nat.le_of_ble_eq_true rfl, Nat.le_of_ble_eq_true rfl⟩ (fun u8 H locs hr9 hw => ?_)
    have hw : Wd G A [(h0, ob 11 [.int 0, .int 0, .ref (u 0), .int 0, .int 0, .int (-1), .int 0, .int 0, .ref (u 1), .ref (u 2), .ref (u 3), .ref (u 4), .ref (u 5), .ref (u 6), .ref (u 7), .ref (u 8), .ref (u 9), .int 0, .int 0, .ref (u 10), .ref (u 11), .ref (u 12), .ref (u 13), .ref (u 14), .ref (u 15), .ref (u 16), .ref (u 17), .int 0, .int 0, .ref (u 18), .ref (u 19), .ref (u 20), .int 0, .ref (u 21), .ref (u 22), .ref (u 23), .int 0, .int 0, .ref (u 24), .ref (u 25), .ref (u 26), .ref (u 27), .int 1, .int 0, .int 0, .int 0, .int 0, .int 0, .int 0, .int 0, .ref (u 28), .ref (u 29), .ref (u 30), .ref (u 31), .ref (u 32), .ref (u 33), .int 0, .ref (u 34), .int 0, .ref (u 35), .ref (u 36), .ref (u 37), .ref (u 38), .ref (u 39), .ref (u 40), .int 0, .int 0, .int 0, .int 0, .int 0, .ref (u 41), .ref (u 42), .ref (u 43), .int 0, .ref (u 44), .int 0, .int 0, .int 0, .ref (u 45), .ref (u 46), .ref (u 47), .ref (u 48), .ref (u 49), .ref (u 50), .ref (u 51), .ref (u 52), .ref (u 53), .int 0, .int 0, .int 0, .int 0, .int 0, .int 0, .int 0, .int 0, .int 0, .int 0, .int 0, .ref (u 54), .ref (u 55), .ref (u 56), .ref (u 57), .ref (u 58), .ref (u 59), .ref (u 60), .ref (u 61), .ref (u 62), .ref (u 63), .ref (u 64), .ref (u 65), .int 0, .int 0, .ref (u 66), .ref (u 67), .ref (u 68), .ref (u 69), .ref (u 70), .ref (u 71), .int 0, .ref (u 72), .ref (u 73), .ref (u 74), .int 0, .ref (u 75), .ref (u 76), .ref (u 77), .int 0, .ref (u 78), .ref (u 79), .ref (u 80), .ref (u 81), .ref (u 82), .int 0, .int 0, .ref (u 83), .ref (u 84), .ref (u 85), .ref (u 86), .ref (u 87), .int 0, .ref (u 88)])] s.heap _ _ := hw
    refine lv_goto (tgt := 201) hx hb dX12_join_106 (by decide) ?_
    have hz : (0 : Int32) = m_ap60 a d := (by subst hr2 hr4 hr6; rw [m_ap60_eq, if_pos c7])
    have hw : Wd G A [(h0, ob 11 [.int 0, .int (m_ap60 a d), .ref (u 0), .int 0, .int 0, .int (-1), .int 0, .int 0, .ref (u 1), .ref (u 2), .ref (u 3), .ref (u 4), .ref (u 5), .ref (u 6), .ref (u 7), .ref (u 8), .ref (u 9), .int 0, .int 0, .ref (u 10), .ref (u 11), .ref (u 12), .ref (u 13), .ref (u 14), .ref (u 15), .ref (u 16), .ref (u 17), .int 0, .int 0, .ref (u 18), .ref (u 19), .ref (u 20), .int 0, .ref (u 21), .ref (u 22), .ref (u 23), .int 0, .int 0, .ref (u 24), .ref (u 25), .ref (u 26), .ref (u 27), .int 1, .int 0, .int 0, .int 0, .int 0, .int 0, .int 0, .int 0, .ref (u 28), .ref (u 29), .ref (u 30), .ref (u 31), .ref (u 32), .ref (u 33), .int 0, .ref (u 34), .int 0, .ref (u 35), .ref (u 36), .ref (u 37), .ref (u 38), .ref (u 39), .ref (u 40), .int 0, .int 0, .int 0, .int 0, .int 0, .ref (u 41), .ref (u 42), .ref (u 43), .int 0, .ref (u 44), .int 0, .int 0, .int 0, .ref (u 45), .ref (u 46), .ref (u 47), .ref (u 48), .ref (u 49), .ref (u 50), .ref (u 51), .ref (u 52), .ref (u 53), .int 0, .int 0, .int 0, .int 0, .int 0, .int 0, .int 0, .int 0, .int 0, .int 0, .int 0, .ref (u 54), .ref (u 55), .ref (u 56), .ref (u 57), .ref (u 58), .ref (u 59), .ref (u 60), .ref (u 61), .ref (u 62), .ref (u 63), .ref (u 64), .ref (u 65), .int 0, .int 0, .ref (u 66), .ref (u 67), .ref (u 68), .ref (u 69), .ref (u 70), .ref (u 71), .int 0, .ref (u 72), .ref (u 73), .ref (u 74), .int 0, .ref (u 75), .ref (u 76), .ref (u 77), .int 0, .ref (u 78), .ref (u 79), .ref (u 80), .ref (u 81), .ref (u 82), .int 0, .int 0, .ref (u 83), .ref (u 84), .ref (u 85), .ref (u 86), .ref (u 87), .int 0, .ref (u 88)])] s.heap _ _ := (by rw [← hz]; exact hw.sub [0] rfl rfl)
    exact r_vret cx hr hlk () trivial hw (Nat.le_of_ble_eq_true rfl) (Nat.le_of_ble_eq_true rfl) dX12_join_201
  · refine lv_goto (tgt := 98) hx hb dX12_join_89 (by decide) ?_
    refine lv_iconst (v := 1) hx hb dX12_join_98 (by decide) ?_
    refine lv_goto (tgt := 103) hx hb dX12_join_99 (by decide) ?_
    refine r_callVV (As := [.int 0, .int 1]) (rest := []) (wr := []) cx hw hA (g_give l G h0 u 0 1) [0] [] rfl rfl rfl rfl rfl 0 rfl (ci := 11) rfl ml_X12_324 im_X12_give se_X12_give in_X12 co_X12_give rfl hd_X12_give rfl ⟨Nat.le_of_ble_eq_true rfl, Nat.le_of_ble_eq_true rfl⟩ hl.1 rfl (Nat.le_of_ble_eq_true rfl) dX12_join_103 ⟨Nat.le_of_ble_eq_true rfl, Nat.le_of_ble_eq_true rfl⟩ (fun u10 H locs hr11 hw => ?_)
    have hw : Wd G A [(h0, ob 11 [.int 0, .int 1, .ref (u 0), .int 0, .int 0, .int (-1), .int 0, .int 0, .ref (u 1), .ref (u 2), .ref (u 3), .ref (u 4), .ref (u 5), .ref (u 6), .ref (u 7), .ref (u 8), .ref (u 9), .int 0, .int 0, .ref (u 10), .ref (u 11), .ref (u 12), .ref (u 13), .ref (u 14), .ref (u 15), .ref (u 16), .ref (u 17), .int 0, .int 0, .ref (u 18), .ref (u 19), .ref (u 20), .int 0, .ref (u 21), .ref (u 22), .ref (u 23), .int 0, .int 0, .ref (u 24), .ref (u 25), .ref (u 26), .ref (u 27), .int 1, .int 0, .int 0, .int 0, .int 0, .int 0, .int 0, .int 0, .ref (u 28), .ref (u 29), .ref (u 30), .ref (u 31), .ref (u 32), .ref (u 33), .int 0, .ref (u 34), .int 0, .ref (u 35), .ref (u 36), .ref (u 37), .ref (u 38), .ref (u 39), .ref (u 40), .int 0, .int 0, .int 0, .int 0, .int 0, .ref (u 41), .ref (u 42), .ref (u 43), .int 0, .ref (u 44), .int 0, .int 0, .int 0, .ref (u 45), .ref (u 46), .ref (u 47), .ref (u 48), .ref (u 49), .ref (u 50), .ref (u 51), .ref (u 52), .ref (u 53), .int 0, .int 0, .int 0, .int 0, .int 0, .int 0, .int 0, .int 0, .int 0, .int 0, .int 0, .ref (u 54), .ref (u 55), .ref (u 56), .ref (u 57), .ref (u 58), .ref (u 59), .ref (u 60), .ref (u 61), .ref (u 62), .ref (u 63), .ref (u 64), .ref (u 65), .int 0, .int 0, .ref (u 66), .ref (u 67), .ref (u 68), .ref (u 69), .ref (u 70), .ref (u 71), .int 0, .ref (u 72), .ref (u 73), .ref (u 74), .int 0, .ref (u 75), .ref (u 76), .ref (u 77), .int 0, .ref (u 78), .ref (u 79), .ref (u 80), .ref (u 81), .ref (u 82), .int 0, .int 0, .ref (u 83), .ref (u 84), .ref (u 85), .ref (u 86), .ref (u 87), .int 0, .ref (u 88)])] s.heap _ _ := hw
    refine lv_goto (tgt := 201) hx hb dX12_join_106 (by decide) ?_
    have hz : (1 : Int32) = m_ap60 a d := (by subst hr2 hr4 hr6; rw [m_ap60_eq, if_neg c7])
    have hw : Wd G A [(h0, ob 11 [.int 0, .int (m_ap60 a d), .ref (u 0), .int 0, .int 0, .int (-1), .int 0, .int 0, .ref (u 1), .ref (u 2), .ref (u 3), .ref (u 4), .ref (u 5), .ref (u 6), .ref (u 7), .ref (u 8), .ref (u 9), .int 0, .int 0, .ref (u 10), .ref (u 11), .ref (u 12), .ref (u 13), .ref (u 14), .ref (u 15), .ref (u 16), .ref (u 17), .int 0, .int 0, .ref (u 18), .ref (u 19), .ref (u 20), .int 0, .ref (u 21), .ref (u 22), .ref (u 23), .int 0, .int 0, .ref (u 24), .ref (u 25), .ref (u 26), .ref (u 27), .int 1, .int 0, .int 0, .int 0, .int 0, .int 0, .int 0, .int 0, .ref (u 28), .ref (u 29), .ref (u 30), .ref (u 31), .ref (u 32), .ref (u 33), .int 0, .ref (u 34), .int 0, .ref (u 35), .ref (u 36), .ref (u 37), .ref (u 38), .ref (u 39), .ref (u 40), .int 0, .int 0, .int 0, .int 0, .int 0, .ref (u 41), .ref (u 42), .ref (u 43), .int 0, .ref (u 44), .int 0, .int 0, .int 0, .ref (u 45), .ref (u 46), .ref (u 47), .ref (u 48), .ref (u 49), .ref (u 50), .ref (u 51), .ref (u 52), .ref (u 53), .int 0, .int 0, .int 0, .int 0, .int 0, .int 0, .int 0, .int 0, .int 0, .int 0, .int 0, .ref (u 54), .ref (u 55), .ref (u 56), .ref (u 57), .ref (u 58), .ref (u 59), .ref (u 60), .ref (u 61), .ref (u 62), .ref (u 63), .ref (u 64), .ref (u 65), .int 0, .int 0, .ref (u 66), .ref (u 67), .ref (u 68), .ref (u 69), .ref (u 70), .ref (u 71), .int 0, .ref (u 72), .ref (u 73), .ref (u 74), .int 0, .ref (u 75), .ref (u 76), .ref (u 77), .int 0, .ref (u 78), .ref (u 79), .ref (u 80), .ref (u 81), .ref (u 82), .int 0, .int 0, .ref (u 83), .ref (u 84), .ref (u 85), .ref (u 86), .ref (u 87), .int 0, .ref (u 88)])] s.heap _ _ := (by rw [← hz]; exact hw.sub [0] rfl rfl)
    exact r_vret cx hr hlk () trivial hw (Nat.le_of_ble_eq_true rfl) (Nat.le_of_ble_eq_true rfl) dX12_join_201

theorem m_ap61_ex : ∃ f : Int32 → Int32 → Int32, ∀ (a : Int32) (d : Int32), f a d = (if (m_isSame (m_floatOf a) (m_floatOf d)) = (0 : Int32) then (0) else (1)) := ⟨fun (a : Int32) (d : Int32) => (if (m_isSame (m_floatOf a) (m_floatOf d)) = (0 : Int32) then (0) else (1)), fun _ _ => rfl⟩
noncomputable def m_ap61 : Int32 → Int32 → Int32 := Classical.choose m_ap61_ex
theorem m_ap61_eq (a : Int32) (d : Int32) : m_ap61 a d = (if (m_isSame (m_floatOf a) (m_floatOf d)) = (0 : Int32) then (0) else (1)) := Classical.choose_spec m_ap61_ex a d
set_option maxHeartbeats 4000000 in
set_option maxRecDepth 100000 in
theorem g_j61 (l : Launch) (G : Gt) (h0 : Nat) (u : Nat → Nat) (a : Int32) (d : Int32) : Mt l yX12_join cX12_join 8 none ({ frames := 2, cells := 0, slots := 0, locals := 41 } : Room) G [.ref h0, .int 61, .int 1, .int a, .int 1, .int d] [(h0, ob 11 [.int 0, .int 0, .ref (u 0), .int 0, .int 0, .int (-1), .int 0, .int 0, .ref (u 1), .ref (u 2), .ref (u 3), .ref (u 4), .ref (u 5), .ref (u 6), .ref (u 7), .ref (u 8), .ref (u 9), .int 0, .int 0, .ref (u 10), .ref (u 11), .ref (u 12), .ref (u 13), .ref (u 14), .ref (u 15), .ref (u 16), .ref (u 17), .int 0, .int 0, .ref (u 18), .ref (u 19), .ref (u 20), .int 0, .ref (u 21), .ref (u 22), .ref (u 23), .int 0, .int 0, .ref (u 24), .ref (u 25), .ref (u 26), .ref (u 27), .int 1, .int 0, .int 0, .int 0, .int 0, .int 0, .int 0, .int 0, .ref (u 28), .ref (u 29), .ref (u 30), .ref (u 31), .ref (u 32), .ref (u 33), .int 0, .ref (u 34), .int 0, .ref (u 35), .ref (u 36), .ref (u 37), .ref (u 38), .ref (u 39), .ref (u 40), .int 0, .int 0, .int 0, .int 0, .int 0, .ref (u 41), .ref (u 42), .ref (u 43), .int 0, .ref (u 44), .int 0, .int 0, .int 0, .ref (u 45), .ref (u 46), .ref (u 47), .ref (u 48), .ref (u 49), .ref (u 50), .ref (u 51), .ref (u 52), .ref (u 53), .int 0, .int 0, .int 0, .int 0, .int 0, .int 0, .int 0, .int 0, .int 0, .int 0, .int 0, .ref (u 54), .ref (u 55), .ref (u 56), .ref (u 57), .ref (u 58), .ref (u 59), .ref (u 60), .ref (u 61), .ref (u 62), .ref (u 63), .ref (u 64), .ref (u 65), .int 0, .int 0, .ref (u 66), .ref (u 67), .ref (u 68), .ref (u 69), .ref (u 70), .ref (u 71), .int 0, .ref (u 72), .ref (u 73), .ref (u 74), .int 0, .ref (u 75), .ref (u 76), .ref (u 77), .int 0, .ref (u 78), .ref (u 79), .ref (u 80), .ref (u 81), .ref (u 82), .int 0, .int 0, .ref (u 83), .ref (u 84), .ref (u 85), .ref (u 86), .ref (u 87), .int 0, .ref (u 88)])] (qV G (fun (w : Unit) => True) (fun w => [(h0, ob 11 [.int 0, .int (m_ap61 a d), .ref (u 0), .int 0, .int 0, .int (-1), .int 0, .int 0, .ref (u 1), .ref (u 2), .ref (u 3), .ref (u 4), .ref (u 5), .ref (u 6), .ref (u 7), .ref (u 8), .ref (u 9), .int 0, .int 0, .ref (u 10), .ref (u 11), .ref (u 12), .ref (u 13), .ref (u 14), .ref (u 15), .ref (u 16), .ref (u 17), .int 0, .int 0, .ref (u 18), .ref (u 19), .ref (u 20), .int 0, .ref (u 21), .ref (u 22), .ref (u 23), .int 0, .int 0, .ref (u 24), .ref (u 25), .ref (u 26), .ref (u 27), .int 1, .int 0, .int 0, .int 0, .int 0, .int 0, .int 0, .int 0, .ref (u 28), .ref (u 29), .ref (u 30), .ref (u 31), .ref (u 32), .ref (u 33), .int 0, .ref (u 34), .int 0, .ref (u 35), .ref (u 36), .ref (u 37), .ref (u 38), .ref (u 39), .ref (u 40), .int 0, .int 0, .int 0, .int 0, .int 0, .ref (u 41), .ref (u 42), .ref (u 43), .int 0, .ref (u 44), .int 0, .int 0, .int 0, .ref (u 45), .ref (u 46), .ref (u 47), .ref (u 48), .ref (u 49), .ref (u 50), .ref (u 51), .ref (u 52), .ref (u 53), .int 0, .int 0, .int 0, .int 0, .int 0, .int 0, .int 0, .int 0, .int 0, .int 0, .int 0, .ref (u 54), .ref (u 55), .ref (u 56), .ref (u 57), .ref (u 58), .ref (u 59), .ref (u 60), .ref (u 61), .ref (u 62), .ref (u 63), .ref (u 64), .ref (u 65), .int 0, .int 0, .ref (u 66), .ref (u 67), .ref (u 68), .ref (u 69), .ref (u 70), .ref (u 71), .int 0, .ref (u 72), .ref (u 73), .ref (u 74), .int 0, .ref (u 75), .ref (u 76), .ref (u 77), .int 0, .ref (u 78), .ref (u 79), .ref (u 80), .ref (u 81), .ref (u 82), .int 0, .int 0, .ref (u 83), .ref (u 84), .ref (u 85), .ref (u 86), .ref (u 87), .int 0, .ref (u 88)])])) := by
  refine Mt.of (own := RX12) (cc := cX12_join) (by decide) rfl (Nat.le_of_ble_eq_true rfl) ?_
  intro p e s m below meth c A ls cx hr hlk hmn hA hl hw
  have hx := cx.1
  have hb := cx.2.1
  have hl : lv_has ls 8 [(0, .ref h0), (1, .int 61), (2, .int 1), (3, .int a), (4, .int 1), (5, .int d)] := hl
  refine lv_iload_n hx hb dX12_join_0 rfl (lv_at hl 2 rfl) ?_
  refine lv_iconst (v := 1) hx hb dX12_join_1 (by decide) ?_
  refine lv_icmp_eq (tgt := 11) hx hb dX12_join_2 (by decide) (fun _ => ?_) (fun c9 => absurd (by decide) c9)
  refine lv_iconst (v := 1) hx hb dX12_join_11 (by decide) ?_
  refine lv_goto (tgt := 16) hx hb dX12_join_12 (by decide) ?_
  refine lv_istore (lv' := [(6, .int 1), (0, .ref h0), (1, .int 61), (2, .int 1), (3, .int a), (4, .int 1), (5, .int d)]) hx hb dX12_join_16 hl (by decide) rfl (fun ls hl => ?_)
  refine lv_iload_n hx hb dX12_join_18 rfl (lv_at hl 2 rfl) ?_
  refine lv_bipush (v := 37) hx hb dX12_join_19 (by decide) ?_
  refine lv_icmp_ne (tgt := 58) hx hb dX12_join_21 (by decide) (fun _ => ?_) (fun c9 => absurd c9 (by decide))
  refine lv_iload_n hx hb dX12_join_58 rfl (lv_at hl 2 rfl) ?_
  refine lv_bipush (v := 60) hx hb dX12_join_59 (by decide) ?_
  refine lv_icmp_ne (tgt := 109) hx hb dX12_join_61 (by decide) (fun _ => ?_) (fun c9 => absurd c9 (by decide))
  refine lv_iload_n hx hb dX12_join_109 rfl (lv_at hl 2 rfl) ?_
  refine lv_bipush (v := 61) hx hb dX12_join_110 (by decide) ?_
  refine lv_icmp_ne (tgt := 160) hx hb dX12_join_112 (by decide) (fun c9 => absurd (by decide) c9) (fun _ => ?_)
  refine lv_aload_n hx hb dX12_join_115 rfl (lv_at hl 1 rfl) ?_
  refine lv_iconst (v := 0) hx hb dX12_join_116 (by decide) ?_
  refine lv_iload hx hb dX12_join_117 (lv_at hl 0 rfl) ?_
  refine lv_if_eq (tgt := 143) hx hb dX12_join_119 (by decide) (fun c9 => absurd c9 (by decide)) (fun _ => ?_)
  refine lv_iload_n hx hb dX12_join_122 rfl (lv_at hl 3 rfl) ?_
  refine lv_iload_n hx hb dX12_join_123 rfl (lv_at hl 4 rfl) ?_
  refine r_callS0I (As := [.int 1, .int a]) (rest := [.int 0, .ref h0]) cx hw hA (g_floatOf l G a) ml_X12_328 st_X12_floatOf in_X12 co_X12_floatOf hd_X12_floatOf rfl ⟨Nat.le_of_ble_eq_true rfl, Nat.le_of_ble_eq_true rfl⟩ hl.1 rfl (Nat.le_of_ble_eq_true rfl) dX12_join_124 ⟨Nat.le_of_ble_eq_true rfl, Nat.le_of_ble_eq_true rfl⟩ (fun r2 H locs hr2 hw => ?_)
  refine lv_iload hx hb dX12_join_127 (lv_at hl 5 rfl) ?_
  refine lv_iload hx hb dX12_join_129 (lv_at hl 6 rfl) ?_
  refine r_callS0I (As := [.int 1, .int d]) (rest := [.int r2, .int 0, .ref h0]) cx hw hA (g_floatOf l G d) ml_X12_328 st_X12_floatOf in_X12 co_X12_floatOf hd_X12_floatOf rfl ⟨Nat.le_of_ble_eq_true rfl, Nat.le_of_ble_eq_true rfl⟩ hl.1 rfl (Nat.le_of_ble_eq_true rfl) dX12_join_131 ⟨Nat.le_of_ble_eq_true rfl, Nat.le_of_ble_eq_true rfl⟩ (fun r4 H locs hr4 hw => ?_)
  refine r_callS0I (As := [.int r2, .int r4]) (rest := [.int 0, .ref h0]) cx hw hA (g_isSame l G r2 r4) ml_X12_335 st_X12_isSame in_X12 co_X12_isSame hd_X12_isSame rfl ⟨Nat.le_of_ble_eq_true rfl, Nat.le_of_ble_eq_true rfl⟩ hl.1 rfl (Nat.le_of_ble_eq_true rfl) dX12_join_134 ⟨Nat.le_of_ble_eq_true rfl, Nat.le_of_ble_eq_true rfl⟩ (fun r6 H locs hr6 hw => ?_)
  refine lv_if_eq (tgt := 153) hx hb dX12_join_137 (by decide) (fun c7 => ?_) (fun c7 => ?_)
  · refine lv_iconst (v := 0) hx hb dX12_join_153 (by decide) ?_
    refine r_callVV (As := [.int 0, .int 0]) (rest := []) (wr := []) cx hw hA (g_give l G h0 u 0 0) [0] [] rfl rfl rfl rfl rfl 0 rfl (ci := 11) rfl ml_X12_324 im_X12_give se_X12_give in_X12 co_X12_give rfl hd_X12_give rfl ⟨Nat.le_of_ble_eq_true rfl, Nat.le_of_ble_eq_true rfl⟩ hl.1 rfl (Nat.le_of_ble_eq_true rfl) dX12_join_154 ⟨Nat.le_of_ble_eq_true rfl, Nat.le_of_ble_eq_true rfl⟩ (fun u8 H locs hr9 hw => ?_)
    have hw : Wd G A [(h0, ob 11 [.int 0, .int 0, .ref (u 0), .int 0, .int 0, .int (-1), .int 0, .int 0, .ref (u 1), .ref (u 2), .ref (u 3), .ref (u 4), .ref (u 5), .ref (u 6), .ref (u 7), .ref (u 8), .ref (u 9), .int 0, .int 0, .ref (u 10), .ref (u 11), .ref (u 12), .ref (u 13), .ref (u 14), .ref (u 15), .ref (u 16), .ref (u 17), .int 0, .int 0, .ref (u 18), .ref (u 19), .ref (u 20), .int 0, .ref (u 21), .ref (u 22), .ref (u 23), .int 0, .int 0, .ref (u 24), .ref (u 25), .ref (u 26), .ref (u 27), .int 1, .int 0, .int 0, .int 0, .int 0, .int 0, .int 0, .int 0, .ref (u 28), .ref (u 29), .ref (u 30), .ref (u 31), .ref (u 32), .ref (u 33), .int 0, .ref (u 34), .int 0, .ref (u 35), .ref (u 36), .ref (u 37), .ref (u 38), .ref (u 39), .ref (u 40), .int 0, .int 0, .int 0, .int 0, .int 0, .ref (u 41), .ref (u 42), .ref (u 43), .int 0, .ref (u 44), .int 0, .int 0, .int 0, .ref (u 45), .ref (u 46), .ref (u 47), .ref (u 48), .ref (u 49), .ref (u 50), .ref (u 51), .ref (u 52), .ref (u 53), .int 0, .int 0, .int 0, .int 0, .int 0, .int 0, .int 0, .int 0, .int 0, .int 0, .int 0, .ref (u 54), .ref (u 55), .ref (u 56), .ref (u 57), .ref (u 58), .ref (u 59), .ref (u 60), .ref (u 61), .ref (u 62), .ref (u 63), .ref (u 64), .ref (u 65), .int 0, .int 0, .ref (u 66), .ref (u 67), .ref (u 68), .ref (u 69), .ref (u 70), .ref (u 71), .int 0, .ref (u 72), .ref (u 73), .ref (u 74), .int 0, .ref (u 75), .ref (u 76), .ref (u 77), .int 0, .ref (u 78), .ref (u 79), .ref (u 80), .ref (u 81), .ref (u 82), .int 0, .int 0, .ref (u 83), .ref (u 84), .ref (u 85), .ref (u 86), .ref (u 87), .int 0, .ref (u 88)])] s.heap _ _ := hw
    refine lv_goto (tgt := 201) hx hb dX12_join_157 (by decide) ?_
    have hz : (0 : Int32) = m_ap61 a d := (by subst hr2 hr4 hr6; rw [m_ap61_eq, if_pos c7])
    have hw : Wd G A [(h0, ob 11 [.int 0, .int (m_ap61 a d), .ref (u 0), .int 0, .int 0, .int (-1), .int 0, .int 0, .ref (u 1), .ref (u 2), .ref (u 3), .ref (u 4), .ref (u 5), .ref (u 6), .ref (u 7), .ref (u 8), .ref (u 9), .int 0, .int 0, .ref (u 10), .ref (u 11), .ref (u 12), .ref (u 13), .ref (u 14), .ref (u 15), .ref (u 16), .ref (u 17), .int 0, .int 0, .ref (u 18), .ref (u 19), .ref (u 20), .int 0, .ref (u 21), .ref (u 22), .ref (u 23), .int 0, .int 0, .ref (u 24), .ref (u 25), .ref (u 26), .ref (u 27), .int 1, .int 0, .int 0, .int 0, .int 0, .int 0, .int 0, .int 0, .ref (u 28), .ref (u 29), .ref (u 30), .ref (u 31), .ref (u 32), .ref (u 33), .int 0, .ref (u 34), .int 0, .ref (u 35), .ref (u 36), .ref (u 37), .ref (u 38), .ref (u 39), .ref (u 40), .int 0, .int 0, .int 0, .int 0, .int 0, .ref (u 41), .ref (u 42), .ref (u 43), .int 0, .ref (u 44), .int 0, .int 0, .int 0, .ref (u 45), .ref (u 46), .ref (u 47), .ref (u 48), .ref (u 49), .ref (u 50), .ref (u 51), .ref (u 52), .ref (u 53), .int 0, .int 0, .int 0, .int 0, .int 0, .int 0, .int 0, .int 0, .int 0, .int 0, .int 0, .ref (u 54), .ref (u 55), .ref (u 56), .ref (u 57), .ref (u 58), .ref (u 59), .ref (u 60), .ref (u 61), .ref (u 62), .ref (u 63), .ref (u 64), .ref (u 65), .int 0, .int 0, .ref (u 66), .ref (u 67), .ref (u 68), .ref (u 69), .ref (u 70), .ref (u 71), .int 0, .ref (u 72), .ref (u 73), .ref (u 74), .int 0, .ref (u 75), .ref (u 76), .ref (u 77), .int 0, .ref (u 78), .ref (u 79), .ref (u 80), .ref (u 81), .ref (u 82), .int 0, .int 0, .ref (u 83), .ref (u 84), .ref (u 85), .ref (u 86), .ref (u 87), .int 0, .ref (u 88)])] s.heap _ _ := (by rw [← hz]; exact hw.sub [0] rfl rfl)
    exact r_vret cx hr hlk () trivial hw (Nat.le_of_ble_eq_true rfl) (Nat.le_of_ble_eq_true rfl) dX12_join_201
  · refine lv_goto (tgt := 149) hx hb dX12_join_140 (by decide) ?_
    refine lv_iconst (v := 1) hx hb dX12_join_149 (by decide) ?_
    refine lv_goto (tgt := 154) hx hb dX12_join_150 (by decide) ?_
    refine r_callVV (As := [.int 0, .int 1]) (rest := []) (wr := []) cx hw hA (g_give l G h0 u 0 1) [0] [] rfl rfl rfl rfl rfl 0 rfl (ci := 11) rfl ml_X12_324 im_X12_give se_X12_give in_X12 co_X12_give rfl hd_X12_give rfl ⟨Nat.le_of_ble_eq_true rfl, Nat.le_of_ble_eq_true rfl⟩ hl.1 rfl (Nat.le_of_ble_eq_true rfl) dX12_join_154 ⟨Nat.le_of_ble_eq_true rfl, Nat.le_of_ble_eq_true rfl⟩ (fun u10 H locs hr11 hw => ?_)
    have hw : Wd G A [(h0, ob 11 [.int 0, .int 1, .ref (u 0), .int 0, .int 0, .int (-1), .int 0, .int 0, .ref (u 1), .ref (u 2), .ref (u 3), .ref (u 4), .ref (u 5), .ref (u 6), .ref (u 7), .ref (u 8), .ref (u 9), .int 0, .int 0, .ref (u 10), .ref (u 11), .ref (u 12), .ref (u 13), .ref (u 14), .ref (u 15), .ref (u 16), .ref (u 17), .int 0, .int 0, .ref (u 18), .ref (u 19), .ref (u 20), .int 0, .ref (u 21), .ref (u 22), .ref (u 23), .int 0, .int 0, .ref (u 24), .ref (u 25), .ref (u 26), .ref (u 27), .int 1, .int 0, .int 0, .int 0, .int 0, .int 0, .int 0, .int 0, .ref (u 28), .ref (u 29), .ref (u 30), .ref (u 31), .ref (u 32), .ref (u 33), .int 0, .ref (u 34), .int 0, .ref (u 35), .ref (u 36), .ref (u 37), .ref (u 38), .ref (u 39), .ref (u 40), .int 0, .int 0, .int 0, .int 0, .int 0, .ref (u 41), .ref (u 42), .ref (u 43), .int 0, .ref (u 44), .int 0, .int 0, .int 0, .ref (u 45), .ref (u 46), .ref (u 47), .ref (u 48), .ref (u 49), .ref (u 50), .ref (u 51), .ref (u 52), .ref (u 53), .int 0, .int 0, .int 0, .int 0, .int 0, .int 0, .int 0, .int 0, .int 0, .int 0, .int 0, .ref (u 54), .ref (u 55), .ref (u 56), .ref (u 57), .ref (u 58), .ref (u 59), .ref (u 60), .ref (u 61), .ref (u 62), .ref (u 63), .ref (u 64), .ref (u 65), .int 0, .int 0, .ref (u 66), .ref (u 67), .ref (u 68), .ref (u 69), .ref (u 70), .ref (u 71), .int 0, .ref (u 72), .ref (u 73), .ref (u 74), .int 0, .ref (u 75), .ref (u 76), .ref (u 77), .int 0, .ref (u 78), .ref (u 79), .ref (u 80), .ref (u 81), .ref (u 82), .int 0, .int 0, .ref (u 83), .ref (u 84), .ref (u 85), .ref (u 86), .ref (u 87), .int 0, .ref (u 88)])] s.heap _ _ := hw
    refine lv_goto (tgt := 201) hx hb dX12_join_157 (by decide) ?_
    have hz : (1 : Int32) = m_ap61 a d := (by subst hr2 hr4 hr6; rw [m_ap61_eq, if_neg c7])
    have hw : Wd G A [(h0, ob 11 [.int 0, .int (m_ap61 a d), .ref (u 0), .int 0, .int 0, .int (-1), .int 0, .int 0, .ref (u 1), .ref (u 2), .ref (u 3), .ref (u 4), .ref (u 5), .ref (u 6), .ref (u 7), .ref (u 8), .ref (u 9), .int 0, .int 0, .ref (u 10), .ref (u 11), .ref (u 12), .ref (u 13), .ref (u 14), .ref (u 15), .ref (u 16), .ref (u 17), .int 0, .int 0, .ref (u 18), .ref (u 19), .ref (u 20), .int 0, .ref (u 21), .ref (u 22), .ref (u 23), .int 0, .int 0, .ref (u 24), .ref (u 25), .ref (u 26), .ref (u 27), .int 1, .int 0, .int 0, .int 0, .int 0, .int 0, .int 0, .int 0, .ref (u 28), .ref (u 29), .ref (u 30), .ref (u 31), .ref (u 32), .ref (u 33), .int 0, .ref (u 34), .int 0, .ref (u 35), .ref (u 36), .ref (u 37), .ref (u 38), .ref (u 39), .ref (u 40), .int 0, .int 0, .int 0, .int 0, .int 0, .ref (u 41), .ref (u 42), .ref (u 43), .int 0, .ref (u 44), .int 0, .int 0, .int 0, .ref (u 45), .ref (u 46), .ref (u 47), .ref (u 48), .ref (u 49), .ref (u 50), .ref (u 51), .ref (u 52), .ref (u 53), .int 0, .int 0, .int 0, .int 0, .int 0, .int 0, .int 0, .int 0, .int 0, .int 0, .int 0, .ref (u 54), .ref (u 55), .ref (u 56), .ref (u 57), .ref (u 58), .ref (u 59), .ref (u 60), .ref (u 61), .ref (u 62), .ref (u 63), .ref (u 64), .ref (u 65), .int 0, .int 0, .ref (u 66), .ref (u 67), .ref (u 68), .ref (u 69), .ref (u 70), .ref (u 71), .int 0, .ref (u 72), .ref (u 73), .ref (u 74), .int 0, .ref (u 75), .ref (u 76), .ref (u 77), .int 0, .ref (u 78), .ref (u 79), .ref (u 80), .ref (u 81), .ref (u 82), .int 0, .int 0, .ref (u 83), .ref (u 84), .ref (u 85), .ref (u 86), .ref (u 87), .int 0, .ref (u 88)])] s.heap _ _ := (by rw [← hz]; exact hw.sub [0] rfl rfl)
    exact r_vret cx hr hlk () trivial hw (Nat.le_of_ble_eq_true rfl) (Nat.le_of_ble_eq_true rfl) dX12_join_201

set_option maxHeartbeats 4000000 in
set_option maxRecDepth 100000 in
theorem k_misSign (l : Launch) (G : Gt) (g : Int32) : Mt l yX12_isSign cX12_isSign 1 (some .boolean) ({ frames := 0, cells := 0, slots := 0, locals := 0 } : Room) G [.int g] [] (qI G (fun (r : Int32) (w : Unit) => (g = 43 ∧ r = 1) ∨ (g = 45 ∧ r = 1) ∨ (g = 42 ∧ r = 1) ∨ (g = 47 ∧ r = 1) ∨ (g = 37 ∧ r = 1) ∨ (g = 60 ∧ r = 1) ∨ (g = 61 ∧ r = 1) ∨ (¬ g = 43 ∧ ¬ g = 45 ∧ ¬ g = 42 ∧ ¬ g = 47 ∧ ¬ g = 37 ∧ ¬ g = 60 ∧ ¬ g = 61 ∧ r = 0)) (fun w => [])) := by
  refine Mt.of (own := RX12) (cc := cX12_isSign) (by decide) rfl (Nat.le_of_ble_eq_true rfl) ?_
  intro p e s m below meth c A ls cx hr hlk hmn hA hl hw
  have hx := cx.1
  have hb := cx.2.1
  have hl : lv_has ls 1 [(0, .int g)] := hl
  refine lv_iload_n hx hb dX12_isSign_0 rfl (lv_at hl 0 rfl) ?_
  refine lv_bipush (v := 43) hx hb dX12_isSign_1 (by decide) ?_
  refine lv_icmp_eq (tgt := 42) hx hb dX12_isSign_3 (by decide) (fun c1 => ?_) (fun c1 => ?_)
  · subst c1
    refine lv_iconst (v := 1) hx hb dX12_isSign_42 (by decide) ?_
    refine lv_goto (tgt := 47) hx hb dX12_isSign_43 (by decide) ?_
    have hw : Wd G A [] s.heap _ _ := hw.sub [] rfl rfl
    exact r_zret cx hr rfl hlk () (by first | exact Or.inl ⟨(by first | assumption | rfl | decide), rfl⟩ | exact Or.inr (Or.inl ⟨(by first | assumption | rfl | decide), rfl⟩) | exact Or.inr (Or.inr (Or.inl ⟨(by first | assumption | rfl | decide), rfl⟩)) | exact Or.inr (Or.inr (Or.inr (Or.inl ⟨(by first | assumption | rfl | decide), rfl⟩))) | exact Or.inr (Or.inr (Or.inr (Or.inr (Or.inl ⟨(by first | assumption | rfl | decide), rfl⟩)))) | exact Or.inr (Or.inr (Or.inr (Or.inr (Or.inr (Or.inl ⟨(by first | assumption | rfl | decide), rfl⟩))))) | exact Or.inr (Or.inr (Or.inr (Or.inr (Or.inr (Or.inr (Or.inl ⟨(by first | assumption | rfl | decide), rfl⟩))))))) hw (Nat.le_of_ble_eq_true rfl) (Nat.le_of_ble_eq_true rfl) dX12_isSign_47
  · refine lv_iload_n hx hb dX12_isSign_6 rfl (lv_at hl 0 rfl) ?_
    refine lv_bipush (v := 45) hx hb dX12_isSign_7 (by decide) ?_
    refine lv_icmp_eq (tgt := 42) hx hb dX12_isSign_9 (by decide) (fun c2 => ?_) (fun c2 => ?_)
    · subst c2
      refine lv_iconst (v := 1) hx hb dX12_isSign_42 (by decide) ?_
      refine lv_goto (tgt := 47) hx hb dX12_isSign_43 (by decide) ?_
      have hw : Wd G A [] s.heap _ _ := hw.sub [] rfl rfl
      exact r_zret cx hr rfl hlk () (by first | exact Or.inl ⟨(by first | assumption | rfl | decide), rfl⟩ | exact Or.inr (Or.inl ⟨(by first | assumption | rfl | decide), rfl⟩) | exact Or.inr (Or.inr (Or.inl ⟨(by first | assumption | rfl | decide), rfl⟩)) | exact Or.inr (Or.inr (Or.inr (Or.inl ⟨(by first | assumption | rfl | decide), rfl⟩))) | exact Or.inr (Or.inr (Or.inr (Or.inr (Or.inl ⟨(by first | assumption | rfl | decide), rfl⟩)))) | exact Or.inr (Or.inr (Or.inr (Or.inr (Or.inr (Or.inl ⟨(by first | assumption | rfl | decide), rfl⟩))))) | exact Or.inr (Or.inr (Or.inr (Or.inr (Or.inr (Or.inr (Or.inl ⟨(by first | assumption | rfl | decide), rfl⟩))))))) hw (Nat.le_of_ble_eq_true rfl) (Nat.le_of_ble_eq_true rfl) dX12_isSign_47
    · refine lv_iload_n hx hb dX12_isSign_12 rfl (lv_at hl 0 rfl) ?_
      refine lv_bipush (v := 42) hx hb dX12_isSign_13 (by decide) ?_
      refine lv_icmp_eq (tgt := 42) hx hb dX12_isSign_15 (by decide) (fun c3 => ?_) (fun c3 => ?_)
      · subst c3
        refine lv_iconst (v := 1) hx hb dX12_isSign_42 (by decide) ?_
        refine lv_goto (tgt := 47) hx hb dX12_isSign_43 (by decide) ?_
        have hw : Wd G A [] s.heap _ _ := hw.sub [] rfl rfl
        exact r_zret cx hr rfl hlk () (by first | exact Or.inl ⟨(by first | assumption | rfl | decide), rfl⟩ | exact Or.inr (Or.inl ⟨(by first | assumption | rfl | decide), rfl⟩) | exact Or.inr (Or.inr (Or.inl ⟨(by first | assumption | rfl | decide), rfl⟩)) | exact Or.inr (Or.inr (Or.inr (Or.inl ⟨(by first | assumption | rfl | decide), rfl⟩))) | exact Or.inr (Or.inr (Or.inr (Or.inr (Or.inl ⟨(by first | assumption | rfl | decide), rfl⟩)))) | exact Or.inr (Or.inr (Or.inr (Or.inr (Or.inr (Or.inl ⟨(by first | assumption | rfl | decide), rfl⟩))))) | exact Or.inr (Or.inr (Or.inr (Or.inr (Or.inr (Or.inr (Or.inl ⟨(by first | assumption | rfl | decide), rfl⟩))))))) hw (Nat.le_of_ble_eq_true rfl) (Nat.le_of_ble_eq_true rfl) dX12_isSign_47
      · refine lv_iload_n hx hb dX12_isSign_18 rfl (lv_at hl 0 rfl) ?_
        refine lv_bipush (v := 47) hx hb dX12_isSign_19 (by decide) ?_
        refine lv_icmp_eq (tgt := 42) hx hb dX12_isSign_21 (by decide) (fun c4 => ?_) (fun c4 => ?_)
        · subst c4
          refine lv_iconst (v := 1) hx hb dX12_isSign_42 (by decide) ?_
          refine lv_goto (tgt := 47) hx hb dX12_isSign_43 (by decide) ?_
          have hw : Wd G A [] s.heap _ _ := hw.sub [] rfl rfl
          exact r_zret cx hr rfl hlk () (by first | exact Or.inl ⟨(by first | assumption | rfl | decide), rfl⟩ | exact Or.inr (Or.inl ⟨(by first | assumption | rfl | decide), rfl⟩) | exact Or.inr (Or.inr (Or.inl ⟨(by first | assumption | rfl | decide), rfl⟩)) | exact Or.inr (Or.inr (Or.inr (Or.inl ⟨(by first | assumption | rfl | decide), rfl⟩))) | exact Or.inr (Or.inr (Or.inr (Or.inr (Or.inl ⟨(by first | assumption | rfl | decide), rfl⟩)))) | exact Or.inr (Or.inr (Or.inr (Or.inr (Or.inr (Or.inl ⟨(by first | assumption | rfl | decide), rfl⟩))))) | exact Or.inr (Or.inr (Or.inr (Or.inr (Or.inr (Or.inr (Or.inl ⟨(by first | assumption | rfl | decide), rfl⟩))))))) hw (Nat.le_of_ble_eq_true rfl) (Nat.le_of_ble_eq_true rfl) dX12_isSign_47
        · refine lv_iload_n hx hb dX12_isSign_24 rfl (lv_at hl 0 rfl) ?_
          refine lv_bipush (v := 37) hx hb dX12_isSign_25 (by decide) ?_
          refine lv_icmp_eq (tgt := 42) hx hb dX12_isSign_27 (by decide) (fun c5 => ?_) (fun c5 => ?_)
          · subst c5
            refine lv_iconst (v := 1) hx hb dX12_isSign_42 (by decide) ?_
            refine lv_goto (tgt := 47) hx hb dX12_isSign_43 (by decide) ?_
            have hw : Wd G A [] s.heap _ _ := hw.sub [] rfl rfl
            exact r_zret cx hr rfl hlk () (by first | exact Or.inl ⟨(by first | assumption | rfl | decide), rfl⟩ | exact Or.inr (Or.inl ⟨(by first | assumption | rfl | decide), rfl⟩) | exact Or.inr (Or.inr (Or.inl ⟨(by first | assumption | rfl | decide), rfl⟩)) | exact Or.inr (Or.inr (Or.inr (Or.inl ⟨(by first | assumption | rfl | decide), rfl⟩))) | exact Or.inr (Or.inr (Or.inr (Or.inr (Or.inl ⟨(by first | assumption | rfl | decide), rfl⟩)))) | exact Or.inr (Or.inr (Or.inr (Or.inr (Or.inr (Or.inl ⟨(by first | assumption | rfl | decide), rfl⟩))))) | exact Or.inr (Or.inr (Or.inr (Or.inr (Or.inr (Or.inr (Or.inl ⟨(by first | assumption | rfl | decide), rfl⟩))))))) hw (Nat.le_of_ble_eq_true rfl) (Nat.le_of_ble_eq_true rfl) dX12_isSign_47
          · refine lv_iload_n hx hb dX12_isSign_30 rfl (lv_at hl 0 rfl) ?_
            refine lv_bipush (v := 60) hx hb dX12_isSign_31 (by decide) ?_
            refine lv_icmp_eq (tgt := 42) hx hb dX12_isSign_33 (by decide) (fun c6 => ?_) (fun c6 => ?_)
            · subst c6
              refine lv_iconst (v := 1) hx hb dX12_isSign_42 (by decide) ?_
              refine lv_goto (tgt := 47) hx hb dX12_isSign_43 (by decide) ?_
              have hw : Wd G A [] s.heap _ _ := hw.sub [] rfl rfl
              exact r_zret cx hr rfl hlk () (by first | exact Or.inl ⟨(by first | assumption | rfl | decide), rfl⟩ | exact Or.inr (Or.inl ⟨(by first | assumption | rfl | decide), rfl⟩) | exact Or.inr (Or.inr (Or.inl ⟨(by first | assumption | rfl | decide), rfl⟩)) | exact Or.inr (Or.inr (Or.inr (Or.inl ⟨(by first | assumption | rfl | decide), rfl⟩))) | exact Or.inr (Or.inr (Or.inr (Or.inr (Or.inl ⟨(by first | assumption | rfl | decide), rfl⟩)))) | exact Or.inr (Or.inr (Or.inr (Or.inr (Or.inr (Or.inl ⟨(by first | assumption | rfl | decide), rfl⟩))))) | exact Or.inr (Or.inr (Or.inr (Or.inr (Or.inr (Or.inr (Or.inl ⟨(by first | assumption | rfl | decide), rfl⟩))))))) hw (Nat.le_of_ble_eq_true rfl) (Nat.le_of_ble_eq_true rfl) dX12_isSign_47
            · refine lv_iload_n hx hb dX12_isSign_36 rfl (lv_at hl 0 rfl) ?_
              refine lv_bipush (v := 61) hx hb dX12_isSign_37 (by decide) ?_
              refine lv_icmp_ne (tgt := 46) hx hb dX12_isSign_39 (by decide) (fun c7 => ?_) (fun c7 => ?_)
              · refine lv_iconst (v := 0) hx hb dX12_isSign_46 (by decide) ?_
                have hw : Wd G A [] s.heap _ _ := hw.sub [] rfl rfl
                exact r_zret cx hr rfl hlk () (by first | exact Or.inr (Or.inr (Or.inr (Or.inr (Or.inr (Or.inr (Or.inr (⟨(by first | assumption | rfl | decide), (by first | assumption | rfl | decide), (by first | assumption | rfl | decide), (by first | assumption | rfl | decide), (by first | assumption | rfl | decide), (by first | assumption | rfl | decide), (by first | assumption | rfl | decide), rfl⟩)))))))) hw (Nat.le_of_ble_eq_true rfl) (Nat.le_of_ble_eq_true rfl) dX12_isSign_47
              · subst c7
                refine lv_iconst (v := 1) hx hb dX12_isSign_42 (by decide) ?_
                refine lv_goto (tgt := 47) hx hb dX12_isSign_43 (by decide) ?_
                have hw : Wd G A [] s.heap _ _ := hw.sub [] rfl rfl
                exact r_zret cx hr rfl hlk () (by first | exact Or.inl ⟨(by first | assumption | rfl | decide), rfl⟩ | exact Or.inr (Or.inl ⟨(by first | assumption | rfl | decide), rfl⟩) | exact Or.inr (Or.inr (Or.inl ⟨(by first | assumption | rfl | decide), rfl⟩)) | exact Or.inr (Or.inr (Or.inr (Or.inl ⟨(by first | assumption | rfl | decide), rfl⟩))) | exact Or.inr (Or.inr (Or.inr (Or.inr (Or.inl ⟨(by first | assumption | rfl | decide), rfl⟩)))) | exact Or.inr (Or.inr (Or.inr (Or.inr (Or.inr (Or.inl ⟨(by first | assumption | rfl | decide), rfl⟩))))) | exact Or.inr (Or.inr (Or.inr (Or.inr (Or.inr (Or.inr (Or.inl ⟨(by first | assumption | rfl | decide), rfl⟩))))))) hw (Nat.le_of_ble_eq_true rfl) (Nat.le_of_ble_eq_true rfl) dX12_isSign_47
