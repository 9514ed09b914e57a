/-! A TEXT THAT STANDS IN THE CODE: its cells lie outside the world, nobody writes them; the second form of a contract has them ahead -/
def sgl : List Int32 := [32, 36, 94, 35, 64, 126, 32, 33]
def sgc (k : Int32) : Int32 := sgl.getD k.toNatClampNeg 0
def Str9 (sq sv : Nat) (A : Nat → Prop) (U : State) (H : Heap) : Prop :=
  vk_R RX9 113 " $^#@~ !" sq U ∧ va_O RJ0 sq A U H ∧ va_OF RJ0 "coder" "B" (.int 0) sq A U H ∧ va_OF RJ0 "value" "[B" (.ref sv) sq A U H ∧ va_T .byte sv 8 (fun j => .int (sgl.getD j 0)) A U H ∧ va_Z RJ0 "COMPACT_STRINGS" "Z" (.int 1) A U H ∧ va_Zq RJ3 "SIOOBE_FORMATTER" "Ljava/util/function/BiFunction;" A U H
theorem Str9.kept {sq sv : Nat} {A : Nat → Prop} {U : State} {H H1 : Heap} (h : Str9 sq sv A U H) (hq : ∀ a : Nat, a < H.size → ¬ A a → H1[a]? = H[a]?) : Str9 sq sv A U H1 := ⟨h.1, h.2.1.kept hq, h.2.2.1.kept hq, h.2.2.2.1.kept hq, h.2.2.2.2.1.kept hq, h.2.2.2.2.2.1.kept hq, h.2.2.2.2.2.2.kept hq⟩
theorem Str9.narrow {sq sv : Nat} {A B : Nat → Prop} {U : State} {H : Heap} (h : Str9 sq sv A U H) (hAB : ∀ q, B q → A q) : Str9 sq sv B U H := ⟨h.1, h.2.1.narrow hAB, h.2.2.1.narrow hAB, h.2.2.2.1.narrow hAB, h.2.2.2.2.1.narrow hAB, h.2.2.2.2.2.1.narrow hAB, h.2.2.2.2.2.2.narrow hAB⟩
theorem Str9.moved {sq sv : Nat} {A : Nat → Prop} {u U : State} {H : Heap} (hR : vk_R RX9 113 " $^#@~ !" sq U) (hvm : u.vm.Alike U.vm) (h : Str9 sq sv A u H) : Str9 sq sv A U H := ⟨hR, va_O.moved hvm h.2.1, va_OF.moved hvm h.2.2.1, va_OF.moved hvm h.2.2.2.1, va_T.moved hvm h.2.2.2.2.1, va_Z.moved hvm h.2.2.2.2.2.1, va_Zq.moved hvm h.2.2.2.2.2.2⟩
def M2 (sq sv : Nat) (l : Launch) (y : MethodName) (bc : ByteArray) (mL : Nat) (rt : Option FieldType) (rm : Room) (G : Gt) (av : List Value) (W0 : va_W) (Qf : (Nat → Prop) → Array Value → State → Outcome → State → Prop) : Prop :=
  ∀ sz : Nat, Met l y (ws_ y bc mL rt) rm (va_Pc av (fun U => U.heap.size = sz ∧ va_P G.1 vwCl W0 U.heap ∧ KK G U ∧ va_D (fun _ => True) W0 ∧ Str9 sq sv (va_A W0 sz) U U.heap)) (Qf (va_A W0 sz)) rm.cells rm.slots (va_A W0 sz)
def B2 (sq sv : Nat) (l : Launch) (cc : ByteArray) (mL : Nat) (own : String) (rt : Option FieldType) (rm : Room) (G : Gt) (av : List Value) (Qf : (Nat → Prop) → Array Value → State → Outcome → State → Prop) (ws : va_W) (pc : Nat) (lv : List (Nat × Value)) (st : List Value) : Prop :=
  ∀ (p : Program) (e : Env) (s : State) (m : MethodId) (below : List Frame) (meth : Method) (c : Code) (A : Nat → Prop) (ls : Array Slot) (H : Heap) (locs : List Loc), Cx p s m c av.toArray cc mL own G → meth.sig.returnType = rt → meth.locks = false → (∀ q : Nat, s.heap.size ≤ q → A q) → lv_has ls mL lv → Wd G A ws s.heap H locs → Str9 sq sv A s s.heap → W p l e rm s m av.toArray below meth c H locs 0 0 (MQ below (Qf A) av.toArray s rm.cells rm.slots A) (F0 m pc ls st)
theorem cl_blind2 {G : Gt} {av : List Value} {W0 : va_W} {sz sq sv : Nat} {A : Nat → Prop} : FrameBlind (va_Pc av (fun U => U.heap.size = sz ∧ va_P G.1 vwCl W0 U.heap ∧ KK G U ∧ va_D (fun _ => True) W0 ∧ Str9 sq sv A U U.heap)) :=
  fun a U g mk q => ⟨q.1, q.2.1, q.2.2.1, KK.moved (u := U) (U := U.calling g mk a) (Vm.Alike.refl U.vm) q.2.2.2.1, q.2.2.2.2.1, Str9.moved (u := U) (U := U.calling g mk a) (vk_R.same (u := U) (U := U.calling g mk a) rfl q.2.2.2.2.2.1) (Vm.Alike.refl U.vm) q.2.2.2.2.2⟩
theorem B2.mt {l : Launch} {cc : ByteArray} {own : String} {G : Gt} {y : MethodName} {mL sq sv : Nat} {rt : Option FieldType} {rm : Room} {av : List Value} {W0 : va_W} {Qf : (Nat → Prop) → Array Value → State → Outcome → State → Prop} (hy : plainName y.cls = true) (hown : y.cls = own) (hav : (lg_sl av).length ≤ mL) (hB : B2 sq sv l cc mL own rt rm G av Qf W0 0 (lv_args 0 av) []) : M2 sq sv l y cc mL rt rm G av W0 Qf := by
  intro sz
  refine Met.ofW (cc := cc) (maxL := mL) (ret := rt) hy rfl ?_
  intro p e s m args below meth c s₁ B hml hv
  obtain ⟨rfl, hsz, hP, hK, hD0, hSt⟩ := hv
  have hts := atoms_spec (ws := ws_ y cc mL rt) B.pre
  have hts : ∀ w ∈ lw_all, w.before _ s = true := fun w h => hts w (List.mem_cons_of_mem _ h)
  subst hsz
  have hD := hD0.self (sz := s.heap.size)
  have hl := lv_entry av (n := mL) hav
  rw [lg_entry_eq]
  generalize (lg_sl av ++ List.replicate (mL - (lg_sl av).length) Slot.unset).toArray = ls at hl ⊢
  exact hB p e s m below meth c (va_A W0 s.heap.size) ls s.heap [] ⟨B.exec, B.bytes, hml, hown ▸ findClass_of_methodNamed B.named, hts, hK⟩ B.returns B.notSynchronized (fun q h => Or.inr h) hl ⟨hP, hD, va_S.rf⟩ hSt
theorem B2.mtF {l : Launch} {cc : ByteArray} {own : String} {G : Gt} {y : MethodName} {mL sq sv : Nat} {rt : Option FieldType} {rm : Room} {av : List Value} {W0 : va_W} {Qf : (Nat → Prop) → Array Value → State → Outcome → State → Prop} (hy : plainFor y = true) (hown : y.cls = own) (hav : (lg_sl av).length ≤ mL) (hB : B2 sq sv l cc mL own rt rm G av Qf W0 0 (lv_args 0 av) []) : M2 sq sv l y cc mL rt rm G av W0 Qf := by
  intro sz
  refine Met.ofWF (cc := cc) (maxL := mL) (ret := rt) hy rfl ?_
  intro p e s m args below meth c s₁ B hml hv
  obtain ⟨rfl, hsz, hP, hK, hD0, hSt⟩ := hv
  have hts := atoms_spec (ws := ws_ y cc mL rt) B.pre
  have hts : ∀ w ∈ lw_all, w.before _ s = true := fun w h => hts w (List.mem_cons_of_mem _ h)
  subst hsz
  have hD := hD0.self (sz := s.heap.size)
  have hl := lv_entry av (n := mL) hav
  rw [lg_entry_eq]
  generalize (lg_sl av ++ List.replicate (mL - (lg_sl av).length) Slot.unset).toArray = ls at hl ⊢
  exact hB p e s m below meth c (va_A W0 s.heap.size) ls s.heap [] ⟨B.exec, B.bytes, hml, hown ▸ findClass_of_methodNamed B.named, hts, hK⟩ B.returns B.notSynchronized (fun q h => Or.inr h) hl ⟨hP, hD, va_S.rf⟩ hSt
section Str
variable {p : Program} {l : Launch} {e : Env} {R : Room} {s : State} {m : MethodId} {args : Array Value} {below : List Frame} {meth : Method} {c : Code} {H : Heap} {locs : List Loc} {cells slots : Nat} {Q : State → Prop}
variable {cc : ByteArray} {pc : Nat} {ls : Array Slot} {rest st0 : List Value} {A : Nat → Prop} {ws : va_W} {nL sq sv : Nat} {own : String} {G : Gt}
theorem r2_VI {y : MethodName} {bc : ByteArray} {mL index n : Nat} {rt : Option FieldType} {rm : Room} {C : String} {b : Nat} {As : List Value} {W0 wr : va_W} {S : Type} {post : Int32 → S → Prop} {W1 : S → va_W} (cx : Cx p s m c args cc nL own G) (hw : Wd G A ws s.heap H locs) (hA : ∀ q : Nat, s.heap.size ≤ q → A q) (hs : Str9 sq sv A s s.heap) (hM : M2 sq sv l y bc mL rt rm G (.ref b :: As) W0 (qI G post W1)) (isC isR : List Nat) (hC : isC.map (fun i => ws[i]?) = W0.map some) (hnC : va_nd isC = true) (hR : isR.map (fun i => ws[i]?) = wr.map some) (hnR : va_nd isR = true) (hdis : isR.all (fun i => !isC.contains i) = true) (q0 : Nat) {ci N0 : Nat} {T0 : u_T} {fs : List Value} (he : ws[q0]? = some (b, .inr (ci, fs))) (hc : vwCl[ci]? = some (C, T0, N0)) (h1 : Cond.methodLink own index y ∈ lw_all) (h2 : Cond.instanceMethod y ∈ lw_all) (h3 : Cond.selects C y y ∈ lw_all) (h4 : Cond.initialized C ∈ lw_all) (h5 : Cond.code y bc mL rt ∈ lw_all) (hC0 : y.cls = C) (hd : y.cls ≠ "java/lang/invoke/MethodHandle" ∧ y.cls ≠ "java/lang/invoke/VarHandle" ∧ (parseMethodDescriptor y.desc).map (fun d => d.parameters.length) = some n) (hn : As.length = n) (hRm : rm.frames + 1 ≤ R.frames ∧ 8 + (mL + 11) + rm.locals ≤ R.locals) (hls : ls.size = nL) (hst : st0 = As.reverse ++ .ref b :: rest) (hstk : (rest.map fun v => v.category).sum ≤ 8) (hdg : decode cc pc = .ok (.invokevirtual index, 3)) (hf : cells + rm.cells ≤ R.cells ∧ slots + rm.slots ≤ R.slots)
    (kk : ∀ (r : Int32) (u : S) (H1 : Heap) (locs1 : List Loc), post r u → Wd G A (wr ++ W1 u) s.heap H1 locs1 → W p l e R s m args below meth c H1 locs1 (cells + rm.cells) (slots + rm.slots) Q (F0 m (pc + 3) ls (.int r :: rest))) : W p l e R s m args below meth c H locs cells slots Q (F0 m pc ls st0) := by
  have hPc := hw.1.maps isC hC
  have hDc := (hw.2.1.sub isC hnC hC).weaken (B := fun _ => True) (fun _ _ _ _ => trivial)
  have hFc := va_free hw.2.1 hw.2.2 hA isC hC
  refine va_calli (va_runV (As := As) (rest := rest) ⟨cx.1, cx.2.1, cx.2.2.1, cx.2.2.2.1, cx.2.2.2.2.1⟩ (hM H.size) (cwV n cx.2.2.2.2.1 (lw_V h1 h2 h3 h4 h5) rfl rfl rfl ⟨hC0, hd⟩ hRm) ⟨cl_blind2, va_recv cx.2.2.2.2.2.1 hw.1 (ci := ci) (q := (C, T0, N0)) (q0 := q0) hc he, fun U hU hW => ⟨rfl, by rw [hU], by rw [hU]; exact hPc, KK.moved hW.alike cx.2.2.2.2.2, hDc, by rw [hU]; exact Str9.moved (vk_R.warm hW hs.1) hW.alike ((hs.kept hw.2.2.2.1).narrow hFc)⟩⟩ rfl hn hls hst (lv_room hstk) hdg hf) hw.2.2 (fun q _ h => hFc q h) hFc (fun r u t H1 locs1 ht hvm hp hB hz1 hk1 hS => ?_)
  exact kk r u H1 locs1 hp (cl_join hw hA isC isR hC hR hnR hdis ht hB hk1 hS)
theorem r2_VV {y : MethodName} {bc : ByteArray} {mL index n : Nat} {rt : Option FieldType} {rm : Room} {C : String} {b : Nat} {As : List Value} {W0 wr : va_W} {S : Type} {post : S → Prop} {W1 : S → va_W} (cx : Cx p s m c args cc nL own G) (hw : Wd G A ws s.heap H locs) (hA : ∀ q : Nat, s.heap.size ≤ q → A q) (hs : Str9 sq sv A s s.heap) (hM : M2 sq sv l y bc mL rt rm G (.ref b :: As) W0 (qV G post W1)) (isC isR : List Nat) (hC : isC.map (fun i => ws[i]?) = W0.map some) (hnC : va_nd isC = true) (hR : isR.map (fun i => ws[i]?) = wr.map some) (hnR : va_nd isR = true) (hdis : isR.all (fun i => !isC.contains i) = true) (q0 : Nat) {ci N0 : Nat} {T0 : u_T} {fs : List Value} (he : ws[q0]? = some (b, .inr (ci, fs))) (hc : vwCl[ci]? = some (C, T0, N0)) (h1 : Cond.methodLink own index y ∈ lw_all) (h2 : Cond.instanceMethod y ∈ lw_all) (h3 : Cond.selects C y y ∈ lw_all) (h4 : Cond.initialized C ∈ lw_all) (h5 : Cond.code y bc mL rt ∈ lw_all) (hC0 : y.cls = C) (hd : y.cls ≠ "java/lang/invoke/MethodHandle" ∧ y.cls ≠ "java/lang/invoke/VarHandle" ∧ (parseMethodDescriptor y.desc).map (fun d => d.parameters.length) = some n) (hn : As.length = n) (hRm : rm.frames + 1 ≤ R.frames ∧ 8 + (mL + 11) + rm.locals ≤ R.locals) (hls : ls.size = nL) (hst : st0 = As.reverse ++ .ref b :: rest) (hstk : (rest.map fun v => v.category).sum ≤ 8) (hdg : decode cc pc = .ok (.invokevirtual index, 3)) (hf : cells + rm.cells ≤ R.cells ∧ slots + rm.slots ≤ R.slots)
    (kk : ∀ (u : S) (H1 : Heap) (locs1 : List Loc), post u → Wd G A (wr ++ W1 u) s.heap H1 locs1 → W p l e R s m args below meth c H1 locs1 (cells + rm.cells) (slots + rm.slots) Q (F0 m (pc + 3) ls rest)) : W p l e R s m args below meth c H locs cells slots Q (F0 m pc ls st0) := by
  have hPc := hw.1.maps isC hC
  have hDc := (hw.2.1.sub isC hnC hC).weaken (B := fun _ => True) (fun _ _ _ _ => trivial)
  have hFc := va_free hw.2.1 hw.2.2 hA isC hC
  refine va_callv (va_runV (As := As) (rest := rest) ⟨cx.1, cx.2.1, cx.2.2.1, cx.2.2.2.1, cx.2.2.2.2.1⟩ (hM H.size) (cwV n cx.2.2.2.2.1 (lw_V h1 h2 h3 h4 h5) rfl rfl rfl ⟨hC0, hd⟩ hRm) ⟨cl_blind2, va_recv cx.2.2.2.2.2.1 hw.1 (ci := ci) (q := (C, T0, N0)) (q0 := q0) hc he, fun U hU hW => ⟨rfl, by rw [hU], by rw [hU]; exact hPc, KK.moved hW.alike cx.2.2.2.2.2, hDc, by rw [hU]; exact Str9.moved (vk_R.warm hW hs.1) hW.alike ((hs.kept hw.2.2.2.1).narrow hFc)⟩⟩ rfl hn hls hst (lv_room hstk) hdg hf) hw.2.2 (fun q _ h => hFc q h) hFc (fun u t H1 locs1 ht hvm hp hB hz1 hk1 hS => ?_)
  exact kk u H1 locs1 hp (cl_join hw hA isC isR hC hR hnR hdis ht hB hk1 hS)
theorem r2_V0I {y : MethodName} {bc : ByteArray} {mL index n : Nat} {rt : Option FieldType} {rm : Room} {As : List Value} {r0 : Int32} (cx : Cx p s m c args cc nL own G) (hw : Wd G A ws s.heap H locs) (hA : ∀ q : Nat, s.heap.size ≤ q → A q) (hs : Str9 sq sv A s s.heap) (hM : M2 sq sv l y bc mL rt rm G (.ref sq :: As) [] (sI G r0)) (h1 : Cond.methodLink own index y ∈ lw_all) (h2 : Cond.instanceMethod y ∈ lw_all) (h3 : Cond.selects RJ0 y y ∈ lw_all) (h4 : Cond.initialized RJ0 ∈ lw_all) (h5 : Cond.code y bc mL rt ∈ lw_all) (hC0 : y.cls = RJ0) (hd : y.cls ≠ "java/lang/invoke/MethodHandle" ∧ y.cls ≠ "java/lang/invoke/VarHandle" ∧ (parseMethodDescriptor y.desc).map (fun d => d.parameters.length) = some n) (hn : As.length = n) (hRm : rm.frames + 1 ≤ R.frames ∧ 8 + (mL + 11) + rm.locals ≤ R.locals) (hls : ls.size = nL) (hst : st0 = As.reverse ++ .ref sq :: rest) (hstk : (rest.map fun v => v.category).sum ≤ 8) (hdg : decode cc pc = .ok (.invokevirtual index, 3)) (hf : (rm.cells, rm.slots) = (0, 0))
    (kk : ∀ (H1 : Heap) (locs1 : List Loc), Wd G A ws s.heap H1 locs1 → W p l e R s m args below meth c H1 locs1 0 0 Q (F0 m (pc + 3) ls (.int r0 :: rest))) : W p l e R s m args below meth c H locs 0 0 Q (F0 m pc ls st0) := by
  have f1 : rm.cells = 0 := congrArg Prod.fst hf
  have f2 : rm.slots = 0 := congrArg Prod.snd hf
  have hFc := va_free (wc := []) hw.2.1 hw.2.2 hA [] rfl
  have hrc : ∃ cell : Cell, H[sq]? = some cell ∧ cell.vm.isStatics = false ∧ s.vm.findClass RJ0 = some cell.cls := by
    obtain ⟨cell, x1, x2, x3, -⟩ := hs.2.1.kept hw.2.2.2.1
    exact ⟨cell, x1, x2, x3⟩
  refine va_calli (va_runV (As := As) (rest := rest) ⟨cx.1, cx.2.1, cx.2.2.1, cx.2.2.2.1, cx.2.2.2.2.1⟩ (hM H.size) (cwV n cx.2.2.2.2.1 (lw_V h1 h2 h3 h4 h5) rfl rfl rfl ⟨hC0, hd⟩ hRm) ⟨cl_blind2, hrc, fun U hU hW => ⟨rfl, by rw [hU], fun k q h => by simp at h, KK.moved hW.alike cx.2.2.2.2.2, ⟨fun i j p q h => by simp at h, fun k q h => by simp at h⟩, by rw [hU]; exact Str9.moved (vk_R.warm hW hs.1) hW.alike ((hs.kept hw.2.2.2.1).narrow hFc)⟩⟩ rfl hn hls hst (lv_room hstk) hdg ⟨by rw [f1]; exact Nat.zero_le _, by rw [f2]; exact Nat.zero_le _⟩) hw.2.2 (fun q _ h => hFc q h) hFc (fun r u t H1 locs1 ht hvm hp hB hz1 hk1 hS => ?_)
  subst hp
  rw [f1, f2]
  refine kk H1 locs1 ⟨fun k q hq => ?_, hw.2.1, hS⟩
  have hlt := (hw.1 k q hq).lt
  refine (hw.1 k q hq).kept (hk1 q.1 hlt (fun h => ?_))
  rcases h with ⟨k2, e2, h⟩ | h
  · simp at h
  · omega
theorem r2_S0I {y : MethodName} {bc : ByteArray} {mL index n : Nat} {rt : Option FieldType} {rm : Room} {As : List Value} {r0 : Int32} (cx : Cx p s m c args cc nL own G) (hw : Wd G A ws s.heap H locs) (hA : ∀ q : Nat, s.heap.size ≤ q → A q) (hs : Str9 sq sv A s s.heap) (hM : M2 sq sv l y bc mL rt rm G As [] (sI G r0)) (h1 : Cond.methodLink own index y ∈ lw_all) (h2 : Cond.static y ∈ lw_all) (h4 : Cond.initialized y.cls ∈ lw_all) (h5 : Cond.code y bc mL rt ∈ lw_all) (hd : y.cls ≠ "java/lang/invoke/MethodHandle" ∧ y.cls ≠ "java/lang/invoke/VarHandle" ∧ (parseMethodDescriptor y.desc).map (fun d => d.parameters.length) = some n) (hn : As.length = n) (hRm : rm.frames + 1 ≤ R.frames ∧ 8 + (mL + 11) + rm.locals ≤ R.locals) (hls : ls.size = nL) (hst : st0 = As.reverse ++ rest) (hstk : (rest.map fun v => v.category).sum ≤ 8) (hdg : decode cc pc = .ok (.invokestatic index, 3)) (hf : (rm.cells, rm.slots) = (0, 0))
    (kk : ∀ (H1 : Heap) (locs1 : List Loc), Wd G A ws s.heap H1 locs1 → W p l e R s m args below meth c H1 locs1 0 0 Q (F0 m (pc + 3) ls (.int r0 :: rest))) : W p l e R s m args below meth c H locs 0 0 Q (F0 m pc ls st0) := by
  have f1 : rm.cells = 0 := congrArg Prod.fst hf
  have f2 : rm.slots = 0 := congrArg Prod.snd hf
  have hFc := va_free (wc := []) hw.2.1 hw.2.2 hA [] rfl
  refine va_calli (va_runS (As := As) (rest := rest) ⟨cx.1, cx.2.1, cx.2.2.1, cx.2.2.2.1, cx.2.2.2.2.1⟩ (hM H.size) (va_cwS n cx.2.2.2.2.1 (lw_S h1 h2 h4 h5) rfl rfl rfl hd hRm) ⟨cl_blind2, fun U hU hW => ⟨rfl, by rw [hU], fun k q h => by simp at h, KK.moved hW.alike cx.2.2.2.2.2, ⟨fun i j p q h => by simp at h, fun k q h => by simp at h⟩, by rw [hU]; exact Str9.moved (vk_R.warm hW hs.1) hW.alike ((hs.kept hw.2.2.2.1).narrow hFc)⟩⟩ rfl hn hls hst (lv_room hstk) hdg ⟨by rw [f1]; exact Nat.zero_le _, by rw [f2]; exact Nat.zero_le _⟩) hw.2.2 (fun q _ h => hFc q h) hFc (fun r u t H1 locs1 ht hvm hp hB hz1 hk1 hS => ?_)
  subst hp
  rw [f1, f2]
  refine kk H1 locs1 ⟨fun k q hq => ?_, hw.2.1, hS⟩
  have hlt := (hw.1 k q hq).lt
  refine (hw.1 k q hq).kept (hk1 q.1 hlt (fun h => ?_))
  rcases h with ⟨k2, e2, h⟩ | h
  · simp at h
  · omega
theorem r2_S0V {y : MethodName} {bc : ByteArray} {mL index n : Nat} {rt : Option FieldType} {rm : Room} {As : List Value} (cx : Cx p s m c args cc nL own G) (hw : Wd G A ws s.heap H locs) (hA : ∀ q : Nat, s.heap.size ≤ q → A q) (hs : Str9 sq sv A s s.heap) (hM : M2 sq sv l y bc mL rt rm G As [] (qV G (fun (_ : Unit) => True) (fun _ => ([] : va_W)))) (h1 : Cond.methodLink own index y ∈ lw_all) (h2 : Cond.static y ∈ lw_all) (h4 : Cond.initialized y.cls ∈ lw_all) (h5 : Cond.code y bc mL rt ∈ lw_all) (hd : y.cls ≠ "java/lang/invoke/MethodHandle" ∧ y.cls ≠ "java/lang/invoke/VarHandle" ∧ (parseMethodDescriptor y.desc).map (fun d => d.parameters.length) = some n) (hn : As.length = n) (hRm : rm.frames + 1 ≤ R.frames ∧ 8 + (mL + 11) + rm.locals ≤ R.locals) (hls : ls.size = nL) (hst : st0 = As.reverse ++ rest) (hstk : (rest.map fun v => v.category).sum ≤ 8) (hdg : decode cc pc = .ok (.invokestatic index, 3)) (hf : (rm.cells, rm.slots) = (0, 0))
    (kk : ∀ (H1 : Heap) (locs1 : List Loc), Wd G A ws s.heap H1 locs1 → W p l e R s m args below meth c H1 locs1 0 0 Q (F0 m (pc + 3) ls rest)) : W p l e R s m args below meth c H locs 0 0 Q (F0 m pc ls st0) := by
  have f1 : rm.cells = 0 := congrArg Prod.fst hf
  have f2 : rm.slots = 0 := congrArg Prod.snd hf
  have hFc := va_free (wc := []) hw.2.1 hw.2.2 hA [] rfl
  refine va_callv (va_runS (As := As) (rest := rest) ⟨cx.1, cx.2.1, cx.2.2.1, cx.2.2.2.1, cx.2.2.2.2.1⟩ (hM H.size) (va_cwS n cx.2.2.2.2.1 (lw_S h1 h2 h4 h5) rfl rfl rfl hd hRm) ⟨cl_blind2, fun U hU hW => ⟨rfl, by rw [hU], fun k q h => by simp at h, KK.moved hW.alike cx.2.2.2.2.2, ⟨fun i j p q h => by simp at h, fun k q h => by simp at h⟩, by rw [hU]; exact Str9.moved (vk_R.warm hW hs.1) hW.alike ((hs.kept hw.2.2.2.1).narrow hFc)⟩⟩ rfl hn hls hst (lv_room hstk) hdg ⟨by rw [f1]; exact Nat.zero_le _, by rw [f2]; exact Nat.zero_le _⟩) hw.2.2 (fun q _ h => hFc q h) hFc (fun u t H1 locs1 ht hvm hp hB hz1 hk1 hS => ?_)
  rw [f1, f2]
  refine kk H1 locs1 ⟨fun k q hq => ?_, hw.2.1, hS⟩
  have hlt := (hw.1 k q hq).lt
  refine (hw.1 k q hq).kept (hk1 q.1 hlt (fun h => ?_))
  rcases h with ⟨k2, e2, h⟩ | h
  · simp at h
  · omega
theorem h_callVI {ad : Nat → Nat} {μ μ1 : Mem} {y : MethodName} {bc : ByteArray} {mL index n : Nat} {rt : Option FieldType} {rm : Room} {C : String} {b : Nat} {As : List Value} {r0 : Int32} (cx : Cx p s m c args cc nL own G) (hw : Wd G A (wd 0 G ad μ) s.heap H locs) (hA : ∀ q : Nat, s.heap.size ≤ q → A q) (hs : Str9 sq sv A s s.heap) (hM : M2 sq sv l y bc mL rt rm G (.ref (ad b) :: As) (wd 0 G ad μ) (eI 0 G ad r0 μ1)) {ci N0 : Nat} {T0 : u_T} (hb : sh 0 b = (0, ci)) (hc : vwCl[ci]? = some (C, T0, N0)) (h1 : Cond.methodLink own index y ∈ lw_all) (h2 : Cond.instanceMethod y ∈ lw_all) (h3 : Cond.selects C y y ∈ lw_all) (h4 : Cond.initialized C ∈ lw_all) (h5 : Cond.code y bc mL rt ∈ lw_all) (hC0 : y.cls = C) (hd : y.cls ≠ "java/lang/invoke/MethodHandle" ∧ y.cls ≠ "java/lang/invoke/VarHandle" ∧ (parseMethodDescriptor y.desc).map (fun d => d.parameters.length) = some n) (hn : As.length = n) (hRm : rm.frames + 1 ≤ R.frames ∧ 8 + (mL + 11) + rm.locals ≤ R.locals) (hls : ls.size = nL) (hst : st0 = As.reverse ++ .ref (ad b) :: rest) (hstk : (rest.map fun v => v.category).sum ≤ 8) (hdg : decode cc pc = .ok (.invokevirtual index, 3)) (hf : rm.cells = 0 ∧ rm.slots = 0)
    (kk : ∀ (H1 : Heap) (locs1 : List Loc), Wd G A (wd 0 G ad μ1) s.heap H1 locs1 → W p l e R s m args below meth c H1 locs1 0 0 Q (F0 m (pc + 3) ls (.int r0 :: rest))) : W p l e R s m args below meth c H locs 0 0 Q (F0 m pc ls st0) := by
  refine r2_VI cx hw hA hs hM (List.range (NC 0)) [] (wr := []) wd_all nd_all rfl rfl rfl b (wd_ob hb) hc h1 h2 h3 h4 h5 hC0 hd hn hRm hls hst hstk hdg ⟨by rw [hf.1]; exact Nat.zero_le _, by rw [hf.2]; exact Nat.zero_le _⟩ (fun r u H1 locs1 hp hw1 => ?_)
  subst hp
  rw [hf.1, hf.2]
  exact kk H1 locs1 hw1
theorem h_callVV {ad : Nat → Nat} {μ μ1 : Mem} {y : MethodName} {bc : ByteArray} {mL index n : Nat} {rt : Option FieldType} {rm : Room} {C : String} {b : Nat} {As : List Value} (cx : Cx p s m c args cc nL own G) (hw : Wd G A (wd 0 G ad μ) s.heap H locs) (hA : ∀ q : Nat, s.heap.size ≤ q → A q) (hs : Str9 sq sv A s s.heap) (hM : M2 sq sv l y bc mL rt rm G (.ref (ad b) :: As) (wd 0 G ad μ) (eV 0 G ad μ1)) {ci N0 : Nat} {T0 : u_T} (hb : sh 0 b = (0, ci)) (hc : vwCl[ci]? = some (C, T0, N0)) (h1 : Cond.methodLink own index y ∈ lw_all) (h2 : Cond.instanceMethod y ∈ lw_all) (h3 : Cond.selects C y y ∈ lw_all) (h4 : Cond.initialized C ∈ lw_all) (h5 : Cond.code y bc mL rt ∈ lw_all) (hC0 : y.cls = C) (hd : y.cls ≠ "java/lang/invoke/MethodHandle" ∧ y.cls ≠ "java/lang/invoke/VarHandle" ∧ (parseMethodDescriptor y.desc).map (fun d => d.parameters.length) = some n) (hn : As.length = n) (hRm : rm.frames + 1 ≤ R.frames ∧ 8 + (mL + 11) + rm.locals ≤ R.locals) (hls : ls.size = nL) (hst : st0 = As.reverse ++ .ref (ad b) :: rest) (hstk : (rest.map fun v => v.category).sum ≤ 8) (hdg : decode cc pc = .ok (.invokevirtual index, 3)) (hf : rm.cells = 0 ∧ rm.slots = 0)
    (kk : ∀ (H1 : Heap) (locs1 : List Loc), Wd G A (wd 0 G ad μ1) s.heap H1 locs1 → W p l e R s m args below meth c H1 locs1 0 0 Q (F0 m (pc + 3) ls rest)) : W p l e R s m args below meth c H locs 0 0 Q (F0 m pc ls st0) := by
  refine r2_VV cx hw hA hs hM (List.range (NC 0)) [] (wr := []) wd_all nd_all rfl rfl rfl b (wd_ob hb) hc h1 h2 h3 h4 h5 hC0 hd hn hRm hls hst hstk hdg ⟨by rw [hf.1]; exact Nat.zero_le _, by rw [hf.2]; exact Nat.zero_le _⟩ (fun u H1 locs1 hp hw1 => ?_)
  rw [hf.1, hf.2]
  exact kk H1 locs1 hw1
theorem ml_J0_1059 : Cond.methodLink RJ0 1059 yJ3_checkIndex_8e157 ∈ lw_all := lw_t7 (i := 11) (by decide +kernel) rfl
theorem st_J3_checkIndex_8e157 : Cond.static yJ3_checkIndex_8e157 ∈ lw_all := lw_t7 (i := 12) (by decide +kernel) rfl
theorem co_J3_checkIndex_8e157 : Cond.code yJ3_checkIndex_8e157 cJ3_checkIndex_8e157 3 (some .int) ∈ lw_all := lw_t7 (i := 13) rfl rfl
theorem hd_J3_checkIndex_8e157 : yJ3_checkIndex_8e157.cls ≠ "java/lang/invoke/MethodHandle" ∧ yJ3_checkIndex_8e157.cls ≠ "java/lang/invoke/VarHandle" ∧ (parseMethodDescriptor yJ3_checkIndex_8e157.desc).map (fun d => d.parameters.length) = some 3 := by decide +kernel
theorem dJ3_checkIndex_8e157_0 : decode cJ3_checkIndex_8e157 0 = .ok (.iload_n 0, 1) := by decide +kernel
theorem dJ3_checkIndex_8e157_1 : decode cJ3_checkIndex_8e157 1 = .ok (.ifCond .lt 8, 3) := by decide +kernel
theorem dJ3_checkIndex_8e157_4 : decode cJ3_checkIndex_8e157 4 = .ok (.iload_n 0, 1) := by decide +kernel
theorem dJ3_checkIndex_8e157_5 : decode cJ3_checkIndex_8e157 5 = .ok (.iload_n 1, 1) := by decide +kernel
theorem dJ3_checkIndex_8e157_6 : decode cJ3_checkIndex_8e157 6 = .ok (.if_icmp .lt 10, 3) := by decide +kernel
theorem dJ3_checkIndex_8e157_16 : decode cJ3_checkIndex_8e157 16 = .ok (.iload_n 0, 1) := by decide +kernel
theorem dJ3_checkIndex_8e157_17 : decode cJ3_checkIndex_8e157 17 = .ok (.ireturn, 1) := by decide +kernel
theorem r_ldcS (cx : Cx p s m c args cc nL RX9 G) (hs : Str9 sq sv A s s.heap) (hdg : decode cc pc = .ok (.ldc 113, 2)) (k : W p l e R s m args below meth c H locs cells slots Q (F0 m (pc + 2) ls (.ref sq :: rest))) : W p l e R s m args below meth c H locs cells slots Q (F0 m pc ls rest) :=
  va_ldcS (own := RX9) (tx := " $^#@~ !") (index := 113) cx.1 cx.2.1 cx.2.2.2.1 hs.1 hdg k
theorem sg_ok : ∀ n, n < 8 → ((sgl.getD n 0 &&& 255).toUInt32 % 65536).toInt32 = sgl.getD n 0 ∧ narrow .char (.int (sgl.getD n 0)) = .int (sgl.getD n 0)
  | 0, _ => ⟨by decide, rfl⟩
  | 1, _ => ⟨by decide, rfl⟩
  | 2, _ => ⟨by decide, rfl⟩
  | 3, _ => ⟨by decide, rfl⟩
  | 4, _ => ⟨by decide, rfl⟩
  | 5, _ => ⟨by decide, rfl⟩
  | 6, _ => ⟨by decide, rfl⟩
  | 7, _ => ⟨by decide, rfl⟩
  | n + 8, h => absurd h (by omega)
end Str
theorem t_J0_coder (sq sv : Nat) (l : Launch) (G : Gt) : M2 sq sv l yJ0_coder_7d493 cJ0_coder_7d493 1 (some .byte) ({ frames := 0, cells := 0, slots := 0, locals := 0 } : Room) G [.ref sq] [] (sI G 0) := by
  refine B2.mtF (by decide +kernel) rfl (Nat.le_of_ble_eq_true rfl) ?_
  intro p e s m below meth c A ls H locs cx hr hlk hA hl hw hs
  have hx := cx.1
  have hb := cx.2.1
  have hl : lv_has ls 1 [(0, .ref sq)] := hl
  refine va_gets hx hb hs.2.2.2.2.2.1 hw.2.2 cx.2.2.2.1 (cx.2.2.2.2.1 _ fl_J0_38) (fun _ h => h) dJ0_coder_7d493_0 ?_
  refine lv_if_eq (tgt := 13) hx hb dJ0_coder_7d493_3 (by decide) (fun c1 => absurd c1 (by decide)) (fun _ => ?_)
  refine lv_aload_n hx hb dJ0_coder_7d493_6 rfl (lv_at hl 0 rfl) ?_
  refine vk_getf hx hb hs.2.2.1 hw.2.2 cx.2.2.2.1 (cx.2.2.2.2.1 _ fl_J0_15) (fun _ h => h) dJ0_coder_7d493_7 ?_
  refine lv_goto (tgt := 14) hx hb dJ0_coder_7d493_10 (by decide) ?_
  exact s_zret cx hr hlk rfl hw rfl dJ0_coder_7d493_14
theorem t_J0_isLatin1 (sq sv : Nat) (l : Launch) (G : Gt) : M2 sq sv l yJ0_isLatin1_aae02 cJ0_isLatin1_aae02 1 (some .boolean) ({ frames := 0, cells := 0, slots := 0, locals := 0 } : Room) G [.ref sq] [] (sI G 1) := by
  refine B2.mtF (by decide +kernel) rfl (Nat.le_of_ble_eq_true rfl) ?_
  intro p e s m below meth c A ls H locs cx hr hlk hA hl hw hs
  have hx := cx.1
  have hb := cx.2.1
  have hl : lv_has ls 1 [(0, .ref sq)] := hl
  refine va_gets hx hb hs.2.2.2.2.2.1 hw.2.2 cx.2.2.2.1 (cx.2.2.2.2.1 _ fl_J0_38) (fun _ h => h) dJ0_isLatin1_aae02_0 ?_
  refine lv_if_eq (tgt := 17) hx hb dJ0_isLatin1_aae02_3 (by decide) (fun c1 => absurd c1 (by decide)) (fun _ => ?_)
  refine lv_aload_n hx hb dJ0_isLatin1_aae02_6 rfl (lv_at hl 0 rfl) ?_
  refine vk_getf hx hb hs.2.2.1 hw.2.2 cx.2.2.2.1 (cx.2.2.2.2.1 _ fl_J0_15) (fun _ h => h) dJ0_isLatin1_aae02_7 ?_
  refine lv_if_ne (tgt := 17) hx hb dJ0_isLatin1_aae02_10 (by decide) (fun c1 => absurd rfl c1) (fun _ => ?_)
  refine lv_iconst (v := 1) hx hb dJ0_isLatin1_aae02_13 (by decide) ?_
  refine lv_goto (tgt := 18) hx hb dJ0_isLatin1_aae02_14 (by decide) ?_
  exact s_zret cx hr hlk rfl hw rfl dJ0_isLatin1_aae02_18
theorem t_J0_length (sq sv : Nat) (l : Launch) (G : Gt) : M2 sq sv l yJ0_length_8abf5 cJ0_length_8abf5 1 (some .int) ({ frames := 1, cells := 0, slots := 0, locals := 20 } : Room) G [.ref sq] [] (sI G 8) := by
  refine B2.mtF (by decide +kernel) rfl (Nat.le_of_ble_eq_true rfl) ?_
  intro p e s m below meth c A ls H locs cx hr hlk hA hl hw hs
  have hx := cx.1
  have hb := cx.2.1
  have hl : lv_has ls 1 [(0, .ref sq)] := hl
  refine lv_aload_n hx hb dJ0_length_8abf5_0 rfl (lv_at hl 0 rfl) ?_
  refine vk_getf hx hb hs.2.2.2.1 hw.2.2 cx.2.2.2.1 (cx.2.2.2.2.1 _ fl_J0_9) (fun _ h => h) dJ0_length_8abf5_1 ?_
  refine va_tlen hx hb hs.2.2.2.2.1 hw.2.2 (v := 8) rfl dJ0_length_8abf5_4 ?_
  refine lv_aload_n hx hb dJ0_length_8abf5_5 rfl (lv_at hl 0 rfl) ?_
  refine r2_V0I (As := []) (rest := [.int 8]) cx hw hA hs (t_J0_coder sq sv l G) ml_J0_335 im_J0_coder_7d493 se_J0_coder_7d493 in_J0 co_J0_coder_7d493 rfl hd_J0_coder_7d493 rfl ⟨Nat.le_of_ble_eq_true rfl, Nat.le_of_ble_eq_true rfl⟩ hl.1 rfl (Nat.le_of_ble_eq_true rfl) dJ0_length_8abf5_6 rfl (fun H locs hw => ?_)
  refine lv_ishr hx hb dJ0_length_8abf5_9 ?_
  exact s_iret cx hr hlk hw (by decide) dJ0_length_8abf5_10
theorem t_J3_checkIndex (l : Launch) (G : Gt) (i n : Int32) (v : Value) (hv : v = .null ∨ ∃ t, v = .ref t) (h0 : ¬ i < 0) (h1 : i < n) : Mt l yJ3_checkIndex_8e157 cJ3_checkIndex_8e157 3 (some .int) ({ frames := 0, cells := 0, slots := 0, locals := 0 } : Room) G [.int i, .int n, v] [] (sI G i) := by
  rcases hv with rfl | ⟨t, rfl⟩
  · refine Bk.mtF (by decide +kernel) rfl (Nat.le_of_ble_eq_true rfl) ?_
    intro p e s m below meth c A ls H locs cx hr hlk hA hl hw
    have hx := cx.1
    have hb := cx.2.1
    have hl : lv_has ls 3 [(0, .int i), (1, .int n), (2, .null)] := hl
    refine lv_iload_n hx hb dJ3_checkIndex_8e157_0 rfl (lv_at hl 0 rfl) ?_
    refine lv_if_lt (tgt := 9) hx hb dJ3_checkIndex_8e157_1 (by decide) (fun c1 => absurd c1 h0) (fun _ => ?_)
    refine lv_iload_n hx hb dJ3_checkIndex_8e157_4 rfl (lv_at hl 0 rfl) ?_
    refine lv_iload_n hx hb dJ3_checkIndex_8e157_5 rfl (lv_at hl 1 rfl) ?_
    refine lv_icmp_lt (tgt := 16) hx hb dJ3_checkIndex_8e157_6 (by decide) (fun _ => ?_) (fun c1 => absurd h1 c1)
    refine lv_iload_n hx hb dJ3_checkIndex_8e157_16 rfl (lv_at hl 0 rfl) ?_
    exact s_iret cx hr hlk hw rfl dJ3_checkIndex_8e157_17
  · refine Bk.mtF (by decide +kernel) rfl (Nat.le_of_ble_eq_true rfl) ?_
    intro p e s m below meth c A ls H locs cx hr hlk hA hl hw
    have hx := cx.1
    have hb := cx.2.1
    have hl : lv_has ls 3 [(0, .int i), (1, .int n), (2, .ref t)] := hl
    refine lv_iload_n hx hb dJ3_checkIndex_8e157_0 rfl (lv_at hl 0 rfl) ?_
    refine lv_if_lt (tgt := 9) hx hb dJ3_checkIndex_8e157_1 (by decide) (fun c1 => absurd c1 h0) (fun _ => ?_)
    refine lv_iload_n hx hb dJ3_checkIndex_8e157_4 rfl (lv_at hl 0 rfl) ?_
    refine lv_iload_n hx hb dJ3_checkIndex_8e157_5 rfl (lv_at hl 1 rfl) ?_
    refine lv_icmp_lt (tgt := 16) hx hb dJ3_checkIndex_8e157_6 (by decide) (fun _ => ?_) (fun c1 => absurd h1 c1)
    refine lv_iload_n hx hb dJ3_checkIndex_8e157_16 rfl (lv_at hl 0 rfl) ?_
    exact s_iret cx hr hlk hw rfl dJ3_checkIndex_8e157_17
theorem t_J0_checkIndex (sq sv : Nat) (l : Launch) (G : Gt) (i n : Int32) (h0 : ¬ i < 0) (h1 : i < n) : M2 sq sv l yJ0_checkIndex_df160 cJ0_checkIndex_df160 2 none ({ frames := 1, cells := 0, slots := 0, locals := 22 } : Room) G [.int i, .int n] [] (qV G (fun (_ : Unit) => True) (fun _ => ([] : va_W))) := by
  refine B2.mtF (by decide +kernel) rfl (Nat.le_of_ble_eq_true rfl) ?_
  intro p e s m below meth c A ls H locs cx hr hlk hA hl hw hs
  have hx := cx.1
  have hb := cx.2.1
  have hl : lv_has ls 2 [(0, .int i), (1, .int n)] := hl
  refine lv_iload_n hx hb dJ0_checkIndex_df160_0 rfl (lv_at hl 0 rfl) ?_
  refine lv_iload_n hx hb dJ0_checkIndex_df160_1 rfl (lv_at hl 1 rfl) ?_
  obtain ⟨v, hv, hZ⟩ : ∃ v : Value, (v = .null ∨ ∃ t, v = .ref t) ∧ va_Z RJ3 "SIOOBE_FORMATTER" "Ljava/util/function/BiFunction;" v A s s.heap := by
    rcases hs.2.2.2.2.2.2 with h | ⟨t, h⟩
    · exact ⟨_, Or.inl rfl, h⟩
    · exact ⟨_, Or.inr ⟨t, rfl⟩, h⟩
  have hcat : v.category = 1 := by rcases hv with rfl | ⟨t, rfl⟩ <;> rfl
  refine va_gets hx hb hZ hw.2.2 cx.2.2.2.1 (cx.2.2.2.2.1 _ fl_J0_1053) (fun _ h => h) dJ0_checkIndex_df160_2 ?_
  refine s_callI (As := [.int i, .int n, v]) (rest := []) cx hw hA (t_J3_checkIndex l G i n v hv h0 h1) ml_J0_1059 st_J3_checkIndex_8e157 in_J3 co_J3_checkIndex_8e157 hd_J3_checkIndex_8e157 rfl ⟨Nat.le_of_ble_eq_true rfl, Nat.le_of_ble_eq_true rfl⟩ hl.1 rfl (Nat.le_of_ble_eq_true rfl) dJ0_checkIndex_df160_5 rfl (fun H locs hw => ?_)
  refine lv_pop hx hb dJ0_checkIndex_df160_8 rfl ?_
  exact r_vret cx hr hlk () trivial hw (Nat.zero_le _) (Nat.zero_le _) dJ0_checkIndex_df160_9
theorem sg_in {k : Int32} (h : inb k 8 = true) : ¬ k < 0 ∧ k < 8 ∧ vp_in k 8 ∧ k.toNatClampNeg < 8 := by
  have h8 : (8 : Int32).toInt = 8 := by decide
  have h0 : (0 : Int32).toInt = 0 := by decide
  have hb := inb_iff.mp h
  have hn := ti_nat hb.1
  refine ⟨by rw [ti_lt, h0]; omega, by rw [ti_lt, h8]; omega, ?_, by omega⟩
  rintro (q | q)
  · rw [ti_lt, h0] at q; omega
  · omega
theorem t_J1_charAt (sq sv : Nat) (l : Launch) (G : Gt) (k : Int32) (hk : inb k 8 = true) : M2 sq sv l yJ1_charAt_3b067 cJ1_charAt_3b067 2 (some .char) ({ frames := 2, cells := 0, slots := 0, locals := 43 } : Room) G [.ref sv, .int k] [] (sI G (sgc k)) := by
  obtain ⟨k0, k8, kin, kn⟩ := sg_in hk
  refine B2.mtF (by decide +kernel) rfl (Nat.le_of_ble_eq_true rfl) ?_
  intro p e s m below meth c A ls H locs cx hr hlk hA hl hw hs
  have hx := cx.1
  have hb := cx.2.1
  have hl : lv_has ls 2 [(0, .ref sv), (1, .int k)] := hl
  refine lv_iload_n hx hb dJ1_charAt_3b067_0 rfl (lv_at hl 1 rfl) ?_
  refine lv_aload_n hx hb dJ1_charAt_3b067_1 rfl (lv_at hl 0 rfl) ?_
  refine va_tlen hx hb hs.2.2.2.2.1 hw.2.2 (v := 8) rfl dJ1_charAt_3b067_2 ?_
  refine r2_S0V (As := [.int k, .int 8]) (rest := []) cx hw hA hs (t_J0_checkIndex sq sv l G k 8 k0 k8) ml_J1_9 st_J0_checkIndex_df160 in_J0 co_J0_checkIndex_df160 hd_J0_checkIndex_df160 rfl ⟨Nat.le_of_ble_eq_true rfl, Nat.le_of_ble_eq_true rfl⟩ hl.1 rfl (Nat.le_of_ble_eq_true rfl) dJ1_charAt_3b067_3 rfl (fun H locs hw => ?_)
  refine lv_aload_n hx hb dJ1_charAt_3b067_6 rfl (lv_at hl 0 rfl) ?_
  refine lv_iload_n hx hb dJ1_charAt_3b067_7 rfl (lv_at hl 1 rfl) ?_
  refine va_tb hx hb hs.2.2.2.2.1 hw.2.2 kin (v := .int (sgl.getD k.toNatClampNeg 0)) rfl dJ1_charAt_3b067_8 ?_
  refine lv_sipush (v := 255) hx hb dJ1_charAt_3b067_9 (by decide) ?_
  refine lv_iand hx hb dJ1_charAt_3b067_12 ?_
  refine lv_i2c (v := sgc k) hx hb dJ1_charAt_3b067_13 (sg_ok _ kn).1 ?_
  exact s_zret cx hr hlk (sg_ok _ kn).2 hw rfl dJ1_charAt_3b067_14
theorem t_J0_charAt (sq sv : Nat) (l : Launch) (G : Gt) (k : Int32) (hk : inb k 8 = true) : M2 sq sv l yJ0_charAt_5068e cJ0_charAt_5068e 2 (some .char) ({ frames := 3, cells := 0, slots := 0, locals := 64 } : Room) G [.ref sq, .int k] [] (sI G (sgc k)) := by
  obtain ⟨k0, k8, kin, kn⟩ := sg_in hk
  refine B2.mtF (by decide +kernel) rfl (Nat.le_of_ble_eq_true rfl) ?_
  intro p e s m below meth c A ls H locs cx hr hlk hA hl hw hs
  have hx := cx.1
  have hb := cx.2.1
  have hl : lv_has ls 2 [(0, .ref sq), (1, .int k)] := hl
  refine lv_aload_n hx hb dJ0_charAt_5068e_0 rfl (lv_at hl 0 rfl) ?_
  refine r2_V0I (As := []) (rest := []) cx hw hA hs (t_J0_isLatin1 sq sv l G) ml_J0_492 im_J0_isLatin1_aae02 se_J0_isLatin1_aae02 in_J0 co_J0_isLatin1_aae02 rfl hd_J0_isLatin1_aae02 rfl ⟨Nat.le_of_ble_eq_true rfl, Nat.le_of_ble_eq_true rfl⟩ hl.1 rfl (Nat.le_of_ble_eq_true rfl) dJ0_charAt_5068e_1 rfl (fun H locs hw => ?_)
  refine lv_if_eq (tgt := 16) hx hb dJ0_charAt_5068e_4 (by decide) (fun c1 => absurd c1 (by decide)) (fun _ => ?_)
  refine lv_aload_n hx hb dJ0_charAt_5068e_7 rfl (lv_at hl 0 rfl) ?_
  refine vk_getf hx hb hs.2.2.2.1 hw.2.2 cx.2.2.2.1 (cx.2.2.2.2.1 _ fl_J0_9) (fun _ h => h) dJ0_charAt_5068e_8 ?_
  refine lv_iload_n hx hb dJ0_charAt_5068e_11 rfl (lv_at hl 1 rfl) ?_
  refine r2_S0I (As := [.ref sv, .int k]) (rest := []) cx hw hA hs (t_J1_charAt sq sv l G k hk) ml_J0_495 st_J1_charAt_3b067 in_J1 co_J1_charAt_3b067 hd_J1_charAt_3b067 rfl ⟨Nat.le_of_ble_eq_true rfl, Nat.le_of_ble_eq_true rfl⟩ hl.1 rfl (Nat.le_of_ble_eq_true rfl) dJ0_charAt_5068e_12 rfl (fun H locs hw => ?_)
  exact s_zret cx hr hlk (sg_ok _ kn).2 hw rfl dJ0_charAt_5068e_15
