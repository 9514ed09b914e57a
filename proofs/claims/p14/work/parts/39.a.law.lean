/-! THE LAW'S WALK, write by the second form of contract -/
section Law2
variable {p : Program} {l : Launch} {e : Env} {R : Room} {s : State} {m : MethodId} {args : Array Value} {below : List Frame} {meth : Method} {c : Code} {H : Heap} {locs : List Loc} {cells slots : Nat} {Q : State → Prop}
variable {cc : ByteArray} {pc : Nat} {ls : Array Slot} {rest st0 : List Value} {A : Nat → Prop} {H0 : Heap} {nL : Nat} {own : String} {G : Gt} {adx adm : Nat → Nat} {μx μm μ1 : Mem}
theorem law_callX2 {sq sv : Nat} {y : MethodName} {bc : ByteArray} {mL index n : Nat} {rt : Option FieldType} {rm : Room} {C : String} {As : List Value} {r0 : Int32} (cx : Cx p s m c args cc nL own G) (hw : Wd G A (wd 0 G adx μx ++ wd 1 G adm μm) s.heap H locs) (hA : ∀ q : Nat, s.heap.size ≤ q → A q) (hst0 : Str9 sq sv A s s.heap) (hM : M2 sq sv l y bc mL rt rm G (.ref (adx 0) :: As) (wd 0 G adx μx) (eI 0 G adx r0 μ1)) {N0 : Nat} {T0 : u_T} (hc : vwCl[10]? = some (C, T0, N0)) (h1 : Cond.methodLink own index y ∈ lw_all) (h2 : Cond.instanceMethod y ∈ lw_all) (h3 : Cond.selects C y y ∈ lw_all) (h4 : Cond.initialized C ∈ lw_all) (h5 : Cond.code y bc mL rt ∈ lw_all) (hC0 : y.cls = C) (hd : y.cls ≠ "java/lang/invoke/MethodHandle" ∧ y.cls ≠ "java/lang/invoke/VarHandle" ∧ (parseMethodDescriptor y.desc).map (fun d => d.parameters.length) = some n) (hn : As.length = n) (hRm : rm.frames + 1 ≤ R.frames ∧ 8 + (mL + 11) + rm.locals ≤ R.locals) (hls : ls.size = nL) (hst : st0 = As.reverse ++ .ref (adx 0) :: rest) (hstk : (rest.map fun v => v.category).sum ≤ 8) (hdg : decode cc pc = .ok (.invokevirtual index, 3)) (hcs : cells ≤ R.cells ∧ slots ≤ R.slots) (hf : rm.cells = 0 ∧ rm.slots = 0)
    (kk : ∀ (H1 : Heap) (locs1 : List Loc), Wd G A (wd 0 G adx μ1 ++ wd 1 G adm μm) s.heap H1 locs1 → W p l e R s m args below meth c H1 locs1 cells slots Q (F0 m (pc + 3) ls (.int r0 :: rest))) : W p l e R s m args below meth c H locs cells slots Q (F0 m pc ls st0) := by
  have he : (wd 0 G adx μx ++ wd 1 G adm μm)[0]? = some (adx 0, .inr (10, fsOf adx μx 0 10)) := by
    rw [List.getElem?_append_left (by rw [wd_len]; decide)]; exact wd_ob shx_0
  refine r2_VI cx hw hA hst0 hM (List.range 161) ((List.range 90).map (fun i => i + 161)) (wr := wd 1 G adm μm) (ap_l (wd_len (w := 0))) nd_x (ap_r (wd_len (w := 0)) (wd_len (w := 1))) nd_m dis_m 0 he hc h1 h2 h3 h4 h5 hC0 hd hn hRm hls hst hstk hdg ⟨by rw [hf.1]; exact hcs.1, by rw [hf.2]; exact hcs.2⟩ (fun r u H1 locs1 hp hw1 => ?_)
  subst hp
  rw [hf.1, hf.2]
  exact kk H1 locs1 hw1.turn
end Law2
/-- at the law's entry -/
theorem st_start {s : State} {args : Array Value} {A : Nat → Prop} (hgv : (Jvm.Cond.and given_1 narrow_1).before args s = true) (hts : ∀ w ∈ lw_tbl, w.before args s = true) (hA : ∀ a : Nat, a < s.heap.size → ¬ A a) : ∃ sq sv : Nat, Str9 sq sv A s s.heap := by
  have hq := flat_of_before _ hgv
  obtain ⟨adK, adV, ⟨h1, -⟩, h2⟩ := vk_Sof (args := args) (s := s) (N := 1) (tm := fun _ => Term.string "OnlineParts$Text" 113) (len := [8]) (byt := [sgl]) (A := A)
    (fun i hi => by obtain rfl : i = 0 := by omega
                    decide)
    (fun i hi => hq _ (by decide +kernel))
    (fun i hi => hq _ (by decide +kernel))
    (fun i hi => hq _ (by decide +kernel))
    (fun i hi => by obtain rfl : i = 0 := by omega
                    exact hq _ (by decide +kernel))
    (fun i hi j hj => by
      obtain rfl : i = 0 := by omega
      have hj : j < 8 := hj
      match j, hj with
      | 0, _ => exact hq _ (by decide +kernel)
      | 1, _ => exact hq _ (by decide +kernel)
      | 2, _ => exact hq _ (by decide +kernel)
      | 3, _ => exact hq _ (by decide +kernel)
      | 4, _ => exact hq _ (by decide +kernel)
      | 5, _ => exact hq _ (by decide +kernel)
      | 6, _ => exact hq _ (by decide +kernel)
      | 7, _ => exact hq _ (by decide +kernel)
      | n + 8, h => exact absurd h (by omega))
    (fun i j hi hj hij => absurd (show i = j by omega) hij) hA
  obtain ⟨a1, a2, a3, a4⟩ := h1 0 (by omega)
  have hZ : va_Z RJ0 "COMPACT_STRINGS" "Z" (.int 1) A s s.heap := va_Zof (hts (Cond.laysStatic "java/lang/String" "COMPACT_STRINGS" "Z") (by decide +kernel)) (hts (Cond.initialized "java/lang/String") (by decide +kernel)) (va_eqt (hq (Cond.eq (.static "java/lang/String" "COMPACT_STRINGS" "Z") (.int 1)) (by decide +kernel))) hA
  have hZq : va_Zq RJ3 "SIOOBE_FORMATTER" "Ljava/util/function/BiFunction;" A s s.heap := va_Zqof (hts (Cond.laysStatic "jdk/internal/util/Preconditions" "SIOOBE_FORMATTER" "Ljava/util/function/BiFunction;") (by decide +kernel)) (hts (Cond.initialized "jdk/internal/util/Preconditions") (by decide +kernel)) (hq (Cond.isRef (.static "jdk/internal/util/Preconditions" "SIOOBE_FORMATTER" "Ljava/util/function/BiFunction;")) (by decide +kernel)) hA
  exact ⟨adK 0, adV 0, vk_R.of (hts (Cond.stringRef "OnlineParts$Text" 113 " $^#@~ !") (by decide +kernel)) (h2 0 (by omega)), a1, a2, a3, a4, hZ, hZq⟩
