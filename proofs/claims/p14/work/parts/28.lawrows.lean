/-! what a function gives: it ends, and so -/
def ok {α : Type} (o : Option α) (Q : α → Prop) : Prop := ∃ r, o = some r ∧ Q r
theorem ok_some {α : Type} {r : α} {Q : α → Prop} (h : Q r) : ok (some r) Q := ⟨r, rfl, h⟩
theorem ok_gd {α : Type} {c : Bool} {x : Option α} {Q : α → Prop} (hc : c = true) (h : ok x Q) : ok (gd c x) Q := by
  subst hc; exact h
theorem ok_bv {α β : Type} {x : α} {f : α → Option β} {Q : β → Prop} (h : ∀ y, y = x → ok (f y) Q) : ok (bv x f) Q := h x rfl
theorem ok_bd {α β : Type} {x : Option (α × Mem)} {f : α → Mem → Option β} {P : α × Mem → Prop} {Q : β → Prop} (hx : ok x P) (h : ∀ a μ, P (a, μ) → ok (f a μ) Q) : ok (bd x f) Q := by
  obtain ⟨⟨a, μ⟩, rfl, hp⟩ := hx
  exact h a μ hp
theorem ok_bw {β : Type} {x : Option Mem} {f : Mem → Option β} {P : Mem → Prop} {Q : β → Prop} (hx : ok x P) (h : ∀ μ, P μ → ok (f μ) Q) : ok (bw x f) Q := by
  obtain ⟨μ, rfl, hp⟩ := hx
  exact h μ hp
theorem ok_bs {α β : Type} {x : Option α} {f : α → Option β} {P : α → Prop} {Q : β → Prop} (hx : ok x P) (h : ∀ a, P a → ok (f a) Q) : ok (bs x f) Q := by
  obtain ⟨a, rfl, hp⟩ := hx
  exact h a hp
theorem ok_ite {α : Type} {c : Prop} [Decidable c] {x y : Option α} {Q : α → Prop} (h1 : c → ok x Q) (h2 : ¬ c → ok y Q) : ok (if c then x else y) Q := by
  by_cases e : c
  · rw [if_pos e]; exact h1 e
  · rw [if_neg e]; exact h2 e
theorem ok_mono {α : Type} {o : Option α} {P Q : α → Prop} (h : ok o P) (hq : ∀ r, P r → Q r) : ok o Q := by
  obtain ⟨r, e, hp⟩ := h
  exact ⟨r, e, hq r hp⟩
/-! the numbers -/
theorem ti_lt {a b : Int32} : a < b ↔ a.toInt < b.toInt := Int32.lt_iff_toInt_lt
theorem ti_le {a b : Int32} : a ≤ b ↔ a.toInt ≤ b.toInt := Int32.le_iff_toInt_le
theorem ti_eq {a b : Int32} : a = b ↔ a.toInt = b.toInt := Int32.toInt_inj.symm
theorem ti_lo (a : Int32) : -2147483648 ≤ a.toInt := by
  have h := Int32.le_toInt a
  omega
theorem ti_hi (a : Int32) : a.toInt < 2147483648 := by
  have h := Int32.toInt_lt a
  omega
theorem ti_add {a b : Int32} (h1 : -2147483648 ≤ a.toInt + b.toInt) (h2 : a.toInt + b.toInt < 2147483648) : (a + b).toInt = a.toInt + b.toInt := by
  rw [Int32.toInt_add, Int.bmod_eq_of_le] <;> omega
theorem ti_sub {a b : Int32} (h1 : -2147483648 ≤ a.toInt - b.toInt) (h2 : a.toInt - b.toInt < 2147483648) : (a - b).toInt = a.toInt - b.toInt := by
  rw [Int32.toInt_sub, Int.bmod_eq_of_le] <;> omega
theorem ti_mul {a b : Int32} (h1 : -2147483648 ≤ a.toInt * b.toInt) (h2 : a.toInt * b.toInt < 2147483648) : (a * b).toInt = a.toInt * b.toInt := by
  rw [Int32.toInt_mul, Int.bmod_eq_of_le] <;> omega
theorem ti_inc (a : Int32) : (a + 1).toInt ≤ a.toInt + 1 := by
  have h1 := ti_lo a
  have h2 := ti_hi a
  have e1 : (1 : Int32).toInt = 1 := by decide
  by_cases h : a.toInt + 1 < 2147483648
  · rw [ti_add (by omega) (by omega), e1]; omega
  · have h3 := ti_hi (a + 1)
    omega
theorem ti_nat {a : Int32} (h : 0 ≤ a.toInt) : (a.toNatClampNeg : Int) = a.toInt := by
  show ((a.toInt.toNat : Nat) : Int) = a.toInt
  omega
theorem inb_iff {i : Int32} {n : Nat} : inb i n = true ↔ 0 ≤ i.toInt ∧ i.toInt < n := by
  have e0 : (0 : Int32).toInt = 0 := by decide
  have e1 : i.toNatClampNeg = i.toInt.toNat := rfl
  unfold inb
  rw [Bool.not_eq_true', Bool.or_eq_false_iff, decide_eq_false_iff_not, decide_eq_false_iff_not, ti_lt, e0, e1]
  omega
theorem sF_1 (μ : Mem) (i k : Nat) (v : Int32) (j q : Nat) : (sF μ i k v).1 j q = if j = i then (if q = k then v else μ.1 i q) else μ.1 j q := by
  unfold sF u2
  by_cases h : j = i
  · simp [h]
  · simp [h]
theorem sF_2 (μ : Mem) (i k : Nat) (v : Int32) : (sF μ i k v).2 = μ.2 := rfl
theorem sL_1 (μ : Mem) (i k : Nat) (v : Int64) : (sL μ i k v).1 = μ.1 := rfl
theorem sL_2 (μ : Mem) (i k : Nat) (v : Int64) (j q : Nat) : (sL μ i k v).2.1 j q = if j = i then (if q = k then v else μ.2.1 i q) else μ.2.1 j q := by
  unfold sL u2
  by_cases h : j = i
  · simp [h]
  · simp [h]
theorem sL_3 (μ : Mem) (i k : Nat) (v : Int64) : (sL μ i k v).2.2 = μ.2.2 := rfl
theorem sR_1 (μ : Mem) (i k j : Nat) : (sR μ i k j).1 = μ.1 := rfl
theorem sR_2 (μ : Mem) (i k j : Nat) : (sR μ i k j).2.1 = μ.2.1 := rfl
theorem sR_3 (μ : Mem) (i k v j q : Nat) : (sR μ i k v).2.2 j q = if j = i then (if q = k then v else μ.2.2 i q) else μ.2.2 j q := by
  unfold sR u2
  by_cases h : j = i
  · simp [h]
  · simp [h]
section LawRows
variable {p : Program} {l : Launch} {e : Env} {R : Room} {s : State} {m : MethodId} {args : Array Value} {below : List Frame} {meth : Method} {c : Code} {H : Heap} {locs : List Loc} {cells slots : Nat} {Q : State → Prop}
variable {cc : ByteArray} {pc : Nat} {ls : Array Slot} {rest st0 : List Value} {A : Nat → Prop} {H0 : Heap} {nL : Nat} {own : String} {G : Gt} {adx adm : Nat → Nat} {μx μm μ1 : Mem}
theorem ap_l {α : Type} {L1 L2 : List α} {n : Nat} (h : L1.length = n) : (List.range n).map (fun i => (L1 ++ L2)[i]?) = L1.map some := by
  apply List.ext_getElem?
  intro j
  rw [List.getElem?_map, List.getElem?_map]
  rcases Nat.lt_or_ge j n with q | q
  · rw [List.getElem?_range q]
    show some ((L1 ++ L2)[j]?) = _
    rw [List.getElem?_append_left (by omega), List.getElem?_eq_getElem (by omega)]; rfl
  · rw [List.getElem?_eq_none (by rw [List.length_range]; exact q), List.getElem?_eq_none (by omega)]; rfl
theorem ap_r {α : Type} {L1 L2 : List α} {n k : Nat} (h : L1.length = n) (h2 : L2.length = k) : ((List.range k).map (fun i => i + n)).map (fun i => (L1 ++ L2)[i]?) = L2.map some := by
  apply List.ext_getElem?
  intro j
  rw [List.map_map, List.getElem?_map, List.getElem?_map]
  rcases Nat.lt_or_ge j k with q | q
  · rw [List.getElem?_range q]
    show some ((L1 ++ L2)[j + n]?) = _
    rw [List.getElem?_append_right (by omega), show j + n - L1.length = j by omega, List.getElem?_eq_getElem (by omega)]; rfl
  · rw [List.getElem?_eq_none (by rw [List.length_range]; exact q), List.getElem?_eq_none (by omega)]; rfl
theorem wd_len {w : Nat} {ad : Nat → Nat} {μ : Mem} : (wd w G ad μ).length = NC w := by unfold wd; rw [List.length_map, List.length_range]
theorem nd_x : va_nd (List.range 161) = true := by decide +kernel
theorem nd_m : va_nd ((List.range 90).map (fun i => i + 161)) = true := by decide +kernel
theorem dis_m : ((List.range 90).map (fun i => i + 161)).all (fun i => !(List.range 161).contains i) = true := by decide +kernel
theorem dis_x : (List.range 161).all (fun i => !((List.range 90).map (fun i => i + 161)).contains i) = true := by decide +kernel
theorem nd_s : va_nd ((List.range 161).map (fun i => i + 90) ++ List.range 90) = true := by decide +kernel
/-- the two worlds, the other way round -/
theorem Wd.turn (hw : Wd G A (wd 1 G adm μm ++ wd 0 G adx μx) H0 H locs) : Wd G A (wd 0 G adx μx ++ wd 1 G adm μm) H0 H locs := by
  refine hw.sub ((List.range 161).map (fun i => i + 90) ++ List.range 90) nd_s ?_
  rw [List.map_append, List.map_append, ap_r (L1 := wd 1 G adm μm) (n := 90) (k := 161) (wd_len (w := 1)) (wd_len (w := 0)), ap_l (L1 := wd 1 G adm μm) (n := 90) (wd_len (w := 1))]
theorem law_in {i : Int32} {L : Nat} (j : Int32) (hj : 0 ≤ j.toInt ∧ j.toInt ≤ 5) (h0 : 0 ≤ i.toInt) (h1 : i.toInt + 6 ≤ L) (hL : L ≤ 3072) : vp_in (i + j) L := by
  rw [vp_in_iff, ti_add (by omega) (by omega)]
  omega
theorem law_in0 {i : Int32} {L : Nat} (h0 : 0 ≤ i.toInt) (h1 : i.toInt + 6 ≤ L) : vp_in i L := by
  rw [vp_in_iff]
  omega

theorem law_callX {y : MethodName} {bc : ByteArray} {mL index n : Nat} {rt : Option FieldType} {rm : Room} {C : String} {As : List Value} {r0 : Int32} (cx : Cx p s m c args cc nL own G) (hw : Wd G A (wd 0 G adx μx ++ wd 1 G adm μm) H0 H locs) (hA : ∀ q : Nat, H0.size ≤ q → A q) (hM : Mt l y bc mL rt rm G (.ref (adx 0) :: As) (wd 0 G adx μx) (eI 0 G adx r0 μ1)) {N0 : Nat} {T0 : u_T} (hc : vwCl[10]? = some (C, T0, N0)) (h1 : Cond.methodLink own index y ∈ lw_all) (h2 : Cond.instanceMethod y ∈ lw_all) (h3 : Cond.selects C y y ∈ lw_all) (h4 : Cond.initialized C ∈ lw_all) (h5 : Cond.code y bc mL rt ∈ lw_all) (hC0 : y.cls = C) (hd : y.cls ≠ "java/lang/invoke/MethodHandle" ∧ y.cls ≠ "java/lang/invoke/VarHandle" ∧ (parseMethodDescriptor y.desc).map (fun d => d.parameters.length) = some n) (hn : As.length = n) (hRm : rm.frames + 1 ≤ R.frames ∧ 8 + (mL + 11) + rm.locals ≤ R.locals) (hls : ls.size = nL) (hst : st0 = As.reverse ++ .ref (adx 0) :: rest) (hstk : (rest.map fun v => v.category).sum ≤ 8) (hdg : decode cc pc = .ok (.invokevirtual index, 3)) (hcs : cells ≤ R.cells ∧ slots ≤ R.slots) (hf : rm.cells = 0 ∧ rm.slots = 0)
    (kk : ∀ (H1 : Heap) (locs1 : List Loc), Wd G A (wd 0 G adx μ1 ++ wd 1 G adm μm) H0 H1 locs1 → W p l e R s m args below meth c H1 locs1 cells slots Q (F0 m (pc + 3) ls (.int r0 :: rest))) : W p l e R s m args below meth c H locs cells slots Q (F0 m pc ls st0) := by
  have he : (wd 0 G adx μx ++ wd 1 G adm μm)[0]? = some (adx 0, .inr (10, fsOf adx μx 0 10)) := by
    rw [List.getElem?_append_left (by rw [wd_len]; decide)]; exact wd_ob shx_0
  refine r_callVI cx hw hA hM (List.range 161) ((List.range 90).map (fun i => i + 161)) (wr := wd 1 G adm μm) (ap_l (wd_len (w := 0))) nd_x (ap_r (wd_len (w := 0)) (wd_len (w := 1))) nd_m dis_m 0 he hc h1 h2 h3 h4 h5 hC0 hd hn hRm hls hst hstk hdg ⟨by rw [hf.1]; exact hcs.1, by rw [hf.2]; exact hcs.2⟩ (fun r u H1 locs1 hp hw1 => ?_)
  subst hp
  rw [hf.1, hf.2]
  exact kk H1 locs1 hw1.turn
theorem law_callM {y : MethodName} {bc : ByteArray} {mL index n : Nat} {rt : Option FieldType} {rm : Room} {C : String} {As : List Value} {r0 : Int32} (cx : Cx p s m c args cc nL own G) (hw : Wd G A (wd 0 G adx μx ++ wd 1 G adm μm) H0 H locs) (hA : ∀ q : Nat, H0.size ≤ q → A q) (hM : Mt l y bc mL rt rm G (.ref (adm 0) :: As) (wd 1 G adm μm) (eI 1 G adm r0 μ1)) {N0 : Nat} {T0 : u_T} (hc : vwCl[11]? = some (C, T0, N0)) (h1 : Cond.methodLink own index y ∈ lw_all) (h2 : Cond.instanceMethod y ∈ lw_all) (h3 : Cond.selects C y y ∈ lw_all) (h4 : Cond.initialized C ∈ lw_all) (h5 : Cond.code y bc mL rt ∈ lw_all) (hC0 : y.cls = C) (hd : y.cls ≠ "java/lang/invoke/MethodHandle" ∧ y.cls ≠ "java/lang/invoke/VarHandle" ∧ (parseMethodDescriptor y.desc).map (fun d => d.parameters.length) = some n) (hn : As.length = n) (hRm : rm.frames + 1 ≤ R.frames ∧ 8 + (mL + 11) + rm.locals ≤ R.locals) (hls : ls.size = nL) (hst : st0 = As.reverse ++ .ref (adm 0) :: rest) (hstk : (rest.map fun v => v.category).sum ≤ 8) (hdg : decode cc pc = .ok (.invokevirtual index, 3)) (hcs : cells ≤ R.cells ∧ slots ≤ R.slots) (hf : rm.cells = 0 ∧ rm.slots = 0)
    (kk : ∀ (H1 : Heap) (locs1 : List Loc), Wd G A (wd 0 G adx μx ++ wd 1 G adm μ1) H0 H1 locs1 → W p l e R s m args below meth c H1 locs1 cells slots Q (F0 m (pc + 3) ls (.int r0 :: rest))) : W p l e R s m args below meth c H locs cells slots Q (F0 m pc ls st0) := by
  have he : (wd 0 G adx μx ++ wd 1 G adm μm)[161]? = some (adm 0, .inr (11, fsOf adm μm 0 11)) := by
    rw [List.getElem?_append_right (by rw [wd_len]; exact Nat.le_refl _), wd_len]; exact wd_ob shm_0
  refine r_callVI cx hw hA hM ((List.range 90).map (fun i => i + 161)) (List.range 161) (wr := wd 0 G adx μx) (ap_r (wd_len (w := 0)) (wd_len (w := 1))) nd_m (ap_l (wd_len (w := 0))) nd_x dis_x 161 he hc h1 h2 h3 h4 h5 hC0 hd hn hRm hls hst hstk hdg ⟨by rw [hf.1]; exact hcs.1, by rw [hf.2]; exact hcs.2⟩ (fun r u H1 locs1 hp hw1 => ?_)
  subst hp
  rw [hf.1, hf.2]
  exact kk H1 locs1 hw1
end LawRows
