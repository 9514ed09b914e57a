/-! THE MEMORY: every cell of the class and of the reference by its number; ints, longs, references that change -/
abbrev Mem : Type := (Nat → Nat → Int32) × (Nat → Nat → Int64) × (Nat → Nat → Nat)
def shL : Nat → List (Nat × Nat)
  | 0 => [(0, 10), (1, 800), (0, 2), (1, 432), (1, 72), (1, 72), (1, 2472), (1, 2472), (1, 2472), (0, 2), (1, 432), (1, 72), (1, 72), (1, 2472), (1, 2472), (1, 2472), (0, 3), (1, 32), (0, 1), (3, 30), (3, 30), (0, 1), (3, 30), (3, 30), (0, 1), (3, 30), (3, 30), (0, 1), (3, 30), (3, 30), (0, 7), (3, 30200), (3, 30200), (1, 30200), (1, 30200), (3, 264), (3, 2480), (3, 992), (1, 31), (0, 4), (1, 2400), (3, 3000), (1, 672), (1, 672), (3, 672), (1, 96), (4, 24), (0, 1), (3, 200), (3, 200), (0, 1), (3, 200), (3, 200), (0, 1), (3, 200), (3, 200), (0, 1), (3, 200), (3, 200), (0, 1), (3, 200), (3, 200), (0, 1), (3, 200), (3, 200), (0, 1), (3, 200), (3, 200), (0, 1), (3, 200), (3, 200), (0, 1), (3, 200), (3, 200), (0, 1), (3, 200), (3, 200), (0, 1), (3, 200), (3, 200), (0, 1), (3, 200), (3, 200), (0, 1), (3, 200), (3, 200), (0, 1), (3, 200), (3, 200), (0, 1), (3, 200), (3, 200), (0, 1), (3, 200), (3, 200), (0, 1), (3, 200), (3, 200), (0, 1), (3, 200), (3, 200), (0, 1), (3, 200), (3, 200), (0, 1), (3, 200), (3, 200), (0, 1), (3, 200), (3, 200), (0, 1), (3, 200), (3, 200), (0, 1), (3, 200), (3, 200), (0, 1), (3, 200), (3, 200), (0, 0), (3, 60), (1, 8), (0, 1), (3, 40), (3, 40), (0, 0), (3, 60), (1, 8), (0, 1), (3, 40), (3, 40), (0, 0), (3, 60), (1, 8), (0, 1), (3, 40), (3, 40), (0, 9), (1, 780), (3, 260), (3, 8), (3, 8), (0, 1), (3, 200), (3, 200), (0, 1), (3, 200), (3, 200), (0, 6), (3, 8), (3, 5), (0, 5), (3, 9548), (3, 8), (1, 744), (1, 744), (0, 1), (3, 40), (3, 40), (0, 8), (2, 40000)]
  | _ => [(0, 11), (2, 800), (1, 73), (1, 73), (1, 365), (1, 73), (1, 73), (1, 800), (1, 800), (1, 800), (1, 800), (1, 73), (1, 73), (1, 365), (1, 73), (1, 73), (1, 800), (1, 800), (1, 800), (1, 20), (1, 20), (1, 14), (1, 30), (1, 30), (1, 30), (1, 30), (1, 30), (1, 30), (1, 30), (1, 3), (1, 100000), (1, 100000), (1, 100000), (1, 100000), (1, 100000), (1, 300), (1, 8), (1, 6000), (1, 6000), (1, 6000), (1, 6000), (1, 500), (1, 8), (1, 60), (1, 60), (1, 5), (1, 960), (1, 960), (1, 960), (1, 960), (1, 960), (1, 960), (1, 960), (1, 4200), (1, 4200), (1, 200), (1, 200), (1, 25), (1, 25), (1, 25), (1, 5250), (1, 5250), (1, 25), (1, 25), (1, 25), (1, 25), (1, 25), (1, 210), (1, 210), (1, 210), (1, 210), (1, 210), (1, 210), (1, 6), (1, 41), (1, 41), (1, 10000), (1, 31), (1, 31), (1, 60), (1, 60), (1, 8), (1, 41), (1, 41), (1, 101), (1, 101), (1, 8), (1, 6), (2, 50000), (1, 210)]
def NC : Nat → Nat
  | 0 => 161
  | _ => 90
def sh (w i : Nat) : Nat × Nat := (shL w).getD i (9, 0)
def sk : Nat → List (Nat × Nat)
  | 0 => [(0, 0), (0, 0), (0, 0), (0, 0), (0, 0), (0, 0), (0, 0), (1, 1), (1, 2), (1, 3)]
  | 1 => [(1, 1), (1, 2), (0, 0), (0, 0)]
  | 2 => [(0, 0), (0, 0), (0, 0), (1, 1), (1, 2), (1, 3), (1, 4), (1, 5), (1, 6)]
  | 3 => [(2, 1), (0, 0), (0, 0), (0, 0), (3, 2), (2, 17), (0, 0)]
  | 4 => [(0, 0), (0, 0), (0, 0), (0, 0), (0, 0), (0, 0), (0, 0), (2, 40), (2, 41), (2, 42), (2, 43), (2, 44), (2, 45), (2, 46)]
  | 5 => [(2, 30), (2, 152), (2, 153), (2, 154), (2, 155), (0, 0), (0, 0), (2, 39), (3, 0)]
  | 6 => [(2, 30), (2, 149), (2, 150), (3, 2), (3, 0), (0, 0)]
  | 7 => [(2, 31), (2, 32), (2, 33), (2, 34), (2, 35), (0, 0), (2, 36), (0, 0), (2, 37), (2, 38), (0, 0)]
  | 8 => [(2, 160), (0, 0)]
  | 9 => [(0, 0), (0, 0), (0, 0), (2, 30), (2, 39), (3, 2), (0, 0), (0, 0), (0, 0), (0, 0), (2, 138), (2, 139), (0, 0), (0, 0), (3, 1), (3, 1), (2, 140), (2, 141)]
  | 10 => [(2, 1), (0, 0), (0, 0), (2, 16), (3, 2), (3, 2), (3, 1), (3, 1), (3, 1), (3, 1), (0, 0), (2, 137), (2, 39), (2, 148), (2, 151), (2, 119), (2, 125), (2, 131), (2, 156), (2, 159)]
  | 11 => [(0, 0), (0, 0), (2, 1), (0, 0), (0, 0), (0, 0), (0, 0), (0, 0), (2, 2), (2, 3), (2, 4), (2, 5), (2, 6), (2, 7), (2, 8), (2, 9), (2, 10), (0, 0), (0, 0), (2, 11), (2, 12), (2, 13), (2, 14), (2, 15), (2, 16), (2, 17), (2, 18), (0, 0), (0, 0), (2, 19), (2, 20), (2, 21), (0, 0), (2, 22), (2, 23), (2, 24), (0, 0), (0, 0), (2, 25), (2, 26), (2, 27), (2, 28), (0, 0), (0, 0), (0, 0), (0, 0), (0, 0), (0, 0), (0, 0), (0, 0), (2, 29), (2, 30), (2, 31), (2, 32), (2, 33), (2, 34), (0, 0), (2, 35), (0, 0), (2, 36), (2, 37), (2, 38), (2, 39), (2, 40), (2, 41), (0, 0), (0, 0), (0, 0), (0, 0), (0, 0), (2, 42), (2, 43), (2, 44), (0, 0), (2, 45), (0, 0), (0, 0), (0, 0), (2, 46), (2, 47), (2, 48), (2, 49), (2, 50), (2, 51), (2, 52), (2, 53), (2, 54), (0, 0), (0, 0), (0, 0), (0, 0), (0, 0), (0, 0), (0, 0), (0, 0), (0, 0), (0, 0), (0, 0), (2, 55), (2, 56), (2, 57), (2, 58), (2, 59), (2, 60), (2, 61), (2, 62), (2, 63), (2, 64), (2, 65), (2, 66), (0, 0), (0, 0), (2, 67), (2, 68), (2, 69), (2, 70), (2, 71), (2, 72), (0, 0), (2, 73), (2, 74), (2, 75), (0, 0), (2, 76), (2, 77), (2, 78), (0, 0), (2, 79), (2, 80), (2, 81), (2, 82), (2, 83), (0, 0), (0, 0), (2, 84), (2, 85), (2, 86), (2, 87), (2, 88), (0, 0), (2, 89)]
  | _ => []
def dfl : Nat → Nat
  | 2 => 2
  | 1 => 18
  | 0 => 119
  | 4 => 39
  | _ => 0
def sel (ci n : Nat) : Nat := if sh 0 n = (0, ci) then n else dfl ci
def ptc (k : Nat) : Nat := 47 + 3 * (k % 24)
def u2 {α : Type} (f : Nat → Nat → α) (i k : Nat) (v : α) : Nat → Nat → α := fun j => if j = i then (fun q => if q = k then v else f i q) else f j
def sF (μ : Mem) (i k : Nat) (v : Int32) : Mem := (u2 μ.1 i k v, μ.2.1, μ.2.2)
def sL (μ : Mem) (i k : Nat) (v : Int64) : Mem := (μ.1, u2 μ.2.1 i k v, μ.2.2)
def sR (μ : Mem) (i k j : Nat) : Mem := (μ.1, μ.2.1, u2 μ.2.2 i k j)
def sv (ad : Nat → Nat) (μ : Mem) (i k : Nat) (t : Nat × Nat) : Value := if t.1 = 0 then .int (μ.1 i k) else if t.1 = 1 then .ref (ad (i + t.2)) else if t.1 = 2 then .ref (ad t.2) else .ref (ad (sel t.2 (μ.2.2 i k)))
def mapI {α β : Type} (f : Nat → α → β) : Nat → List α → List β
  | _, [] => []
  | k, x :: xs => f k x :: mapI f (k + 1) xs
theorem mapI_len {α β : Type} (f : Nat → α → β) (k : Nat) (L : List α) : (mapI f k L).length = L.length := by
  induction L generalizing k with
  | nil => rfl
  | cons x xs ih => exact congrArg Nat.succ (ih (k + 1))
theorem mapI_at {α β : Type} (f : Nat → α → β) (k j : Nat) (L : List α) : (mapI f k L)[j]? = L[j]?.map (f (k + j)) := by
  induction L generalizing k j with
  | nil => rfl
  | cons x xs ih =>
    cases j with
    | zero => rfl
    | succ j =>
      have e : k + (j + 1) = k + 1 + j := by omega
      rw [e]
      exact ih (k + 1) j
def fsOf (ad : Nat → Nat) (μ : Mem) (i ci : Nat) : List Value := mapI (fun k u => sv ad μ i k u) 0 (sk ci)
def cellOf (G : Gt) (ad : Nat → Nat) (μ : Mem) (i : Nat) (t : Nat × Nat) : va_E :=
  if t.1 = 0 then ob t.2 (fsOf ad μ i t.2) else if t.1 = 1 then aI G t.2 (μ.1 i) else if t.1 = 2 then aB G t.2 (μ.1 i) else if t.1 = 3 then aJ G t.2 (μ.2.1 i) else aP G t.2 (fun k => if k < t.2 then some (ad (ptc k)) else none)
def wd (w : Nat) (G : Gt) (ad : Nat → Nat) (μ : Mem) : va_W := (List.range (NC w)).map (fun i => (ad i, cellOf G ad μ i (sh w i)))
theorem u2_ne {α : Type} {f : Nat → Nat → α} {i k j : Nat} {v : α} (h : j ≠ i) : u2 f i k v j = f j := if_neg h
theorem u2_at {α : Type} {f : Nat → Nat → α} {i k : Nat} {v : α} : u2 f i k v i = fun q => if q = k then v else f i q := if_pos rfl
theorem sh_len {w : Nat} : (shL w).length = NC w := by
  match w with
  | 0 => decide +kernel
  | n + 1 => exact (by decide +kernel : (shL 1).length = NC 1)
theorem sh_lt {w : Nat} {i : Nat} {t : Nat × Nat} (h : sh w i = t) (ht : t.1 < 9) : i < NC w := by
  rcases Nat.lt_or_ge i (NC w) with q | q
  · exact q
  · exfalso
    have e : sh w i = (9, 0) := by
      unfold sh
      rw [List.getD_eq_getElem?_getD, List.getElem?_eq_none (by rw [sh_len]; exact q)]; rfl
    rw [e] at h
    subst h
    exact absurd ht (by decide)
theorem wd_at {w : Nat} {G : Gt} {ad : Nat → Nat} {μ : Mem} {i : Nat} {t : Nat × Nat} (h : sh w i = t) (ht : t.1 < 9) : (wd w G ad μ)[i]? = some (ad i, cellOf G ad μ i t) := by
  have hi := sh_lt h ht
  unfold wd
  rw [List.getElem?_map, List.getElem?_range hi, Option.map_some, h]
theorem wd_ob {w : Nat} {G : Gt} {ad : Nat → Nat} {μ : Mem} {i ci : Nat} (h : sh w i = (0, ci)) : (wd w G ad μ)[i]? = some (ad i, .inr (ci, fsOf ad μ i ci)) := wd_at h (by simp)
theorem wd_I {w : Nat} {G : Gt} {ad : Nat → Nat} {μ : Mem} {i n : Nat} (h : sh w i = (1, n)) : (wd w G ad μ)[i]? = some (ad i, aI G n (μ.1 i)) := wd_at h (by simp)
theorem wd_B {w : Nat} {G : Gt} {ad : Nat → Nat} {μ : Mem} {i n : Nat} (h : sh w i = (2, n)) : (wd w G ad μ)[i]? = some (ad i, aB G n (μ.1 i)) := wd_at h (by simp)
theorem wd_J {w : Nat} {G : Gt} {ad : Nat → Nat} {μ : Mem} {i n : Nat} (h : sh w i = (3, n)) : (wd w G ad μ)[i]? = some (ad i, aJ G n (μ.2.1 i)) := wd_at h (by simp)
theorem wd_P {w : Nat} {G : Gt} {ad : Nat → Nat} {μ : Mem} {i n : Nat} (h : sh w i = (4, n)) : (wd w G ad μ)[i]? = some (ad i, aP G n (fun k => if k < n then some (ad (ptc k)) else none)) := wd_at h (by simp)
theorem fs_at {ad : Nat → Nat} {μ : Mem} {i ci k : Nat} {t : Nat × Nat} (h : (sk ci)[k]? = some t) : (fsOf ad μ i ci)[k]? = some (sv ad μ i k t) := by
  unfold fsOf
  rw [mapI_at, h, Nat.zero_add]; rfl
theorem fs_len {ad : Nat → Nat} {μ : Mem} {i ci : Nat} : (fsOf ad μ i ci).length = (sk ci).length := by unfold fsOf; rw [mapI_len]
theorem wd_set {w : Nat} {G : Gt} {ad : Nat → Nat} {μ μ' : Mem} {i : Nat} {x : va_E} (hi : i < NC w) (hx : x = cellOf G ad μ' i (sh w i)) (hne : ∀ j, j ≠ i → cellOf G ad μ' j (sh w j) = cellOf G ad μ j (sh w j)) : (wd w G ad μ).set i (ad i, x) = wd w G ad μ' := by
  subst hx
  apply List.ext_getElem?
  intro j
  rw [List.getElem?_set]
  unfold wd
  rw [List.getElem?_map, List.getElem?_map, List.length_map, List.length_range]
  by_cases e : i = j
  · subst e
    rw [if_pos rfl, if_pos hi, List.getElem?_range hi]; rfl
  · rw [if_neg e]
    rcases Nat.lt_or_ge j (NC w) with q | q
    · rw [List.getElem?_range q, Option.map_some, Option.map_some, hne j (fun z => e z.symm)]
    · rw [List.getElem?_eq_none (by rw [List.length_range]; exact q)]; rfl
theorem cell_F {G : Gt} {ad : Nat → Nat} {μ : Mem} {i k j : Nat} {v : Int32} {t : Nat × Nat} (h : j ≠ i) : cellOf G ad (sF μ i k v) j t = cellOf G ad μ j t := by
  unfold cellOf fsOf sv sF
  simp only [u2_ne h]
theorem cell_L {G : Gt} {ad : Nat → Nat} {μ : Mem} {i k j : Nat} {v : Int64} {t : Nat × Nat} (h : j ≠ i) : cellOf G ad (sL μ i k v) j t = cellOf G ad μ j t := by
  unfold cellOf fsOf sv sL
  simp only [u2_ne h]
theorem cell_R {G : Gt} {ad : Nat → Nat} {μ : Mem} {i k j : Nat} {v : Nat} {t : Nat × Nat} (h : j ≠ i) : cellOf G ad (sR μ i k v) j t = cellOf G ad μ j t := by
  unfold cellOf fsOf sv sR
  simp only [u2_ne h]
theorem fs_set {ad : Nat → Nat} {μ μ' : Mem} {i ci k : Nat} {t : Nat × Nat} {v : Value} (hk : (sk ci)[k]? = some t) (hv : v = sv ad μ' i k t) (hne : ∀ j u, j ≠ k → sv ad μ' i j u = sv ad μ i j u) : (fsOf ad μ i ci).set k v = fsOf ad μ' i ci := by
  subst hv
  apply List.ext_getElem?
  intro j
  rw [List.getElem?_set]
  have hlt : k < (sk ci).length := (List.getElem?_eq_some_iff.mp hk).1
  by_cases e : k = j
  · subst e
    rw [if_pos rfl, fs_len, if_pos hlt, fs_at hk]
  · rw [if_neg e]
    unfold fsOf
    rw [mapI_at, mapI_at, Nat.zero_add]
    cases (sk ci)[j]? with
    | none => rfl
    | some u => exact congrArg some (hne j u (fun z => e z.symm)).symm
theorem sv_F {ad : Nat → Nat} {μ : Mem} {i k j : Nat} {v : Int32} {u : Nat × Nat} (h : j ≠ k) : sv ad (sF μ i k v) i j u = sv ad μ i j u := by
  unfold sv sF
  simp only [u2_at, if_neg h]
theorem sv_R {ad : Nat → Nat} {μ : Mem} {i k j : Nat} {v : Nat} {u : Nat × Nat} (h : j ≠ k) : sv ad (sR μ i k v) i j u = sv ad μ i j u := by
  unfold sv sR
  simp only [u2_at, if_neg h]
theorem wd_setF {w : Nat} {G : Gt} {ad : Nat → Nat} {μ : Mem} {i ci k z : Nat} {v : Int32} (hi : sh w i = (0, ci)) (hk : (sk ci)[k]? = some (0, z)) : (wd w G ad μ).set i (ad i, .inr (ci, (fsOf ad μ i ci).set k (.int v))) = wd w G ad (sF μ i k v) := by
  refine wd_set (sh_lt hi (by simp)) ?_ (fun j h => cell_F h)
  rw [hi, fs_set (μ' := sF μ i k v) hk ?_ (fun j u h => sv_F h)]
  · rfl
  · show _ = sv ad _ i k (0, z)
    unfold sv sF
    simp only [u2_at, if_pos]
theorem wd_setR {w : Nat} {G : Gt} {ad : Nat → Nat} {μ : Mem} {i ci k cj j : Nat} (hi : sh w i = (0, ci)) (hk : (sk ci)[k]? = some (3, cj)) (hj : sh 0 j = (0, cj)) : (wd w G ad μ).set i (ad i, .inr (ci, (fsOf ad μ i ci).set k (.ref (ad j)))) = wd w G ad (sR μ i k j) := by
  refine wd_set (sh_lt hi (by simp)) ?_ (fun j h => cell_R h)
  rw [hi, fs_set (μ' := sR μ i k j) hk ?_ (fun j u h => sv_R h)]
  · rfl
  · show _ = sv ad _ i k (3, cj)
    unfold sv sR
    simp only [u2_at, if_pos]
    show _ = Value.ref (ad (sel cj j))
    unfold sel
    rw [if_pos hj]
theorem upd_u2 {f : Nat → Nat → Int32} {i k : Nat} {v : Int32} : upd (f i) k v = u2 f i k v i := by rw [u2_at]; rfl
theorem wd_setI {w : Nat} {G : Gt} {ad : Nat → Nat} {μ : Mem} {i n k : Nat} {v : Int32} (hi : sh w i = (1, n)) : (wd w G ad μ).set i (ad i, aI G n (upd (μ.1 i) k v)) = wd w G ad (sF μ i k v) := by
  refine wd_set (sh_lt hi (by simp)) ?_ (fun j h => cell_F h)
  rw [hi, upd_u2]; rfl
theorem wd_setB {w : Nat} {G : Gt} {ad : Nat → Nat} {μ : Mem} {i n k : Nat} {v : Int32} (hi : sh w i = (2, n)) : (wd w G ad μ).set i (ad i, aB G n (upd (μ.1 i) k v)) = wd w G ad (sF μ i k v) := by
  refine wd_set (sh_lt hi (by simp)) ?_ (fun j h => cell_F h)
  rw [hi, upd_u2]; rfl
theorem updL_u2 {f : Nat → Nat → Int64} {i k : Nat} {v : Int64} : vp_updL (f i) k v = u2 f i k v i := by rw [u2_at]; rfl
theorem wd_setJ {w : Nat} {G : Gt} {ad : Nat → Nat} {μ : Mem} {i n k : Nat} {v : Int64} (hi : sh w i = (3, n)) : (wd w G ad μ).set i (ad i, aJ G n (vp_updL (μ.2.1 i) k v)) = wd w G ad (sL μ i k v) := by
  refine wd_set (sh_lt hi (by simp)) ?_ (fun j h => cell_L h)
  rw [hi, updL_u2]; rfl
theorem sel_at {ci j : Nat} (h : sh 0 j = (0, ci)) : sel ci j = j := if_pos h
def inb (i : Int32) (n : Nat) : Bool := !(decide (i < 0) || decide (n ≤ i.toNatClampNeg))
theorem inb_in {i : Int32} {n : Nat} (h : inb i n = true) : vp_in i n := by
  unfold inb at h
  intro q
  rcases q with q | q <;> simp [q] at h
/-! what a method's function is made of -/
def bv {α β : Type} (x : α) (f : α → β) : β := f x
def gd {α : Type} (c : Bool) (x : Option α) : Option α := if c = true then x else none
def bd {α β : Type} (x : Option (α × Mem)) (f : α → Mem → Option β) : Option β := x.bind (fun q => f q.1 q.2)
def bw {β : Type} (x : Option Mem) (f : Mem → Option β) : Option β := x.bind f
def bs {α β : Type} (x : Option α) (f : α → Option β) : Option β := x.bind f
theorem bv_ex {α β : Type} {x : α} {f : α → β} {z : β} (h : bv x f = z) : ∃ y, y = x ∧ f y = z := ⟨x, rfl, h⟩
theorem gd_some {α : Type} {c : Bool} {x : Option α} {r : α} (h : gd c x = some r) : c = true ∧ x = some r := by
  unfold gd at h
  by_cases e : c = true
  · rw [if_pos e] at h; exact ⟨e, h⟩
  · rw [if_neg e] at h; cases h
theorem bd_some {α β : Type} {x : Option (α × Mem)} {f : α → Mem → Option β} {r : β} (h : bd x f = some r) : ∃ a μ, x = some (a, μ) ∧ f a μ = some r := by
  unfold bd at h
  cases x with
  | none => cases h
  | some q => exact ⟨q.1, q.2, rfl, h⟩
theorem bw_some {β : Type} {x : Option Mem} {f : Mem → Option β} {r : β} (h : bw x f = some r) : ∃ μ, x = some μ ∧ f μ = some r := by
  unfold bw at h
  cases x with
  | none => cases h
  | some q => exact ⟨q, rfl, h⟩
theorem bs_some {α β : Type} {x : Option α} {f : α → Option β} {r : β} (h : bs x f = some r) : ∃ a, x = some a ∧ f a = some r := by
  unfold bs at h
  cases x with
  | none => cases h
  | some q => exact ⟨q, rfl, h⟩
def imax (x y : Int32) : Int32 := if x < y then y else x
def imin (x y : Int32) : Int32 := if y < x then y else x
/-- the machine at a place of a body, with these locals, this stack, this world -/
def Bk (l : Launch) (cc : ByteArray) (mL : Nat) (own : String) (rt : Option FieldType) (rm : Room) (G : Gt) (av : List Value) (Qf : (Nat → Prop) → Array Value → State → Outcome → State → Prop) (ws : va_W) (pc : Nat) (lv : List (Nat × Value)) (st : List Value) : Prop :=
  ∀ (p : Program) (e : Env) (s : State) (m : MethodId) (below : List Frame) (meth : Method) (c : Code) (A : Nat → Prop) (ls : Array Slot) (H : Heap) (locs : List Loc), Cx p s m c av.toArray cc mL own G → meth.sig.returnType = rt → meth.locks = false → (∀ q : Nat, s.heap.size ≤ q → A q) → lv_has ls mL lv → Wd G A ws s.heap H locs → W p l e rm s m av.toArray below meth c H locs 0 0 (MQ below (Qf A) av.toArray s rm.cells rm.slots A) (F0 m pc ls st)
theorem Bk.mt {l : Launch} {cc : ByteArray} {own : String} {G : Gt} {y : MethodName} {mL : Nat} {rt : Option FieldType} {rm : Room} {av : List Value} {W0 : va_W} {Qf : (Nat → Prop) → Array Value → State → Outcome → State → Prop} (hy : plainName y.cls = true) (hown : y.cls = own) (hav : (lg_sl av).length ≤ mL) (hB : Bk l cc mL own rt rm G av Qf W0 0 (lv_args 0 av) []) : Mt l y cc mL rt rm G av W0 Qf :=
  Mt.of hy hown hav (fun p e s m below meth c A ls cx hr hlk _ hA hl hw => hB p e s m below meth c A ls s.heap [] cx hr hlk hA hl hw)
section MemRows
variable {p : Program} {l : Launch} {e : Env} {R : Room} {s : State} {m : MethodId} {args : Array Value} {below : List Frame} {meth : Method} {c : Code} {H : Heap} {locs : List Loc} {cells slots : Nat} {Q : State → Prop}
variable {cc : ByteArray} {pc : Nat} {ls : Array Slot} {rest : List Value} {A : Nat → Prop} {H0 : Heap} {nL : Nat} {own : String} {G : Gt} {ad : Nat → Nat} {μ : Mem} {γ : Type} {X : γ}
theorem g_get {w : Nat} (cx : Cx p s m c args cc nL own G) (hw : Wd G A (wd w G ad μ) H0 H locs) {C : String} {T : u_T} {N ci index i : Nat} (hin : ∀ w ∈ u_ws C T N, w ∈ lw_all) (hc : vwCl[ci]? = some (C, T, N)) (k : Nat) (hk : k < N) {t : Nat × Nat} (ht : (sk ci)[k]? = some t) {v : Value} (hi : sh w i = (0, ci)) (hv : sv ad μ i k t = v) (hlink : Cond.fieldLink own index (T k).1 (T k).2.1 (T k).2.2.1 ∈ lw_all) (hdg : decode cc pc = .ok (.getfield index, 3))
    (kk : W p l e R s m args below meth c H locs cells slots Q (F0 m (pc + 3) ls (v :: rest))) : W p l e R s m args below meth c H locs cells slots Q (F0 m pc ls (.ref (ad i) :: rest)) :=
  r_get cx hw hin hc i (wd_ob hi) k hk hlink ((fs_at ht).trans (congrArg some hv)) hdg kk
theorem g_put {w : Nat} (cx : Cx p s m c args cc nL own G) (hw : Wd G A (wd w G ad μ) H0 H locs) {C : String} {T : u_T} {N ci index i : Nat} (hin : ∀ w ∈ u_ws C T N, w ∈ lw_all) (hc : vwCl[ci]? = some (C, T, N)) {ty0 : Nat → FieldType} (hty : ∀ k, k < N → parseFieldDescriptor (T k).2.2.1 = some (ty0 k)) (hnm : ∀ a, a < N → ∀ b, b < N → a ≠ b → (T a).2.1 ≠ (T b).2.1) (k : Nat) (hk : k < N) {z : Nat} (ht : (sk ci)[k]? = some (0, z)) (hfin : (T k).2.2.2 = false) {v : Int32} (hn : narrow (ty0 k) (.int v) = .int v) (hfit : fits (ty0 k) (.int v) = true) (hi : sh w i = (0, ci)) {f : Mem → γ} (h : bv (sF μ i k v) f = X) (hlink : Cond.fieldLink own index (T k).1 (T k).2.1 (T k).2.2.1 ∈ lw_all) (hdg : decode cc pc = .ok (.putfield index, 3))
    (kk : ∀ (μ1 : Mem) (H1 : Heap) (locs1 : List Loc), f μ1 = X → Wd G A (wd w G ad μ1) H0 H1 locs1 → W p l e R s m args below meth c H1 locs1 cells slots Q (F0 m (pc + 3) ls rest)) : W p l e R s m args below meth c H locs cells slots Q (F0 m pc ls (.int v :: .ref (ad i) :: rest)) :=
  r_put cx hw hin hc hty hnm i (wd_ob hi) k hk hlink hfin hn hfit (by rw [fs_len]; exact (List.getElem?_eq_some_iff.mp ht).1) (wd_setF hi ht) hdg (fun H1 locs1 hw1 => kk (sF μ i k v) H1 locs1 h hw1)
theorem g_putR {w : Nat} (cx : Cx p s m c args cc nL own G) (hw : Wd G A (wd w G ad μ) H0 H locs) {C : String} {T : u_T} {N ci cj index i j : Nat} (hin : ∀ w ∈ u_ws C T N, w ∈ lw_all) (hc : vwCl[ci]? = some (C, T, N)) {ty0 : Nat → FieldType} (hty : ∀ k, k < N → parseFieldDescriptor (T k).2.2.1 = some (ty0 k)) (hnm : ∀ a, a < N → ∀ b, b < N → a ≠ b → (T a).2.1 ≠ (T b).2.1) (k : Nat) (hk : k < N) (ht : (sk ci)[k]? = some (3, cj)) (hfin : (T k).2.2.2 = false) (hn : narrow (ty0 k) (.ref (ad j)) = .ref (ad j)) (hfit : fits (ty0 k) (.ref (ad j)) = true) (hi : sh w i = (0, ci)) (hj : sh 0 j = (0, cj)) {f : Mem → γ} (h : bv (sR μ i k j) f = X) (hlink : Cond.fieldLink own index (T k).1 (T k).2.1 (T k).2.2.1 ∈ lw_all) (hdg : decode cc pc = .ok (.putfield index, 3))
    (kk : ∀ (μ1 : Mem) (H1 : Heap) (locs1 : List Loc), f μ1 = X → Wd G A (wd w G ad μ1) H0 H1 locs1 → W p l e R s m args below meth c H1 locs1 cells slots Q (F0 m (pc + 3) ls rest)) : W p l e R s m args below meth c H locs cells slots Q (F0 m pc ls (.ref (ad j) :: .ref (ad i) :: rest)) :=
  r_put cx hw hin hc hty hnm i (wd_ob hi) k hk hlink hfin hn hfit (by rw [fs_len]; exact (List.getElem?_eq_some_iff.mp ht).1) (wd_setR hi ht hj) hdg (fun H1 locs1 hw1 => kk (sR μ i k j) H1 locs1 h hw1)
theorem g_iald {w : Nat} (cx : Cx p s m c args cc nL own G) (hw : Wd G A (wd w G ad μ) H0 H locs) {n j : Nat} (hj : sh w j = (1, n)) {i : Int32} {x : Option γ} {r : γ} (h : gd (inb i n) x = some r) (hdg : decode cc pc = .ok (.iaload, 1))
    (kk : x = some r → W p l e R s m args below meth c H locs cells slots Q (F0 m (pc + 1) ls (.int (μ.1 j i.toNatClampNeg) :: rest))) : W p l e R s m args below meth c H locs cells slots Q (F0 m pc ls (.int i :: .ref (ad j) :: rest)) :=
  r_iald cx hw j (wd_I hj) (inb_in (gd_some h).1) rfl hdg (kk (gd_some h).2)
theorem g_bald {w : Nat} (cx : Cx p s m c args cc nL own G) (hw : Wd G A (wd w G ad μ) H0 H locs) {n j : Nat} (hj : sh w j = (2, n)) {i : Int32} {x : Option γ} {r : γ} (h : gd (inb i n) x = some r) (hdg : decode cc pc = .ok (.baload, 1))
    (kk : x = some r → W p l e R s m args below meth c H locs cells slots Q (F0 m (pc + 1) ls (.int (μ.1 j i.toNatClampNeg) :: rest))) : W p l e R s m args below meth c H locs cells slots Q (F0 m pc ls (.int i :: .ref (ad j) :: rest)) :=
  r_bald cx hw j (wd_B hj) (inb_in (gd_some h).1) rfl hdg (kk (gd_some h).2)
theorem g_lald {w : Nat} (cx : Cx p s m c args cc nL own G) (hw : Wd G A (wd w G ad μ) H0 H locs) {n j : Nat} (hj : sh w j = (3, n)) {i : Int32} {x : Option γ} {r : γ} (h : gd (inb i n) x = some r) (hdg : decode cc pc = .ok (.laload, 1))
    (kk : x = some r → W p l e R s m args below meth c H locs cells slots Q (F0 m (pc + 1) ls (.long (μ.2.1 j i.toNatClampNeg) :: rest))) : W p l e R s m args below meth c H locs cells slots Q (F0 m pc ls (.int i :: .ref (ad j) :: rest)) :=
  r_lald cx hw j (wd_J hj) (inb_in (gd_some h).1) rfl hdg (kk (gd_some h).2)
theorem g_aald {w : Nat} (cx : Cx p s m c args cc nL own G) (hw : Wd G A (wd w G ad μ) H0 H locs) {n j : Nat} (hj : sh w j = (4, n)) {i : Int32} {x : Option γ} {r : γ} (h : gd (inb i n) x = some r) (hdg : decode cc pc = .ok (.aaload, 1))
    (kk : x = some r → W p l e R s m args below meth c H locs cells slots Q (F0 m (pc + 1) ls (.ref (ad (ptc i.toNatClampNeg)) :: rest))) : W p l e R s m args below meth c H locs cells slots Q (F0 m pc ls (.int i :: .ref (ad j) :: rest)) := by
  have hin := inb_in (gd_some h).1
  have hlt : i.toNatClampNeg < n := Nat.not_le.mp fun q => hin (Or.inr q)
  refine va_aldq cx.1 cx.2.1 cx.2.2.2.2.2.1 hw.1 j 3 (wd_P hj) rfl hin hdg ?_
  show W p l e R s m args below meth c H locs cells slots Q (F0 m (pc + 1) ls (va_rf (if i.toNatClampNeg < n then some (ad (ptc i.toNatClampNeg)) else none) :: rest))
  rw [if_pos hlt]
  exact kk (gd_some h).2
theorem g_iast {w : Nat} (cx : Cx p s m c args cc nL own G) (hw : Wd G A (wd w G ad μ) H0 H locs) {n j : Nat} (hj : sh w j = (1, n)) {i v : Int32} {f : Mem → Option γ} {r : γ} (h : gd (inb i n) (bv (sF μ j i.toNatClampNeg v) f) = some r) (hdg : decode cc pc = .ok (.iastore, 1))
    (kk : ∀ (μ1 : Mem) (H1 : Heap) (locs1 : List Loc), f μ1 = some r → Wd G A (wd w G ad μ1) H0 H1 locs1 → W p l e R s m args below meth c H1 locs1 cells slots Q (F0 m (pc + 1) ls rest)) : W p l e R s m args below meth c H locs cells slots Q (F0 m pc ls (.int v :: .int i :: .ref (ad j) :: rest)) :=
  r_iast cx hw j (wd_I hj) (inb_in (gd_some h).1) (wd_setI hj) hdg (fun H1 locs1 hw1 => kk _ H1 locs1 (gd_some h).2 hw1)
theorem g_bast {w : Nat} (cx : Cx p s m c args cc nL own G) (hw : Wd G A (wd w G ad μ) H0 H locs) {n j : Nat} (hj : sh w j = (2, n)) {i v : Int32} {f : Mem → Option γ} {r : γ} (h : gd (inb i n) (bv (sF μ j i.toNatClampNeg (vp_nar .byte v)) f) = some r) (hdg : decode cc pc = .ok (.bastore, 1))
    (kk : ∀ (μ1 : Mem) (H1 : Heap) (locs1 : List Loc), f μ1 = some r → Wd G A (wd w G ad μ1) H0 H1 locs1 → W p l e R s m args below meth c H1 locs1 cells slots Q (F0 m (pc + 1) ls rest)) : W p l e R s m args below meth c H locs cells slots Q (F0 m pc ls (.int v :: .int i :: .ref (ad j) :: rest)) :=
  r_bast cx hw j (wd_B hj) (inb_in (gd_some h).1) (wd_setB hj) hdg (fun H1 locs1 hw1 => kk _ H1 locs1 (gd_some h).2 hw1)
theorem g_last {w : Nat} (cx : Cx p s m c args cc nL own G) (hw : Wd G A (wd w G ad μ) H0 H locs) {n j : Nat} (hj : sh w j = (3, n)) {i : Int32} {v : Int64} {f : Mem → Option γ} {r : γ} (h : gd (inb i n) (bv (sL μ j i.toNatClampNeg v) f) = some r) (hdg : decode cc pc = .ok (.lastore, 1))
    (kk : ∀ (μ1 : Mem) (H1 : Heap) (locs1 : List Loc), f μ1 = some r → Wd G A (wd w G ad μ1) H0 H1 locs1 → W p l e R s m args below meth c H1 locs1 cells slots Q (F0 m (pc + 1) ls rest)) : W p l e R s m args below meth c H locs cells slots Q (F0 m pc ls (.long v :: .int i :: .ref (ad j) :: rest)) :=
  r_last cx hw j (wd_J hj) (inb_in (gd_some h).1) (wd_setJ hj) hdg (fun H1 locs1 hw1 => kk _ H1 locs1 (gd_some h).2 hw1)
theorem g_alen1 {w : Nat} (cx : Cx p s m c args cc nL own G) (hw : Wd G A (wd w G ad μ) H0 H locs) {n j : Nat} (hj : sh w j = (1, n)) {v : Int32} (hv : Int32.ofNat n = v) (hdg : decode cc pc = .ok (.arraylength, 1))
    (kk : W p l e R s m args below meth c H locs cells slots Q (F0 m (pc + 1) ls (.int v :: rest))) : W p l e R s m args below meth c H locs cells slots Q (F0 m pc ls (.ref (ad j) :: rest)) := r_alenI cx hw j (wd_I hj) hv hdg kk
theorem g_alen3 {w : Nat} (cx : Cx p s m c args cc nL own G) (hw : Wd G A (wd w G ad μ) H0 H locs) {n j : Nat} (hj : sh w j = (3, n)) {v : Int32} (hv : Int32.ofNat n = v) (hdg : decode cc pc = .ok (.arraylength, 1))
    (kk : W p l e R s m args below meth c H locs cells slots Q (F0 m (pc + 1) ls (.int v :: rest))) : W p l e R s m args below meth c H locs cells slots Q (F0 m pc ls (.ref (ad j) :: rest)) := r_alenJ cx hw j (wd_J hj) hv hdg kk
end MemRows
section MemRets
variable {p : Program} {l : Launch} {e : Env} {R : Room} {s : State} {m : MethodId} {args : Array Value} {below : List Frame} {meth : Method} {c : Code} {H : Heap} {locs : List Loc}
variable {cc : ByteArray} {pc : Nat} {ls : Array Slot} {A : Nat → Prop} {nL : Nat} {own : String} {G : Gt} {ad : Nat → Nat} {μ μ' : Mem} {mc ms : Nat}
abbrev eI (w : Nat) (G : Gt) (ad : Nat → Nat) (r : Int32) (μ' : Mem) := qI G (fun z (_ : Unit) => z = r) (fun _ => wd w G ad μ')
abbrev eL (w : Nat) (G : Gt) (ad : Nat → Nat) (r : Int64) (μ' : Mem) := qL G (fun z (_ : Unit) => z = r) (fun _ => wd w G ad μ')
abbrev eV (w : Nat) (G : Gt) (ad : Nat → Nat) (μ' : Mem) := qV G (fun (_ : Unit) => True) (fun _ => wd w G ad μ')
abbrev eR (w : Nat) (G : Gt) (ad : Nat → Nat) (r : Nat) (μ' : Mem) : (Nat → Prop) → Array Value → State → Outcome → State → Prop := fun A => va_Qr (S := Unit) (fun _ => True) (fun _ a t => a = ad r ∧ va_P G.1 vwCl (wd w G ad μ') t.heap ∧ va_D A (wd w G ad μ')) A
abbrev sI (G : Gt) (r : Int32) := qI G (fun z (_ : Unit) => z = r) (fun _ => ([] : va_W))
abbrev sJ (G : Gt) (r : Int64) := qL G (fun z (_ : Unit) => z = r) (fun _ => ([] : va_W))
theorem g_iret {w : Nat} {v r : Int32} (cx : Cx p s m c args cc nL own G) (hr : meth.sig.returnType = some .int) (hlk : meth.locks = false) (hw : Wd G A (wd w G ad μ) s.heap H locs) (h : some (v, μ) = some (r, μ')) (hdg : decode cc pc = .ok (.ireturn, 1)) : W p l e R s m args below meth c H locs 0 0 (MQ below (eI w G ad r μ' A) args s mc ms A) (F0 m pc ls [.int v]) := by
  cases h
  exact r_iret cx hr hlk () rfl hw (Nat.zero_le _) (Nat.zero_le _) hdg
theorem g_zret {w : Nat} {v r : Int32} {ty : FieldType} (cx : Cx p s m c args cc nL own G) (hr : meth.sig.returnType = some ty) (hlk : meth.locks = false) (hn : narrow ty (.int v) = .int v) (hw : Wd G A (wd w G ad μ) s.heap H locs) (h : some (v, μ) = some (r, μ')) (hdg : decode cc pc = .ok (.ireturn, 1)) : W p l e R s m args below meth c H locs 0 0 (MQ below (eI w G ad r μ' A) args s mc ms A) (F0 m pc ls [.int v]) := by
  cases h
  exact r_zret cx hr hn hlk () rfl hw (Nat.zero_le _) (Nat.zero_le _) hdg
theorem g_lret {w : Nat} {v r : Int64} (cx : Cx p s m c args cc nL own G) (hr : meth.sig.returnType = some .long) (hlk : meth.locks = false) (hw : Wd G A (wd w G ad μ) s.heap H locs) (h : some (v, μ) = some (r, μ')) (hdg : decode cc pc = .ok (.lreturn, 1)) : W p l e R s m args below meth c H locs 0 0 (MQ below (eL w G ad r μ' A) args s mc ms A) (F0 m pc ls [.long v]) := by
  cases h
  exact r_lret cx hr hlk () rfl hw (Nat.zero_le _) (Nat.zero_le _) hdg
theorem g_vret {w : Nat} (cx : Cx p s m c args cc nL own G) (hr : meth.sig.returnType = none) (hlk : meth.locks = false) (hw : Wd G A (wd w G ad μ) s.heap H locs) (h : some μ = some μ') (hdg : decode cc pc = .ok (.return_, 1)) : W p l e R s m args below meth c H locs 0 0 (MQ below (eV w G ad μ' A) args s mc ms A) (F0 m pc ls []) := by
  cases h
  exact r_vret cx hr hlk () trivial hw (Nat.zero_le _) (Nat.zero_le _) hdg
theorem s_iret {v r : Int32} (cx : Cx p s m c args cc nL own G) (hr : meth.sig.returnType = some .int) (hlk : meth.locks = false) (hw : Wd G A [] s.heap H locs) (h : v = r) (hdg : decode cc pc = .ok (.ireturn, 1)) : W p l e R s m args below meth c H locs 0 0 (MQ below (sI G r A) args s mc ms A) (F0 m pc ls [.int v]) := by
  cases h
  exact r_iret cx hr hlk () rfl hw (Nat.zero_le _) (Nat.zero_le _) hdg
theorem s_zret {v r : Int32} {ty : FieldType} (cx : Cx p s m c args cc nL own G) (hr : meth.sig.returnType = some ty) (hlk : meth.locks = false) (hn : narrow ty (.int v) = .int v) (hw : Wd G A [] s.heap H locs) (h : v = r) (hdg : decode cc pc = .ok (.ireturn, 1)) : W p l e R s m args below meth c H locs 0 0 (MQ below (sI G r A) args s mc ms A) (F0 m pc ls [.int v]) := by
  cases h
  exact r_zret cx hr hn hlk () rfl hw (Nat.zero_le _) (Nat.zero_le _) hdg
theorem s_lret {v r : Int64} (cx : Cx p s m c args cc nL own G) (hr : meth.sig.returnType = some .long) (hlk : meth.locks = false) (hw : Wd G A [] s.heap H locs) (h : v = r) (hdg : decode cc pc = .ok (.lreturn, 1)) : W p l e R s m args below meth c H locs 0 0 (MQ below (sJ G r A) args s mc ms A) (F0 m pc ls [.long v]) := by
  cases h
  exact r_lret cx hr hlk () rfl hw (Nat.zero_le _) (Nat.zero_le _) hdg
end MemRets
