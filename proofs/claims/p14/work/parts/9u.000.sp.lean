section
def Cd6 (tf : Nat → Option Th3) (cf : Nat → Option Th3) (x0 : Nat) (x1 : Nat) (x2 : List Int32) (x3 : Nat) (x4 : Nat) (x5 : Nat) (x6 : Nat) : Prop := ∀ P : (Nat) → (Nat) → (List Int32) → (Nat) → (Nat) → (Nat) → (Nat) → Prop, (∀ (r : Nat) (N : List Int32) (i : Nat) (c : Nat), P (r) (0) (N) (i) (i) (c) (c)) → (∀ (r : Nat) (N : List Int32) (i : Nat) (c : Nat) (k : Nat) (m : Nat) (j : Nat) (d : Nat) (e : Nat), (P (r) (k) (N) (i) (m) (c) (d)) → (P (r) (1) (N) (m) (j) (d) (e)) → P (r) (k + 1) (N) (i) (j) (c) (e)) → (∀ (r : Nat) (N : List Int32) (i : Nat) (c : Nat) (s : Int32) (b : Int32), (tf i = some (s, b, 0)) → (cf c = some (0, s, b)) → (s = 0 ∨ s = 1) → P (r + 1) (1) (N) (i) (i + 1) (c) (c + 1)) → (∀ (r : Nat) (N : List Int32) (i : Nat) (c : Nat) (a : Int32), (tf i = some (4, a - 109, 0)) → (cf c = some (1, Int32.ofNat (slt N a), 0)) → (a ∈ N) → P (r + 1) (1) (N) (i) (i + 1) (c) (c + 1)) → (∀ (r : Nat) (N : List Int32) (i : Nat) (c : Nat) (d : Int32), (tf i = some (10, d, 0)) → (cf c = some (11, d, 0)) → (0 ≤ d.toInt ∧ d.toInt ≤ 7) → P (r + 1) (1) (N) (i) (i + 1) (c) (c + 1)) → (∀ (r : Nat) (N : List Int32) (i : Nat) (c : Nat) (h : Int32) (j : Nat) (e : Nat), (tf i = some (oneT h)) → (P (r) (1) (N) (i + 1) (j) (c) (e)) → (cf e = some (oneC h)) → (isT1 h = true) → P (r + 1) (1) (N) (i) (j) (c) (e + 1)) → (∀ (r : Nat) (N : List Int32) (i : Nat) (c : Nat) (d : Int32) (j : Nat) (e : Nat), (tf i = some (9, d, 1)) → (P (r) (1) (N) (i + 1) (j) (c) (e)) → (cf e = some (10, d, 0)) → (0 ≤ d.toInt ∧ d.toInt ≤ 7) → P (r + 1) (1) (N) (i) (j) (c) (e + 1)) → (∀ (r : Nat) (N : List Int32) (i : Nat) (c : Nat) (s : Int32) (m : Nat) (d : Nat) (j : Nat) (e : Nat), (tf i = some (5, s, 2)) → (P (r) (1) (N) (i + 1) (m) (c) (d)) → (P (r) (1) (N) (m) (j) (d) (e)) → (cf e = some (2, s, 0)) → (isSg s = true) → P (r + 1) (1) (N) (i) (j) (c) (e + 1)) → (∀ (r : Nat) (N : List Int32) (i : Nat) (c : Nat) (m : Nat) (d : Nat) (j : Nat) (e : Nat), (tf i = some (2, 0, 2)) → (P (r) (1) (N) (i + 1) (m) (c) (d)) → (P (r) (1) (N) (m) (j) (d) (e)) → (cf e = some (5, 0, 0)) → P (r + 1) (1) (N) (i) (j) (c) (e + 1)) → (∀ (r : Nat) (N : List Int32) (i : Nat) (c : Nat) (m : Nat) (d : Nat) (m2 : Nat) (d2 : Nat) (j : Nat) (e : Nat), (tf i = some (7, 0, 3)) → (P (r) (1) (N) (i + 1) (m) (c) (d)) → (cf d = some (6, Int32.ofNat (d2 + 1), 0)) → (P (r) (1) (N) (m) (m2) (d + 1) (d2)) → (cf d2 = some (7, Int32.ofNat (e + 1), 0)) → (P (r) (1) (N) (m2) (j) (d2 + 1) (e)) → (cf e = some (8, 0, 0)) → P (r + 1) (1) (N) (i) (j) (c) (e + 1)) → (∀ (r : Nat) (N : List Int32) (i : Nat) (c : Nat) (a0 : Int32) (m : Nat) (d : Nat) (j : Nat) (e : Nat), (tf i = some (11, a0 - 109, 2)) → (isVa a0 = true ∧ N.length < 25) → (P (r) (1) (N) (i + 1) (m) (c) (d)) → (cf d = some (12, Int32.ofNat N.length, 0)) → (P (r) (1) (a0 :: N) (m) (j) (d + 1) (e)) → P (r + 1) (1) (N) (i) (j) (c) (e)) → (∀ (r : Nat) (N : List Int32) (i : Nat) (c : Nat) (l : Int32) (n : Nat) (j : Nat) (e : Nat), (tf i = some (12, l - 97 + 1, Int32.ofNat n)) → (isL l = true ∧ n ≤ 5) → (P (r) (n) (N) (i + 1) (j) (c) (e)) → (cf e = some (13, (l - 97) * 6 + Int32.ofNat n, Int32.ofNat n)) → P (r + 1) (1) (N) (i) (j) (c) (e + 1)) →  P x0 x1 x2 x3 x4 x5 x6
theorem Cd6.nil {tf : Nat → Option Th3} {cf : Nat → Option Th3} {r : Nat} {N : List Int32} {i : Nat} {c : Nat}  : Cd6 tf cf (r) (0) (N) (i) (i) (c) (c) := fun P h_nil h_more h_num h_var h_get h_one h_put h_sgn h_pair h_cho h_let h_call => h_nil r N i c 
theorem Cd6.more {tf : Nat → Option Th3} {cf : Nat → Option Th3} {r : Nat} {N : List Int32} {i : Nat} {c : Nat} {k : Nat} {m : Nat} {j : Nat} {d : Nat} {e : Nat} (a : Cd6 tf cf (r) (k) (N) (i) (m) (c) (d)) (b : Cd6 tf cf (r) (1) (N) (m) (j) (d) (e)) : Cd6 tf cf (r) (k + 1) (N) (i) (j) (c) (e) := fun P h_nil h_more h_num h_var h_get h_one h_put h_sgn h_pair h_cho h_let h_call => h_more r N i c k m j d e (a P h_nil h_more h_num h_var h_get h_one h_put h_sgn h_pair h_cho h_let h_call) (b P h_nil h_more h_num h_var h_get h_one h_put h_sgn h_pair h_cho h_let h_call)
theorem Cd6.num {tf : Nat → Option Th3} {cf : Nat → Option Th3} {r : Nat} {N : List Int32} {i : Nat} {c : Nat} {s : Int32} {b : Int32} (h1 : tf i = some (s, b, 0)) (h2 : cf c = some (0, s, b)) (h3 : s = 0 ∨ s = 1) : Cd6 tf cf (r + 1) (1) (N) (i) (i + 1) (c) (c + 1) := fun P h_nil h_more h_num h_var h_get h_one h_put h_sgn h_pair h_cho h_let h_call => h_num r N i c s b h1 h2 h3
theorem Cd6.var {tf : Nat → Option Th3} {cf : Nat → Option Th3} {r : Nat} {N : List Int32} {i : Nat} {c : Nat} {a : Int32} (h1 : tf i = some (4, a - 109, 0)) (h2 : cf c = some (1, Int32.ofNat (slt N a), 0)) (h3 : a ∈ N) : Cd6 tf cf (r + 1) (1) (N) (i) (i + 1) (c) (c + 1) := fun P h_nil h_more h_num h_var h_get h_one h_put h_sgn h_pair h_cho h_let h_call => h_var r N i c a h1 h2 h3
theorem Cd6.get {tf : Nat → Option Th3} {cf : Nat → Option Th3} {r : Nat} {N : List Int32} {i : Nat} {c : Nat} {d : Int32} (h1 : tf i = some (10, d, 0)) (h2 : cf c = some (11, d, 0)) (h3 : 0 ≤ d.toInt ∧ d.toInt ≤ 7) : Cd6 tf cf (r + 1) (1) (N) (i) (i + 1) (c) (c + 1) := fun P h_nil h_more h_num h_var h_get h_one h_put h_sgn h_pair h_cho h_let h_call => h_get r N i c d h1 h2 h3
theorem Cd6.one {tf : Nat → Option Th3} {cf : Nat → Option Th3} {r : Nat} {N : List Int32} {i : Nat} {c : Nat} {h : Int32} {j : Nat} {e : Nat} (h1 : tf i = some (oneT h)) (a : Cd6 tf cf (r) (1) (N) (i + 1) (j) (c) (e)) (h2 : cf e = some (oneC h)) (h3 : isT1 h = true) : Cd6 tf cf (r + 1) (1) (N) (i) (j) (c) (e + 1) := fun P h_nil h_more h_num h_var h_get h_one h_put h_sgn h_pair h_cho h_let h_call => h_one r N i c h j e h1 (a P h_nil h_more h_num h_var h_get h_one h_put h_sgn h_pair h_cho h_let h_call) h2 h3
theorem Cd6.put {tf : Nat → Option Th3} {cf : Nat → Option Th3} {r : Nat} {N : List Int32} {i : Nat} {c : Nat} {d : Int32} {j : Nat} {e : Nat} (h1 : tf i = some (9, d, 1)) (a : Cd6 tf cf (r) (1) (N) (i + 1) (j) (c) (e)) (h2 : cf e = some (10, d, 0)) (h3 : 0 ≤ d.toInt ∧ d.toInt ≤ 7) : Cd6 tf cf (r + 1) (1) (N) (i) (j) (c) (e + 1) := fun P h_nil h_more h_num h_var h_get h_one h_put h_sgn h_pair h_cho h_let h_call => h_put r N i c d j e h1 (a P h_nil h_more h_num h_var h_get h_one h_put h_sgn h_pair h_cho h_let h_call) h2 h3
theorem Cd6.sgn {tf : Nat → Option Th3} {cf : Nat → Option Th3} {r : Nat} {N : List Int32} {i : Nat} {c : Nat} {s : Int32} {m : Nat} {d : Nat} {j : Nat} {e : Nat} (h1 : tf i = some (5, s, 2)) (a : Cd6 tf cf (r) (1) (N) (i + 1) (m) (c) (d)) (b : Cd6 tf cf (r) (1) (N) (m) (j) (d) (e)) (h2 : cf e = some (2, s, 0)) (h3 : isSg s = true) : Cd6 tf cf (r + 1) (1) (N) (i) (j) (c) (e + 1) := fun P h_nil h_more h_num h_var h_get h_one h_put h_sgn h_pair h_cho h_let h_call => h_sgn r N i c s m d j e h1 (a P h_nil h_more h_num h_var h_get h_one h_put h_sgn h_pair h_cho h_let h_call) (b P h_nil h_more h_num h_var h_get h_one h_put h_sgn h_pair h_cho h_let h_call) h2 h3
theorem Cd6.pair {tf : Nat → Option Th3} {cf : Nat → Option Th3} {r : Nat} {N : List Int32} {i : Nat} {c : Nat} {m : Nat} {d : Nat} {j : Nat} {e : Nat} (h1 : tf i = some (2, 0, 2)) (a : Cd6 tf cf (r) (1) (N) (i + 1) (m) (c) (d)) (b : Cd6 tf cf (r) (1) (N) (m) (j) (d) (e)) (h2 : cf e = some (5, 0, 0)) : Cd6 tf cf (r + 1) (1) (N) (i) (j) (c) (e + 1) := fun P h_nil h_more h_num h_var h_get h_one h_put h_sgn h_pair h_cho h_let h_call => h_pair r N i c m d j e h1 (a P h_nil h_more h_num h_var h_get h_one h_put h_sgn h_pair h_cho h_let h_call) (b P h_nil h_more h_num h_var h_get h_one h_put h_sgn h_pair h_cho h_let h_call) h2
theorem Cd6.cho {tf : Nat → Option Th3} {cf : Nat → Option Th3} {r : Nat} {N : List Int32} {i : Nat} {c : Nat} {m : Nat} {d : Nat} {m2 : Nat} {d2 : Nat} {j : Nat} {e : Nat} (h1 : tf i = some (7, 0, 3)) (a : Cd6 tf cf (r) (1) (N) (i + 1) (m) (c) (d)) (h2 : cf d = some (6, Int32.ofNat (d2 + 1), 0)) (b : Cd6 tf cf (r) (1) (N) (m) (m2) (d + 1) (d2)) (h3 : cf d2 = some (7, Int32.ofNat (e + 1), 0)) (b2 : Cd6 tf cf (r) (1) (N) (m2) (j) (d2 + 1) (e)) (h4 : cf e = some (8, 0, 0)) : Cd6 tf cf (r + 1) (1) (N) (i) (j) (c) (e + 1) := fun P h_nil h_more h_num h_var h_get h_one h_put h_sgn h_pair h_cho h_let h_call => h_cho r N i c m d m2 d2 j e h1 (a P h_nil h_more h_num h_var h_get h_one h_put h_sgn h_pair h_cho h_let h_call) h2 (b P h_nil h_more h_num h_var h_get h_one h_put h_sgn h_pair h_cho h_let h_call) h3 (b2 P h_nil h_more h_num h_var h_get h_one h_put h_sgn h_pair h_cho h_let h_call) h4
theorem Cd6.let {tf : Nat → Option Th3} {cf : Nat → Option Th3} {r : Nat} {N : List Int32} {i : Nat} {c : Nat} {a0 : Int32} {m : Nat} {d : Nat} {j : Nat} {e : Nat} (h1 : tf i = some (11, a0 - 109, 2)) (h2 : isVa a0 = true ∧ N.length < 25) (a : Cd6 tf cf (r) (1) (N) (i + 1) (m) (c) (d)) (h3 : cf d = some (12, Int32.ofNat N.length, 0)) (b : Cd6 tf cf (r) (1) (a0 :: N) (m) (j) (d + 1) (e)) : Cd6 tf cf (r + 1) (1) (N) (i) (j) (c) (e) := fun P h_nil h_more h_num h_var h_get h_one h_put h_sgn h_pair h_cho h_let h_call => h_let r N i c a0 m d j e h1 h2 (a P h_nil h_more h_num h_var h_get h_one h_put h_sgn h_pair h_cho h_let h_call) h3 (b P h_nil h_more h_num h_var h_get h_one h_put h_sgn h_pair h_cho h_let h_call)
theorem Cd6.call {tf : Nat → Option Th3} {cf : Nat → Option Th3} {r : Nat} {N : List Int32} {i : Nat} {c : Nat} {l : Int32} {n : Nat} {j : Nat} {e : Nat} (h1 : tf i = some (12, l - 97 + 1, Int32.ofNat n)) (h2 : isL l = true ∧ n ≤ 5) (a : Cd6 tf cf (r) (n) (N) (i + 1) (j) (c) (e)) (h3 : cf e = some (13, (l - 97) * 6 + Int32.ofNat n, Int32.ofNat n)) : Cd6 tf cf (r + 1) (1) (N) (i) (j) (c) (e + 1) := fun P h_nil h_more h_num h_var h_get h_one h_put h_sgn h_pair h_cho h_let h_call => h_call r N i c l n j e h1 h2 (a P h_nil h_more h_num h_var h_get h_one h_put h_sgn h_pair h_cho h_let h_call) h3
theorem Cd6.ind {tf : Nat → Option Th3} {cf : Nat → Option Th3} {M : (Nat) → (Nat) → (List Int32) → (Nat) → (Nat) → (Nat) → (Nat) → Prop} (c_nil : ∀ (r : Nat) (N : List Int32) (i : Nat) (c : Nat), M (r) (0) (N) (i) (i) (c) (c)) (c_more : ∀ (r : Nat) (N : List Int32) (i : Nat) (c : Nat) (k : Nat) (m : Nat) (j : Nat) (d : Nat) (e : Nat), (Cd6 tf cf (r) (k) (N) (i) (m) (c) (d)) → (M (r) (k) (N) (i) (m) (c) (d)) → (Cd6 tf cf (r) (1) (N) (m) (j) (d) (e)) → (M (r) (1) (N) (m) (j) (d) (e)) → M (r) (k + 1) (N) (i) (j) (c) (e)) (c_num : ∀ (r : Nat) (N : List Int32) (i : Nat) (c : Nat) (s : Int32) (b : Int32), (tf i = some (s, b, 0)) → (cf c = some (0, s, b)) → (s = 0 ∨ s = 1) → M (r + 1) (1) (N) (i) (i + 1) (c) (c + 1)) (c_var : ∀ (r : Nat) (N : List Int32) (i : Nat) (c : Nat) (a : Int32), (tf i = some (4, a - 109, 0)) → (cf c = some (1, Int32.ofNat (slt N a), 0)) → (a ∈ N) → M (r + 1) (1) (N) (i) (i + 1) (c) (c + 1)) (c_get : ∀ (r : Nat) (N : List Int32) (i : Nat) (c : Nat) (d : Int32), (tf i = some (10, d, 0)) → (cf c = some (11, d, 0)) → (0 ≤ d.toInt ∧ d.toInt ≤ 7) → M (r + 1) (1) (N) (i) (i + 1) (c) (c + 1)) (c_one : ∀ (r : Nat) (N : List Int32) (i : Nat) (c : Nat) (h : Int32) (j : Nat) (e : Nat), (tf i = some (oneT h)) → (Cd6 tf cf (r) (1) (N) (i + 1) (j) (c) (e)) → (M (r) (1) (N) (i + 1) (j) (c) (e)) → (cf e = some (oneC h)) → (isT1 h = true) → M (r + 1) (1) (N) (i) (j) (c) (e + 1)) (c_put : ∀ (r : Nat) (N : List Int32) (i : Nat) (c : Nat) (d : Int32) (j : Nat) (e : Nat), (tf i = some (9, d, 1)) → (Cd6 tf cf (r) (1) (N) (i + 1) (j) (c) (e)) → (M (r) (1) (N) (i + 1) (j) (c) (e)) → (cf e = some (10, d, 0)) → (0 ≤ d.toInt ∧ d.toInt ≤ 7) → M (r + 1) (1) (N) (i) (j) (c) (e + 1)) (c_sgn : ∀ (r : Nat) (N : List Int32) (i : Nat) (c : Nat) (s : Int32) (m : Nat) (d : Nat) (j : Nat) (e : Nat), (tf i = some (5, s, 2)) → (Cd6 tf cf (r) (1) (N) (i + 1) (m) (c) (d)) → (M (r) (1) (N) (i + 1) (m) (c) (d)) → (Cd6 tf cf (r) (1) (N) (m) (j) (d) (e)) → (M (r) (1) (N) (m) (j) (d) (e)) → (cf e = some (2, s, 0)) → (isSg s = true) → M (r + 1) (1) (N) (i) (j) (c) (e + 1)) (c_pair : ∀ (r : Nat) (N : List Int32) (i : Nat) (c : Nat) (m : Nat) (d : Nat) (j : Nat) (e : Nat), (tf i = some (2, 0, 2)) → (Cd6 tf cf (r) (1) (N) (i + 1) (m) (c) (d)) → (M (r) (1) (N) (i + 1) (m) (c) (d)) → (Cd6 tf cf (r) (1) (N) (m) (j) (d) (e)) → (M (r) (1) (N) (m) (j) (d) (e)) → (cf e = some (5, 0, 0)) → M (r + 1) (1) (N) (i) (j) (c) (e + 1)) (c_cho : ∀ (r : Nat) (N : List Int32) (i : Nat) (c : Nat) (m : Nat) (d : Nat) (m2 : Nat) (d2 : Nat) (j : Nat) (e : Nat), (tf i = some (7, 0, 3)) → (Cd6 tf cf (r) (1) (N) (i + 1) (m) (c) (d)) → (M (r) (1) (N) (i + 1) (m) (c) (d)) → (cf d = some (6, Int32.ofNat (d2 + 1), 0)) → (Cd6 tf cf (r) (1) (N) (m) (m2) (d + 1) (d2)) → (M (r) (1) (N) (m) (m2) (d + 1) (d2)) → (cf d2 = some (7, Int32.ofNat (e + 1), 0)) → (Cd6 tf cf (r) (1) (N) (m2) (j) (d2 + 1) (e)) → (M (r) (1) (N) (m2) (j) (d2 + 1) (e)) → (cf e = some (8, 0, 0)) → M (r + 1) (1) (N) (i) (j) (c) (e + 1)) (c_let : ∀ (r : Nat) (N : List Int32) (i : Nat) (c : Nat) (a0 : Int32) (m : Nat) (d : Nat) (j : Nat) (e : Nat), (tf i = some (11, a0 - 109, 2)) → (isVa a0 = true ∧ N.length < 25) → (Cd6 tf cf (r) (1) (N) (i + 1) (m) (c) (d)) → (M (r) (1) (N) (i + 1) (m) (c) (d)) → (cf d = some (12, Int32.ofNat N.length, 0)) → (Cd6 tf cf (r) (1) (a0 :: N) (m) (j) (d + 1) (e)) → (M (r) (1) (a0 :: N) (m) (j) (d + 1) (e)) → M (r + 1) (1) (N) (i) (j) (c) (e)) (c_call : ∀ (r : Nat) (N : List Int32) (i : Nat) (c : Nat) (l : Int32) (n : Nat) (j : Nat) (e : Nat), (tf i = some (12, l - 97 + 1, Int32.ofNat n)) → (isL l = true ∧ n ≤ 5) → (Cd6 tf cf (r) (n) (N) (i + 1) (j) (c) (e)) → (M (r) (n) (N) (i + 1) (j) (c) (e)) → (cf e = some (13, (l - 97) * 6 + Int32.ofNat n, Int32.ofNat n)) → M (r + 1) (1) (N) (i) (j) (c) (e + 1)) {x0 : Nat} {x1 : Nat} {x2 : List Int32} {x3 : Nat} {x4 : Nat} {x5 : Nat} {x6 : Nat} (h : Cd6 tf cf (x0) (x1) (x2) (x3) (x4) (x5) (x6)) : M (x0) (x1) (x2) (x3) (x4) (x5) (x6) := (h (fun x0 x1 x2 x3 x4 x5 x6 => Cd6 tf cf (x0) (x1) (x2) (x3) (x4) (x5) (x6) ∧ M (x0) (x1) (x2) (x3) (x4) (x5) (x6)) (fun r N i c => ⟨Cd6.nil , c_nil r N i c ⟩) (fun r N i c k m j d e a b => ⟨Cd6.more a.1 b.1, c_more r N i c k m j d e a.1 a.2 b.1 b.2⟩) (fun r N i c s b h1 h2 h3 => ⟨Cd6.num h1 h2 h3, c_num r N i c s b h1 h2 h3⟩) (fun r N i c a h1 h2 h3 => ⟨Cd6.var h1 h2 h3, c_var r N i c a h1 h2 h3⟩) (fun r N i c d h1 h2 h3 => ⟨Cd6.get h1 h2 h3, c_get r N i c d h1 h2 h3⟩) (fun r N i c h j e h1 a h2 h3 => ⟨Cd6.one h1 a.1 h2 h3, c_one r N i c h j e h1 a.1 a.2 h2 h3⟩) (fun r N i c d j e h1 a h2 h3 => ⟨Cd6.put h1 a.1 h2 h3, c_put r N i c d j e h1 a.1 a.2 h2 h3⟩) (fun r N i c s m d j e h1 a b h2 h3 => ⟨Cd6.sgn h1 a.1 b.1 h2 h3, c_sgn r N i c s m d j e h1 a.1 a.2 b.1 b.2 h2 h3⟩) (fun r N i c m d j e h1 a b h2 => ⟨Cd6.pair h1 a.1 b.1 h2, c_pair r N i c m d j e h1 a.1 a.2 b.1 b.2 h2⟩) (fun r N i c m d m2 d2 j e h1 a h2 b h3 b2 h4 => ⟨Cd6.cho h1 a.1 h2 b.1 h3 b2.1 h4, c_cho r N i c m d m2 d2 j e h1 a.1 a.2 h2 b.1 b.2 h3 b2.1 b2.2 h4⟩) (fun r N i c a0 m d j e h1 h2 a h3 b => ⟨Cd6.let h1 h2 a.1 h3 b.1, c_let r N i c a0 m d j e h1 h2 a.1 a.2 h3 b.1 b.2⟩) (fun r N i c l n j e h1 h2 a h3 => ⟨Cd6.call h1 h2 a.1 h3, c_call r N i c l n j e h1 h2 a.1 a.2 h3⟩)).2
theorem Cd6.inv {tf : Nat → Option Th3} {cf : Nat → Option Th3} {x0 : Nat} {x1 : Nat} {x2 : List Int32} {x3 : Nat} {x4 : Nat} {x5 : Nat} {x6 : Nat} (h : Cd6 tf cf (x0) (x1) (x2) (x3) (x4) (x5) (x6)) : (∃ (r : Nat) (N : List Int32) (i : Nat) (c : Nat), x0 = (r) ∧ x1 = (0) ∧ x2 = (N) ∧ x3 = (i) ∧ x4 = (i) ∧ x5 = (c) ∧ x6 = (c)) ∨ (∃ (r : Nat) (N : List Int32) (i : Nat) (c : Nat) (k : Nat) (m : Nat) (j : Nat) (d : Nat) (e : Nat), x0 = (r) ∧ x1 = (k + 1) ∧ x2 = (N) ∧ x3 = (i) ∧ x4 = (j) ∧ x5 = (c) ∧ x6 = (e) ∧ (Cd6 tf cf (r) (k) (N) (i) (m) (c) (d)) ∧ (Cd6 tf cf (r) (1) (N) (m) (j) (d) (e))) ∨ (∃ (r : Nat) (N : List Int32) (i : Nat) (c : Nat) (s : Int32) (b : Int32), x0 = (r + 1) ∧ x1 = (1) ∧ x2 = (N) ∧ x3 = (i) ∧ x4 = (i + 1) ∧ x5 = (c) ∧ x6 = (c + 1) ∧ (tf i = some (s, b, 0)) ∧ (cf c = some (0, s, b)) ∧ (s = 0 ∨ s = 1)) ∨ (∃ (r : Nat) (N : List Int32) (i : Nat) (c : Nat) (a : Int32), x0 = (r + 1) ∧ x1 = (1) ∧ x2 = (N) ∧ x3 = (i) ∧ x4 = (i + 1) ∧ x5 = (c) ∧ x6 = (c + 1) ∧ (tf i = some (4, a - 109, 0)) ∧ (cf c = some (1, Int32.ofNat (slt N a), 0)) ∧ (a ∈ N)) ∨ (∃ (r : Nat) (N : List Int32) (i : Nat) (c : Nat) (d : Int32), x0 = (r + 1) ∧ x1 = (1) ∧ x2 = (N) ∧ x3 = (i) ∧ x4 = (i + 1) ∧ x5 = (c) ∧ x6 = (c + 1) ∧ (tf i = some (10, d, 0)) ∧ (cf c = some (11, d, 0)) ∧ (0 ≤ d.toInt ∧ d.toInt ≤ 7)) ∨ (∃ (r : Nat) (N : List Int32) (i : Nat) (c : Nat) (h : Int32) (j : Nat) (e : Nat), x0 = (r + 1) ∧ x1 = (1) ∧ x2 = (N) ∧ x3 = (i) ∧ x4 = (j) ∧ x5 = (c) ∧ x6 = (e + 1) ∧ (tf i = some (oneT h)) ∧ (Cd6 tf cf (r) (1) (N) (i + 1) (j) (c) (e)) ∧ (cf e = some (oneC h)) ∧ (isT1 h = true)) ∨ (∃ (r : Nat) (N : List Int32) (i : Nat) (c : Nat) (d : Int32) (j : Nat) (e : Nat), x0 = (r + 1) ∧ x1 = (1) ∧ x2 = (N) ∧ x3 = (i) ∧ x4 = (j) ∧ x5 = (c) ∧ x6 = (e + 1) ∧ (tf i = some (9, d, 1)) ∧ (Cd6 tf cf (r) (1) (N) (i + 1) (j) (c) (e)) ∧ (cf e = some (10, d, 0)) ∧ (0 ≤ d.toInt ∧ d.toInt ≤ 7)) ∨ (∃ (r : Nat) (N : List Int32) (i : Nat) (c : Nat) (s : Int32) (m : Nat) (d : Nat) (j : Nat) (e : Nat), x0 = (r + 1) ∧ x1 = (1) ∧ x2 = (N) ∧ x3 = (i) ∧ x4 = (j) ∧ x5 = (c) ∧ x6 = (e + 1) ∧ (tf i = some (5, s, 2)) ∧ (Cd6 tf cf (r) (1) (N) (i + 1) (m) (c) (d)) ∧ (Cd6 tf cf (r) (1) (N) (m) (j) (d) (e)) ∧ (cf e = some (2, s, 0)) ∧ (isSg s = true)) ∨ (∃ (r : Nat) (N : List Int32) (i : Nat) (c : Nat) (m : Nat) (d : Nat) (j : Nat) (e : Nat), x0 = (r + 1) ∧ x1 = (1) ∧ x2 = (N) ∧ x3 = (i) ∧ x4 = (j) ∧ x5 = (c) ∧ x6 = (e + 1) ∧ (tf i = some (2, 0, 2)) ∧ (Cd6 tf cf (r) (1) (N) (i + 1) (m) (c) (d)) ∧ (Cd6 tf cf (r) (1) (N) (m) (j) (d) (e)) ∧ (cf e = some (5, 0, 0))) ∨ (∃ (r : Nat) (N : List Int32) (i : Nat) (c : Nat) (m : Nat) (d : Nat) (m2 : Nat) (d2 : Nat) (j : Nat) (e : Nat), x0 = (r + 1) ∧ x1 = (1) ∧ x2 = (N) ∧ x3 = (i) ∧ x4 = (j) ∧ x5 = (c) ∧ x6 = (e + 1) ∧ (tf i = some (7, 0, 3)) ∧ (Cd6 tf cf (r) (1) (N) (i + 1) (m) (c) (d)) ∧ (cf d = some (6, Int32.ofNat (d2 + 1), 0)) ∧ (Cd6 tf cf (r) (1) (N) (m) (m2) (d + 1) (d2)) ∧ (cf d2 = some (7, Int32.ofNat (e + 1), 0)) ∧ (Cd6 tf cf (r) (1) (N) (m2) (j) (d2 + 1) (e)) ∧ (cf e = some (8, 0, 0))) ∨ (∃ (r : Nat) (N : List Int32) (i : Nat) (c : Nat) (a0 : Int32) (m : Nat) (d : Nat) (j : Nat) (e : Nat), x0 = (r + 1) ∧ x1 = (1) ∧ x2 = (N) ∧ x3 = (i) ∧ x4 = (j) ∧ x5 = (c) ∧ x6 = (e) ∧ (tf i = some (11, a0 - 109, 2)) ∧ (isVa a0 = true ∧ N.length < 25) ∧ (Cd6 tf cf (r) (1) (N) (i + 1) (m) (c) (d)) ∧ (cf d = some (12, Int32.ofNat N.length, 0)) ∧ (Cd6 tf cf (r) (1) (a0 :: N) (m) (j) (d + 1) (e))) ∨ (∃ (r : Nat) (N : List Int32) (i : Nat) (c : Nat) (l : Int32) (n : Nat) (j : Nat) (e : Nat), x0 = (r + 1) ∧ x1 = (1) ∧ x2 = (N) ∧ x3 = (i) ∧ x4 = (j) ∧ x5 = (c) ∧ x6 = (e + 1) ∧ (tf i = some (12, l - 97 + 1, Int32.ofNat n)) ∧ (isL l = true ∧ n ≤ 5) ∧ (Cd6 tf cf (r) (n) (N) (i + 1) (j) (c) (e)) ∧ (cf e = some (13, (l - 97) * 6 + Int32.ofNat n, Int32.ofNat n))) := Cd6.ind (M := fun x0 x1 x2 x3 x4 x5 x6 => (∃ (r : Nat) (N : List Int32) (i : Nat) (c : Nat), x0 = (r) ∧ x1 = (0) ∧ x2 = (N) ∧ x3 = (i) ∧ x4 = (i) ∧ x5 = (c) ∧ x6 = (c)) ∨ (∃ (r : Nat) (N : List Int32) (i : Nat) (c : Nat) (k : Nat) (m : Nat) (j : Nat) (d : Nat) (e : Nat), x0 = (r) ∧ x1 = (k + 1) ∧ x2 = (N) ∧ x3 = (i) ∧ x4 = (j) ∧ x5 = (c) ∧ x6 = (e) ∧ (Cd6 tf cf (r) (k) (N) (i) (m) (c) (d)) ∧ (Cd6 tf cf (r) (1) (N) (m) (j) (d) (e))) ∨ (∃ (r : Nat) (N : List Int32) (i : Nat) (c : Nat) (s : Int32) (b : Int32), x0 = (r + 1) ∧ x1 = (1) ∧ x2 = (N) ∧ x3 = (i) ∧ x4 = (i + 1) ∧ x5 = (c) ∧ x6 = (c + 1) ∧ (tf i = some (s, b, 0)) ∧ (cf c = some (0, s, b)) ∧ (s = 0 ∨ s = 1)) ∨ (∃ (r : Nat) (N : List Int32) (i : Nat) (c : Nat) (a : Int32), x0 = (r + 1) ∧ x1 = (1) ∧ x2 = (N) ∧ x3 = (i) ∧ x4 = (i + 1) ∧ x5 = (c) ∧ x6 = (c + 1) ∧ (tf i = some (4, a - 109, 0)) ∧ (cf c = some (1, Int32.ofNat (slt N a), 0)) ∧ (a ∈ N)) ∨ (∃ (r : Nat) (N : List Int32) (i : Nat) (c : Nat) (d : Int32), x0 = (r + 1) ∧ x1 = (1) ∧ x2 = (N) ∧ x3 = (i) ∧ x4 = (i + 1) ∧ x5 = (c) ∧ x6 = (c + 1) ∧ (tf i = some (10, d, 0)) ∧ (cf c = some (11, d, 0)) ∧ (0 ≤ d.toInt ∧ d.toInt ≤ 7)) ∨ (∃ (r : Nat) (N : List Int32) (i : Nat) (c : Nat) (h : Int32) (j : Nat) (e : Nat), x0 = (r + 1) ∧ x1 = (1) ∧ x2 = (N) ∧ x3 = (i) ∧ x4 = (j) ∧ x5 = (c) ∧ x6 = (e + 1) ∧ (tf i = some (oneT h)) ∧ (Cd6 tf cf (r) (1) (N) (i + 1) (j) (c) (e)) ∧ (cf e = some (oneC h)) ∧ (isT1 h = true)) ∨ (∃ (r : Nat) (N : List Int32) (i : Nat) (c : Nat) (d : Int32) (j : Nat) (e : Nat), x0 = (r + 1) ∧ x1 = (1) ∧ x2 = (N) ∧ x3 = (i) ∧ x4 = (j) ∧ x5 = (c) ∧ x6 = (e + 1) ∧ (tf i = some (9, d, 1)) ∧ (Cd6 tf cf (r) (1) (N) (i + 1) (j) (c) (e)) ∧ (cf e = some (10, d, 0)) ∧ (0 ≤ d.toInt ∧ d.toInt ≤ 7)) ∨ (∃ (r : Nat) (N : List Int32) (i : Nat) (c : Nat) (s : Int32) (m : Nat) (d : Nat) (j : Nat) (e : Nat), x0 = (r + 1) ∧ x1 = (1) ∧ x2 = (N) ∧ x3 = (i) ∧ x4 = (j) ∧ x5 = (c) ∧ x6 = (e + 1) ∧ (tf i = some (5, s, 2)) ∧ (Cd6 tf cf (r) (1) (N) (i + 1) (m) (c) (d)) ∧ (Cd6 tf cf (r) (1) (N) (m) (j) (d) (e)) ∧ (cf e = some (2, s, 0)) ∧ (isSg s = true)) ∨ (∃ (r : Nat) (N : List Int32) (i : Nat) (c : Nat) (m : Nat) (d : Nat) (j : Nat) (e : Nat), x0 = (r + 1) ∧ x1 = (1) ∧ x2 = (N) ∧ x3 = (i) ∧ x4 = (j) ∧ x5 = (c) ∧ x6 = (e + 1) ∧ (tf i = some (2, 0, 2)) ∧ (Cd6 tf cf (r) (1) (N) (i + 1) (m) (c) (d)) ∧ (Cd6 tf cf (r) (1) (N) (m) (j) (d) (e)) ∧ (cf e = some (5, 0, 0))) ∨ (∃ (r : Nat) (N : List Int32) (i : Nat) (c : Nat) (m : Nat) (d : Nat) (m2 : Nat) (d2 : Nat) (j : Nat) (e : Nat), x0 = (r + 1) ∧ x1 = (1) ∧ x2 = (N) ∧ x3 = (i) ∧ x4 = (j) ∧ x5 = (c) ∧ x6 = (e + 1) ∧ (tf i = some (7, 0, 3)) ∧ (Cd6 tf cf (r) (1) (N) (i + 1) (m) (c) (d)) ∧ (cf d = some (6, Int32.ofNat (d2 + 1), 0)) ∧ (Cd6 tf cf (r) (1) (N) (m) (m2) (d + 1) (d2)) ∧ (cf d2 = some (7, Int32.ofNat (e + 1), 0)) ∧ (Cd6 tf cf (r) (1) (N) (m2) (j) (d2 + 1) (e)) ∧ (cf e = some (8, 0, 0))) ∨ (∃ (r : Nat) (N : List Int32) (i : Nat) (c : Nat) (a0 : Int32) (m : Nat) (d : Nat) (j : Nat) (e : Nat), x0 = (r + 1) ∧ x1 = (1) ∧ x2 = (N) ∧ x3 = (i) ∧ x4 = (j) ∧ x5 = (c) ∧ x6 = (e) ∧ (tf i = some (11, a0 - 109, 2)) ∧ (isVa a0 = true ∧ N.length < 25) ∧ (Cd6 tf cf (r) (1) (N) (i + 1) (m) (c) (d)) ∧ (cf d = some (12, Int32.ofNat N.length, 0)) ∧ (Cd6 tf cf (r) (1) (a0 :: N) (m) (j) (d + 1) (e))) ∨ (∃ (r : Nat) (N : List Int32) (i : Nat) (c : Nat) (l : Int32) (n : Nat) (j : Nat) (e : Nat), x0 = (r + 1) ∧ x1 = (1) ∧ x2 = (N) ∧ x3 = (i) ∧ x4 = (j) ∧ x5 = (c) ∧ x6 = (e + 1) ∧ (tf i = some (12, l - 97 + 1, Int32.ofNat n)) ∧ (isL l = true ∧ n ≤ 5) ∧ (Cd6 tf cf (r) (n) (N) (i + 1) (j) (c) (e)) ∧ (cf e = some (13, (l - 97) * 6 + Int32.ofNat n, Int32.ofNat n)))) (fun r N i c => Or.inl ⟨r, N, i, c, rfl, rfl, rfl, rfl, rfl, rfl, rfl⟩) (fun r N i c k m j d e a _ b _ => Or.inr (Or.inl ⟨r, N, i, c, k, m, j, d, e, rfl, rfl, rfl, rfl, rfl, rfl, rfl, a, b⟩)) (fun r N i c s b h1 h2 h3 => Or.inr (Or.inr (Or.inl ⟨r, N, i, c, s, b, rfl, rfl, rfl, rfl, rfl, rfl, rfl, h1, h2, h3⟩))) (fun r N i c a h1 h2 h3 => Or.inr (Or.inr (Or.inr (Or.inl ⟨r, N, i, c, a, rfl, rfl, rfl, rfl, rfl, rfl, rfl, h1, h2, h3⟩)))) (fun r N i c d h1 h2 h3 => Or.inr (Or.inr (Or.inr (Or.inr (Or.inl ⟨r, N, i, c, d, rfl, rfl, rfl, rfl, rfl, rfl, rfl, h1, h2, h3⟩))))) (fun r N i c h j e h1 a _ h2 h3 => Or.inr (Or.inr (Or.inr (Or.inr (Or.inr (Or.inl ⟨r, N, i, c, h, j, e, rfl, rfl, rfl, rfl, rfl, rfl, rfl, h1, a, h2, h3⟩)))))) (fun r N i c d j e h1 a _ h2 h3 => Or.inr (Or.inr (Or.inr (Or.inr (Or.inr (Or.inr (Or.inl ⟨r, N, i, c, d, j, e, rfl, rfl, rfl, rfl, rfl, rfl, rfl, h1, a, h2, h3⟩))))))) (fun r N i c s m d j e h1 a _ b _ h2 h3 => Or.inr (Or.inr (Or.inr (Or.inr (Or.inr (Or.inr (Or.inr (Or.inl ⟨r, N, i, c, s, m, d, j, e, rfl, rfl, rfl, rfl, rfl, rfl, rfl, h1, a, b, h2, h3⟩)))))))) (fun r N i c m d j e h1 a _ b _ h2 => Or.inr (Or.inr (Or.inr (Or.inr (Or.inr (Or.inr (Or.inr (Or.inr (Or.inl ⟨r, N, i, c, m, d, j, e, rfl, rfl, rfl, rfl, rfl, rfl, rfl, h1, a, b, h2⟩))))))))) (fun r N i c m d m2 d2 j e h1 a _ h2 b _ h3 b2 _ h4 => Or.inr (Or.inr (Or.inr (Or.inr (Or.inr (Or.inr (Or.inr (Or.inr (Or.inr (Or.inl ⟨r, N, i, c, m, d, m2, d2, j, e, rfl, rfl, rfl, rfl, rfl, rfl, rfl, h1, a, h2, b, h3, b2, h4⟩)))))))))) (fun r N i c a0 m d j e h1 h2 a _ h3 b _ => Or.inr (Or.inr (Or.inr (Or.inr (Or.inr (Or.inr (Or.inr (Or.inr (Or.inr (Or.inr (Or.inl ⟨r, N, i, c, a0, m, d, j, e, rfl, rfl, rfl, rfl, rfl, rfl, rfl, h1, h2, a, h3, b⟩))))))))))) (fun r N i c l n j e h1 h2 a _ h3 => Or.inr (Or.inr (Or.inr (Or.inr (Or.inr (Or.inr (Or.inr (Or.inr (Or.inr (Or.inr (Or.inr (⟨r, N, i, c, l, n, j, e, rfl, rfl, rfl, rfl, rfl, rfl, rfl, h1, h2, a, h3⟩)))))))))))) h
theorem Cd6.le {tf cf : Nat → Option Th3} {r k : Nat} {N : List Int32} {i j c e : Nat} (h : Cd6 tf cf r k N i j c e) : i ≤ j ∧ c ≤ e := by
  refine Cd6.ind (M := fun _ _ _ i j c e => i ≤ j ∧ c ≤ e) ?_ ?_ ?_ ?_ ?_ ?_ ?_ ?_ ?_ ?_ ?_ ?_ h <;> intros <;> omega
theorem Cd6.cong {tf cf tg cg : Nat → Option Th3} {r k : Nat} {N : List Int32} {i j c e : Nat} (h : Cd6 tf cf r k N i j c e) : (∀ x, i ≤ x → x < j → tg x = tf x) → (∀ x, c ≤ x → x < e → cg x = cf x) → Cd6 tg cg r k N i j c e := by
  refine Cd6.ind (M := fun r k N i j c e => (∀ x, i ≤ x → x < j → tg x = tf x) → (∀ x, c ≤ x → x < e → cg x = cf x) → Cd6 tg cg r k N i j c e) ?_ ?_ ?_ ?_ ?_ ?_ ?_ ?_ ?_ ?_ ?_ ?_ h
  · intro r N i c _ _; exact Cd6.nil
  · intro r N i c k m j d e a ia b ib g1 g2
    have la := a.le
    have lb := b.le
    exact Cd6.more (ia (fun x y z => g1 x y (by omega)) (fun x y z => g2 x y (by omega))) (ib (fun x y z => g1 x (by omega) z) (fun x y z => g2 x (by omega) z))
  · intro r N i c s b h1 h2 h3 g1 g2
    exact Cd6.num (by rw [g1 i (by omega) (by omega)]; exact h1) (by rw [g2 c (by omega) (by omega)]; exact h2) h3
  · intro r N i c a h1 h2 h3 g1 g2
    exact Cd6.var (by rw [g1 i (by omega) (by omega)]; exact h1) (by rw [g2 c (by omega) (by omega)]; exact h2) h3
  · intro r N i c d h1 h2 h3 g1 g2
    exact Cd6.get (by rw [g1 i (by omega) (by omega)]; exact h1) (by rw [g2 c (by omega) (by omega)]; exact h2) h3
  · intro r N i c x j e h1 a ia h2 h3 g1 g2
    have la := a.le
    exact Cd6.one (by rw [g1 i (by omega) (by omega)]; exact h1) (ia (fun x y z => g1 x (by omega) z) (fun x y z => g2 x y (by omega))) (by rw [g2 e (by omega) (by omega)]; exact h2) h3
  · intro r N i c d j e h1 a ia h2 h3 g1 g2
    have la := a.le
    exact Cd6.put (by rw [g1 i (by omega) (by omega)]; exact h1) (ia (fun x y z => g1 x (by omega) z) (fun x y z => g2 x y (by omega))) (by rw [g2 e (by omega) (by omega)]; exact h2) h3
  · intro r N i c s m d j e h1 a ia b ib h2 h3 g1 g2
    have la := a.le
    have lb := b.le
    exact Cd6.sgn (by rw [g1 i (by omega) (by omega)]; exact h1) (ia (fun x y z => g1 x (by omega) (by omega)) (fun x y z => g2 x y (by omega))) (ib (fun x y z => g1 x (by omega) z) (fun x y z => g2 x (by omega) (by omega))) (by rw [g2 e (by omega) (by omega)]; exact h2) h3
  · intro r N i c m d j e h1 a ia b ib h2 g1 g2
    have la := a.le
    have lb := b.le
    exact Cd6.pair (by rw [g1 i (by omega) (by omega)]; exact h1) (ia (fun x y z => g1 x (by omega) (by omega)) (fun x y z => g2 x y (by omega))) (ib (fun x y z => g1 x (by omega) z) (fun x y z => g2 x (by omega) (by omega))) (by rw [g2 e (by omega) (by omega)]; exact h2)
  · intro r N i c m d m2 d2 j e h1 a ia h2 b ib h3 b2 ib2 h4 g1 g2
    have la := a.le
    have lb := b.le
    have lb2 := b2.le
    exact Cd6.cho (by rw [g1 i (by omega) (by omega)]; exact h1) (ia (fun x y z => g1 x (by omega) (by omega)) (fun x y z => g2 x y (by omega))) (by rw [g2 d (by omega) (by omega)]; exact h2) (ib (fun x y z => g1 x (by omega) (by omega)) (fun x y z => g2 x (by omega) (by omega))) (by rw [g2 d2 (by omega) (by omega)]; exact h3) (ib2 (fun x y z => g1 x (by omega) z) (fun x y z => g2 x (by omega) (by omega))) (by rw [g2 e (by omega) (by omega)]; exact h4)
  · intro r N i c a0 m d j e h1 h2 a ia h3 b ib g1 g2
    have la := a.le
    have lb := b.le
    exact Cd6.let (by rw [g1 i (by omega) (by omega)]; exact h1) h2 (ia (fun x y z => g1 x (by omega) (by omega)) (fun x y z => g2 x y (by omega))) (by rw [g2 d (by omega) (by omega)]; exact h3) (ib (fun x y z => g1 x (by omega) z) (fun x y z => g2 x (by omega) z))
  · intro r N i c l n j e h1 h2 a ia h3 g1 g2
    have la := a.le
    exact Cd6.call (by rw [g1 i (by omega) (by omega)]; exact h1) h2 (ia (fun x y z => g1 x (by omega) z) (fun x y z => g2 x y (by omega))) (by rw [g2 e (by omega) (by omega)]; exact h3)
end

section
def Pre5 (A B : List Th3) : Prop := ∃ S, B = A ++ S
theorem Pre5.rf {A : List Th3} : Pre5 A A := ⟨[], by simp⟩
theorem Pre5.tr {A B C : List Th3} (h : Pre5 A B) (h2 : Pre5 B C) : Pre5 A C := by
  obtain ⟨S, e⟩ := h
  obtain ⟨S2, e2⟩ := h2
  exact ⟨S ++ S2, by rw [e2, e, List.append_assoc]⟩
theorem Pre5.len {A B : List Th3} (h : Pre5 A B) : A.length ≤ B.length := by
  obtain ⟨S, e⟩ := h; rw [e, List.length_append]; omega
theorem Pre5.at {A B : List Th3} (h : Pre5 A B) {j : Nat} (hj : j < A.length) : B[j]? = A[j]? := by
  obtain ⟨S, e⟩ := h; rw [e]; exact List.getElem?_append_left hj
theorem Pre5.ap {A : List Th3} {x : Th3} : Pre5 A (A ++ [x]) := ⟨[x], rfl⟩
theorem at_end {A : List Th3} {x : Th3} : (A ++ [x])[A.length]? = some x := by
  rw [List.getElem?_append_right (Nat.le_refl _), Nat.sub_self]; rfl
theorem Pre5.last {A B : List Th3} {x : Th3} (h : Pre5 (A ++ [x]) B) : B[A.length]? = some x := by
  rw [h.at (by rw [List.length_append]; simp)]; exact at_end
theorem Pre5.len1 {A B : List Th3} {x : Th3} (h : Pre5 (A ++ [x]) B) : A.length + 1 ≤ B.length := by
  have := h.len; rw [List.length_append] at this; exact this
theorem Pre5.of1 {A B : List Th3} {x : Th3} (h : Pre5 (A ++ [x]) B) : Pre5 A B := Pre5.ap.tr h
theorem Pre5.set {A B : List Th3} (h : Pre5 A B) {i : Nat} (hi : A.length ≤ i) (x : Th3) : Pre5 A (B.set i x) := by
  obtain ⟨S, e⟩ := h
  exact ⟨S.set (i - A.length) x, by rw [e, List.set_append_right _ _ hi]⟩
abbrev at5 (L : List Th3) : Nat → Option Th3 := fun j => L[j]?
def Qo5 (Q : List Th3 → List Th3 → Prop) (o : Rd (Nat × Py)) : Prop := match o with | .inl _ => True | .inr v => Q v.2.1 v.2.2
theorem Qo5.b {Q Q2 : List Th3 → List Th3 → Prop} {o : Rd (Nat × Py)} {e : Nat × Py → Rd (Nat × Py)} (h : Qo5 Q o) (he : ∀ v, Q v.2.1 v.2.2 → Qo5 Q2 (e v)) : Qo5 Q2 (bnd o e) := by
  cases o with
  | inl f => trivial
  | inr v => exact he v h
theorem Qo5.tk {Q : List Th3 → List Th3 → Prop} {t : Nat → Int32} {n : Nat} {c : Int32} {o : Rd (Nat × Py)} (h : Qo5 Q o) : Qo5 Q (tkP t n c o) := h.b (fun v hv => by
  by_cases c1 : hr t n v.1 = c
  · rw [if_pos c1]; exact hv
  · rw [if_neg c1]; trivial)
theorem Qo5.ad {Q Q2 : List Th3 → List Th3 → Prop} {x : Th3} {o : Rd (Nat × Py)} (h : Qo5 Q o) (he : ∀ T C, Q T C → Q2 T (C ++ [x])) : Qo5 Q2 (adC x o) := h.b (fun v hv => he _ _ hv)
theorem Qo5.mo {Q Q2 : List Th3 → List Th3 → Prop} {o : Rd (Nat × Py)} (h : Qo5 Q o) (he : ∀ T C, Q T C → Q2 T C) : Qo5 Q2 o := by
  cases o with
  | inl f => trivial
  | inr v => exact he _ _ h
def Qe5 (r : Nat) (T0 C0 : List Th3) (k : Nat) (N : List Int32) (i c : Nat) (T C : List Th3) : Prop := Pre5 T0 T ∧ Pre5 C0 C ∧ Cd6 (at5 T) (at5 C) r k N i T.length c C.length
def Ie5 (r : Nat) (e : Nat × Py → Rd (Nat × Py)) (N : List Int32) : Prop := ∀ v, Qo5 (Qe5 r v.2.1 v.2.2 1 N v.2.1.length v.2.2.length) (e v)
theorem qe_cong {T C T2 C2 : List Th3} {r k : Nat} {N : List Int32} {i c : Nat} (h : Cd6 (at5 T) (at5 C) r k N i T.length c C.length) (hT : Pre5 T T2) (hC : Pre5 C C2) : Cd6 (at5 T2) (at5 C2) r k N i T.length c C.length := h.cong (fun x _ hx => hT.at hx) (fun x _ hx => hC.at hx)
theorem one_qe {r : Nat} {p : Nat} {e : Nat × Py → Rd (Nat × Py)} {N : List Int32} (he : Ie5 r e N) (v : Py) (x y : Th3) (row : ∀ tf cf : Nat → Option Th3, ∀ i c j d, tf i = some x → Cd6 tf cf r 1 N (i + 1) j c d → cf d = some y → Cd6 tf cf (r + 1) 1 N i j c (d + 1)) : Qo5 (Qe5 (r + 1) v.1 v.2 1 N v.1.length v.2.length) (adC y (e (p, v.1 ++ [x], v.2))) := by
  refine (he (p, v.1 ++ [x], v.2)).ad ?_
  rintro T C ⟨h1, h2, h3⟩
  have h1 : Pre5 (v.1 ++ [x]) T := h1
  have h2 : Pre5 v.2 C := h2
  have h3 : Cd6 (at5 T) (at5 C) r 1 N (v.1 ++ [x]).length T.length v.2.length C.length := h3
  rw [List.length_append] at h3
  refine ⟨h1.of1, h2.tr Pre5.ap, ?_⟩
  rw [List.length_append]
  exact row _ _ _ _ _ _ h1.last (qe_cong h3 Pre5.rf Pre5.ap) at_end
theorem sign_qe {r : Nat} {t : Nat → Int32} {n p : Nat} {e : Nat × Py → Rd (Nat × Py)} {N : List Int32} (he : Ie5 r e N) (v : Py) : Qo5 (Qe5 (r + 1) v.1 v.2 1 N v.1.length v.2.length) (signP t n e p v) := by
  unfold signP
  refine (he (p + 1, v.1 ++ [(5, 0, 2)], v.2)).b ?_
  rintro w ⟨h1, h2, h3⟩
  have h1 : Pre5 (v.1 ++ [(5, 0, 2)]) w.2.1 := h1
  have h2 : Pre5 v.2 w.2.2 := h2
  have h3 : Cd6 (at5 w.2.1) (at5 w.2.2) r 1 N (v.1 ++ [(5, 0, 2)]).length w.2.1.length v.2.length w.2.2.length := h3
  rw [List.length_append] at h3
  have hl := h1.len1
  by_cases c : isSg (hr t n w.1) = true
  · rw [if_pos c]
    refine ((he (w.1 + 1, w.2.1.set v.1.length (5, hr t n w.1, 2), w.2.2)).tk).ad ?_
    rintro T C ⟨k1, k2, k3⟩
    have k1 : Pre5 (w.2.1.set v.1.length (5, hr t n w.1, 2)) T := k1
    have k2 : Pre5 w.2.2 C := k2
    have k3 : Cd6 (at5 T) (at5 C) r 1 N (w.2.1.set v.1.length (5, hr t n w.1, 2)).length T.length w.2.2.length C.length := k3
    have ls : (w.2.1.set v.1.length (5, hr t n w.1, 2)).length = w.2.1.length := List.length_set ..
    rw [ls] at k3
    have g : ∀ x, v.1.length + 1 ≤ x → x < w.2.1.length → at5 T x = at5 w.2.1 x := fun x a b => (k1.at (by rw [ls]; exact b)).trans (List.getElem?_set_ne (by omega))
    refine ⟨(h1.of1.set (Nat.le_refl _) _).tr k1, h2.tr (k2.tr Pre5.ap), ?_⟩
    rw [List.length_append]
    refine Cd6.sgn (s := hr t n w.1) ?_ (h3.cong g (fun x _ b => (k2.tr Pre5.ap).at b)) (qe_cong k3 Pre5.rf Pre5.ap) at_end c
    show T[v.1.length]? = _
    rw [k1.at (by rw [ls]; omega)]
    exact List.getElem?_set_self (by omega)
  · rw [if_neg c]; trivial
theorem pair_qe {r : Nat} {t : Nat → Int32} {n p : Nat} {e : Nat × Py → Rd (Nat × Py)} {N : List Int32} (he : Ie5 r e N) (v : Py) : Qo5 (Qe5 (r + 1) v.1 v.2 1 N v.1.length v.2.length) (pairP t n e p v) := by
  unfold pairP
  refine (((he (p + 1, v.1 ++ [(2, 0, 2)], v.2)).tk.b (Q2 := fun T C => ∃ m d, Pre5 (v.1 ++ [(2, 0, 2)]) T ∧ Pre5 v.2 C ∧ Cd6 (at5 T) (at5 C) r 1 N (v.1.length + 1) m v.2.length d ∧ Cd6 (at5 T) (at5 C) r 1 N m T.length d C.length) ?_).tk).ad ?_
  · rintro w ⟨h1, h2, h3⟩
    have h1 : Pre5 (v.1 ++ [(2, 0, 2)]) w.2.1 := h1
    have h2 : Pre5 v.2 w.2.2 := h2
    have h3 : Cd6 (at5 w.2.1) (at5 w.2.2) r 1 N (v.1 ++ [(2, 0, 2)]).length w.2.1.length v.2.length w.2.2.length := h3
    rw [List.length_append] at h3
    refine (he w).mo ?_
    rintro T C ⟨k1, k2, k3⟩
    exact ⟨_, _, h1.tr k1, h2.tr k2, qe_cong h3 k1 k2, k3⟩
  · rintro T C ⟨m, d, k1, k2, k3, k4⟩
    refine ⟨k1.of1, k2.tr Pre5.ap, ?_⟩
    rw [List.length_append]
    have l4 := k4.le
    exact Cd6.pair k1.last (k3.cong (fun _ _ _ => rfl) (fun x _ b => Pre5.ap.at (by omega))) (qe_cong k4 Pre5.rf Pre5.ap) at_end
theorem let_qe {r : Nat} {t : Nat → Int32} {n p : Nat} {e : List Int32 → Nat × Py → Rd (Nat × Py)} (N : List Int32) (hN : N.length < 25) (he : Ie5 r (e N) N) (he2 : ∀ a, Ie5 r (e (a :: N)) (a :: N)) (v : Py) : Qo5 (Qe5 (r + 1) v.1 v.2 1 N v.1.length v.2.length) (letP t n e N p v) := by
  unfold letP
  by_cases c : isVa (hr t n (p + 1)) = true
  · rw [if_pos c]
    have h0 : Qo5 (Qe5 r (v.1 ++ [(11, hr t n (p + 1) - 109, 2)]) v.2 1 N (v.1.length + 1) v.2.length) (tkP t n 44 (bnd (tkP t n 61 (.inr (p + 2, v.1 ++ [(11, hr t n (p + 1) - 109, 2)], v.2))) (e N))) := by
      have h00 : Qo5 (fun T C => T = v.1 ++ [(11, hr t n (p + 1) - 109, 2)] ∧ C = v.2) (.inr (p + 2, v.1 ++ [(11, hr t n (p + 1) - 109, 2)], v.2)) := ⟨rfl, rfl⟩
      refine (h00.tk.b ?_).tk
      rintro w ⟨e1, e2⟩
      have := he w
      rw [e1, e2, List.length_append] at this
      exact this
    refine h0.b ?_
    rintro w ⟨h1, h2, h3⟩
    refine (he2 _ (w.1, w.2.1, w.2.2 ++ [(12, Int32.ofNat N.length, 0)])).mo ?_
    rintro T C ⟨k1, k2, k3⟩
    have k1 : Pre5 w.2.1 T := k1
    have k2 : Pre5 (w.2.2 ++ [(12, Int32.ofNat N.length, 0)]) C := k2
    have k3 : Cd6 (at5 T) (at5 C) r 1 (hr t n (p + 1) :: N) w.2.1.length T.length (w.2.2 ++ [(12, Int32.ofNat N.length, 0)]).length C.length := k3
    rw [List.length_append] at k3
    exact ⟨h1.of1.tr k1, h2.tr k2.of1, Cd6.let (h1.tr k1).last ⟨c, hN⟩ (qe_cong h3 k1 k2.of1) k2.last k3⟩
  · rw [if_neg c]; trivial
theorem cho_qe {r : Nat} {t : Nat → Int32} {n p : Nat} {e : Nat × Py → Rd (Nat × Py)} {N : List Int32} (he : Ie5 r e N) (v : Py) : Qo5 (Qe5 (r + 1) v.1 v.2 1 N v.1.length v.2.length) (choP t n e p v) := by
  unfold choP
  have h0 : Qo5 (Qe5 r (v.1 ++ [(7, 0, 3)]) v.2 1 N (v.1.length + 1) v.2.length) (tkP t n 44 (bnd (tkP t n 40 (.inr (p + 1, v.1 ++ [(7, 0, 3)], v.2))) e)) := by
    have h00 : Qo5 (fun T C => T = v.1 ++ [(7, 0, 3)] ∧ C = v.2) (.inr (p + 1, v.1 ++ [(7, 0, 3)], v.2)) := ⟨rfl, rfl⟩
    refine (h00.tk.b ?_).tk
    rintro w ⟨e1, e2⟩
    have := he w
    rw [e1, e2, List.length_append] at this
    exact this
  refine h0.b ?_
  rintro w ⟨h1, h2, h3⟩
  refine (he (w.1, w.2.1, w.2.2 ++ [(6, 0, 0)])).tk.b ?_
  rintro x ⟨k1, k2, k3⟩
  have k1 : Pre5 w.2.1 x.2.1 := k1
  have k2 : Pre5 (w.2.2 ++ [(6, 0, 0)]) x.2.2 := k2
  have k3 : Cd6 (at5 x.2.1) (at5 x.2.2) r 1 N w.2.1.length x.2.1.length (w.2.2 ++ [(6, 0, 0)]).length x.2.2.length := k3
  rw [List.length_append] at k3
  have k3 : Cd6 (at5 x.2.1) (at5 x.2.2) r 1 N w.2.1.length x.2.1.length (w.2.2.length + 1) x.2.2.length := k3
  have kl := k2.len1
  refine (he (x.1, x.2.1, (x.2.2 ++ [(7, 0, 0)]).set w.2.2.length (6, Int32.ofNat (x.2.2.length + 1), 0))).tk.b ?_
  rintro y ⟨m1, m2, m3⟩
  have m1 : Pre5 x.2.1 y.2.1 := m1
  have m2 : Pre5 ((x.2.2 ++ [(7, 0, 0)]).set w.2.2.length (6, Int32.ofNat (x.2.2.length + 1), 0)) y.2.2 := m2
  have m3 : Cd6 (at5 y.2.1) (at5 y.2.2) r 1 N x.2.1.length y.2.1.length ((x.2.2 ++ [(7, 0, 0)]).set w.2.2.length (6, Int32.ofNat (x.2.2.length + 1), 0)).length y.2.2.length := m3
  have sl : ((x.2.2 ++ [(7, 0, 0)]).set w.2.2.length (6, Int32.ofNat (x.2.2.length + 1), 0)).length = x.2.2.length + 1 := by rw [List.length_set, List.length_append]; rfl
  rw [sl] at m3
  have ml : x.2.2.length + 1 ≤ y.2.2.length := by have := m2.len; rw [sl] at this; exact this
  have g1 : ∀ z, z < y.2.2.length → z ≠ x.2.2.length → ((y.2.2 ++ [(8, 0, 0)]).set x.2.2.length (7, Int32.ofNat (y.2.2.length + 1), 0))[z]? = y.2.2[z]? := fun z a b => by
    rw [List.getElem?_set_ne (fun e => b e.symm)]; exact Pre5.ap.at a
  have g2 : ∀ z, z < x.2.2.length → z ≠ w.2.2.length → y.2.2[z]? = x.2.2[z]? := fun z a b => by
    rw [m2.at (by rw [sl]; omega), List.getElem?_set_ne (fun e => b e.symm)]; exact Pre5.ap.at a
  have g3 : ∀ z, z < w.2.2.length → x.2.2[z]? = w.2.2[z]? := fun z a => k2.of1.at a
  show Qe5 (r + 1) v.1 v.2 1 N v.1.length v.2.length y.2.1 ((y.2.2 ++ [(8, 0, 0)]).set x.2.2.length (7, Int32.ofNat (y.2.2.length + 1), 0))
  have fl : ((y.2.2 ++ [(8, 0, 0)]).set x.2.2.length (7, Int32.ofNat (y.2.2.length + 1), 0)).length = y.2.2.length + 1 := by rw [List.length_set, List.length_append]; rfl
  have px : Pre5 v.2 x.2.2 := h2.tr k2.of1
  have py : Pre5 v.2 y.2.2 := ((px.tr Pre5.ap).set h2.len _).tr m2
  refine ⟨h1.of1.tr (k1.tr m1), (py.tr Pre5.ap).set px.len _, ?_⟩
  rw [fl]
  have lh := h3.le
  refine Cd6.cho (m := w.2.1.length) (d := w.2.2.length) (m2 := x.2.1.length) (d2 := x.2.2.length) ((h1.tr (k1.tr m1)).last) ?_ ?_ ?_ ?_ ?_ ?_
  · exact h3.cong (fun z _ b => (k1.tr m1).at b) (fun z _ b => ((g1 z (by omega) (by omega)).trans (g2 z (by omega) (by omega))).trans (g3 z b))
  · show ((y.2.2 ++ [(8, 0, 0)]).set x.2.2.length (7, Int32.ofNat (y.2.2.length + 1), 0))[w.2.2.length]? = _
    rw [g1 _ (by omega) (by omega), m2.at (by rw [sl]; omega)]
    exact List.getElem?_set_self (by rw [List.length_append]; omega)
  · exact k3.cong (fun z _ b => m1.at b) (fun z a b => (g1 z (by omega) (by omega)).trans (g2 z b (by omega)))
  · exact List.getElem?_set_self (by rw [List.length_append]; omega)
  · exact m3.cong (fun _ _ _ => rfl) (fun z a b => g1 z b (by omega))
  · show ((y.2.2 ++ [(8, 0, 0)]).set x.2.2.length (7, Int32.ofNat (y.2.2.length + 1), 0))[y.2.2.length]? = _
    rw [List.getElem?_set_ne (by omega)]; exact at_end
theorem cfin_qe {r : Nat} {t : Nat → Int32} {n j : Nat} {l : Int32} {N : List Int32} (hl : isL l = true) (hj : j ≤ 5) (v : Py) (w : Nat × Py) (h : Pre5 (v.1 ++ [(12, l - 97 + 1, 0)]) w.2.1 ∧ Pre5 v.2 w.2.2 ∧ Cd6 (at5 w.2.1) (at5 w.2.2) r j N (v.1.length + 1) w.2.1.length v.2.length w.2.2.length) : Qo5 (Qe5 (r + 1) v.1 v.2 1 N v.1.length v.2.length) (cfin t n l v.1.length j w) := by
  obtain ⟨h1, h2, h3⟩ := h
  have hl1 := h1.len1
  unfold cfin
  by_cases c : hr t n w.1 = 41
  · rw [if_pos c]
    refine ⟨h1.of1.set (Nat.le_refl _) _, h2.tr Pre5.ap, ?_⟩
    show Cd6 (at5 (w.2.1.set v.1.length (12, l - 97 + 1, Int32.ofNat j))) (at5 (w.2.2 ++ [(13, (l - 97) * 6 + Int32.ofNat j, Int32.ofNat j)])) (r + 1) 1 N v.1.length (w.2.1.set v.1.length (12, l - 97 + 1, Int32.ofNat j)).length v.2.length (w.2.2 ++ [(13, (l - 97) * 6 + Int32.ofNat j, Int32.ofNat j)]).length
    rw [List.length_set, List.length_append]
    exact Cd6.call (n := j) (List.getElem?_set_self (by omega)) ⟨hl, hj⟩ (h3.cong (fun x a _ => List.getElem?_set_ne (by omega)) (fun x _ b => Pre5.ap.at b)) at_end
  · rw [if_neg c]; trivial
theorem agP_qe {r : Nat} {t : Nat → Int32} {n : Nat} {l : Int32} {e : Nat × Py → Rd (Nat × Py)} {N : List Int32} (hl : isL l = true) (he : Ie5 r e N) (v : Py) : ∀ (k j : Nat) (o : Rd (Nat × Py)), j + k ≤ 5 → Qo5 (fun T C => Pre5 (v.1 ++ [(12, l - 97 + 1, 0)]) T ∧ Pre5 v.2 C ∧ Cd6 (at5 T) (at5 C) r j N (v.1.length + 1) T.length v.2.length C.length) o → Qo5 (Qe5 (r + 1) v.1 v.2 1 N v.1.length v.2.length) (agP t n (cfin t n l v.1.length) e k j o) := by
  intro k
  induction k with
  | zero => intro j o hj h; exact h.b (fun w hw => cfin_qe hl (by omega) v w hw)
  | succ k ih =>
    intro j o hj h
    refine h.b (fun w hw => ?_)
    by_cases c : hr t n w.1 = 44
    · rw [if_pos c]
      refine ih (j + 1) _ (by omega) ((he (w.1 + 1, w.2)).mo ?_)
      rintro T C ⟨k1, k2, k3⟩
      obtain ⟨h1, h2, h3⟩ := hw
      exact ⟨h1.tr k1, h2.tr k2, Cd6.more (qe_cong h3 k1 k2) k3⟩
    · rw [if_neg c]; exact cfin_qe hl (by omega) v w hw
theorem call_qe {r : Nat} {t : Nat → Int32} {n p : Nat} {l : Int32} {e : Nat × Py → Rd (Nat × Py)} {N : List Int32} (hl : isL l = true) (he : Ie5 r e N) (v : Py) : Qo5 (Qe5 (r + 1) v.1 v.2 1 N v.1.length v.2.length) (callP t n e l p v) := by
  unfold callP
  have h00 : Qo5 (fun T C => T = v.1 ++ [(12, l - 97 + 1, 0)] ∧ C = v.2) (.inr (p + 1, v.1 ++ [(12, l - 97 + 1, 0)], v.2)) := ⟨rfl, rfl⟩
  refine h00.tk.b ?_
  rintro w ⟨e1, e2⟩
  have z : Cd6 (at5 w.2.1) (at5 w.2.2) r 0 N (v.1.length + 1) w.2.1.length v.2.length w.2.2.length := by
    rw [e1, e2, List.length_append]; exact Cd6.nil
  have p1 : Pre5 (v.1 ++ [(12, l - 97 + 1, 0)]) w.2.1 := by rw [e1]; exact Pre5.rf
  have p2 : Pre5 v.2 w.2.2 := by rw [e2]; exact Pre5.rf
  by_cases c : hr t n w.1 = 41
  · rw [if_pos c]; exact cfin_qe hl (by omega) v w ⟨p1, p2, z⟩
  · rw [if_neg c]
    refine agP_qe hl he v 4 1 _ (by omega) ((he w).mo ?_)
    rintro T C ⟨k1, k2, k3⟩
    exact ⟨p1.tr k1, p2.tr k2, Cd6.more (k := 0) (qe_cong z k1 k2) k3⟩
theorem pl_r {d : Int32} (h : isPl d = true) : 0 ≤ (d - 48).toInt ∧ (d - 48).toInt ≤ 7 := by
  have e1 : (48 : Int32).toInt = 48 := by decide
  have e2 : (55 : Int32).toInt = 55 := by decide
  unfold isPl at h
  by_cases h1 : d < 48
  · rw [decide_eq_true h1] at h; cases h
  · by_cases h2 : 55 < d
    · rw [decide_eq_true h2] at h; simp at h
    · rw [ti_lt, e1] at h1
      rw [ti_lt, e2] at h2
      rw [ti_sub (by omega) (by omega), e1]; omega
theorem reP_cd {t : Nat → Int32} {n : Nat} : ∀ (r : Nat) (N : List Int32), N.length + r ≤ 25 → Ie5 r (reP t n r N) N := by
  intro r
  induction r with
  | zero => intro N _ v; trivial
  | succ r ih =>
    intro N hN v
    have hi := ih N (by omega)
    have leaf : ∀ (q : Nat) (x y : Th3), (∀ tf cf : Nat → Option Th3, ∀ i c, tf i = some x → cf c = some y → Cd6 tf cf (r + 1) 1 N i (i + 1) c (c + 1)) → Qo5 (Qe5 (r + 1) v.2.1 v.2.2 1 N v.2.1.length v.2.2.length) (.inr (q, v.2.1 ++ [x], v.2.2 ++ [y])) := by
      intro q x y row
      refine ⟨Pre5.ap, Pre5.ap, ?_⟩
      show Cd6 _ _ (r + 1) 1 N v.2.1.length (v.2.1 ++ [x]).length v.2.2.length (v.2.2 ++ [y]).length
      rw [List.length_append, List.length_append]
      exact row _ _ _ _ at_end at_end
    unfold reP
    split
    · trivial
    split
    · cases e : rn t n v.1 with
      | inl f => trivial
      | inr q =>
        refine leaf q _ _ (fun tf cf i c h1 h2 => Cd6.num h1 h2 ?_)
        unfold nvl; split
        · exact Or.inr rfl
        · exact Or.inl rfl
    split
    · split
      · rename_i hm
        exact leaf _ _ _ (fun tf cf i c h1 h2 => Cd6.var h1 h2 hm)
      · trivial
    split
    · rename_i hl
      exact call_qe hl hi v.2
    · unfold rsP
      split
      · rename_i h1
        exact one_qe hi v.2 _ _ (fun tf cf i c j d a b e => Cd6.one a b e h1)
      split
      · unfold putP
        split
        · rename_i hp
          exact one_qe hi v.2 _ _ (fun tf cf i c j d a b e => Cd6.put a b e (pl_r hp))
        · trivial
      split
      · exact sign_qe hi v.2
      split
      · exact let_qe N (by omega) hi (fun a => ih (a :: N) (by show N.length + 1 + r ≤ 25; omega)) v.2
      split
      · exact cho_qe hi v.2
      split
      · exact pair_qe hi v.2
      split
      · unfold getP
        split
        · rename_i hp
          exact leaf _ _ _ (fun tf cf i c h1 h2 => Cd6.get h1 h2 (pl_r hp))
        · trivial
      · trivial
end

section
theorem Qo5.l80 {r : Nat} {t : Nat → Int32} {n : Nat} : ∀ (N : List Int32) (v : Nat × Py), v.2.1.length ≤ 80 → Qo5 (fun T _ => T.length ≤ 80) (reP t n r N v) := by
  have ap : ∀ {T : List Th3} {x : Th3}, ¬ 80 ≤ T.length → (T ++ [x]).length ≤ 80 := fun h => by rw [List.length_append]; show _ + 1 ≤ 80; omega
  induction r with
  | zero => intro N v _; trivial
  | succ r ih =>
    intro N v hv
    have leaf : ∀ (q : Nat) (x y : Th3), ¬ 80 ≤ v.2.1.length → Qo5 (fun T _ => T.length ≤ 80) (.inr (q, v.2.1 ++ [x], v.2.2 ++ [y])) := fun q x y h => ap h
    unfold reP
    split
    · trivial
    rename_i h80
    split
    · cases e : rn t n v.1 with
      | inl f => trivial
      | inr q => exact leaf q _ _ h80
    split
    · split
      · exact leaf _ _ _ h80
      · trivial
    have h1 : ∀ (q : Nat) (x : Th3) (C : List Th3), Qo5 (fun T _ => T.length ≤ 80) (.inr (q, v.2.1 ++ [x], C)) := fun q x C => ap h80
    have go : ∀ (N : List Int32) (o : Rd (Nat × Py)), Qo5 (fun T _ => T.length ≤ 80) o → Qo5 (fun T _ => T.length ≤ 80) (bnd o (reP t n r N)) := fun N o h => h.b (fun w hw => ih N w hw)
    split
    · unfold callP
      have fin : ∀ (l : Int32) (i j : Nat) (w : Nat × Py), w.2.1.length ≤ 80 → Qo5 (fun T _ => T.length ≤ 80) (cfin t n l i j w) := by
        intro l i j w hw
        unfold cfin
        split
        · show (w.2.1.set _ _).length ≤ 80; rw [List.length_set]; exact hw
        · trivial
      have ags : ∀ (l : Int32) (i k j : Nat) (o : Rd (Nat × Py)), Qo5 (fun T _ => T.length ≤ 80) o → Qo5 (fun T _ => T.length ≤ 80) (agP t n (cfin t n l i) (reP t n r N) k j o) := by
        intro l i k
        induction k with
        | zero => intro j o h; exact h.b (fun w hw => fin l i j w hw)
        | succ k ihk =>
          intro j o h
          refine h.b (fun w hw => ?_)
          split
          · exact ihk (j + 1) _ (ih N (w.1 + 1, w.2) hw)
          · exact fin l i j w hw
      refine ((h1 _ _ _).tk).b (fun w hw => ?_)
      split
      · exact fin _ _ _ w hw
      · exact ags _ _ 4 1 _ (ih N w hw)
    · unfold rsP
      split
      · exact (ih N _ (ap h80)).ad (fun _ _ h => h)
      split
      · unfold putP
        split
        · exact (ih N _ (ap h80)).ad (fun _ _ h => h)
        · trivial
      split
      · unfold signP
        refine (ih N _ (ap h80)).b (fun w hw => ?_)
        split
        · exact ((ih N _ (by show (w.2.1.set _ _).length ≤ 80; rw [List.length_set]; exact hw)).tk).ad (fun _ _ h => h)
        · trivial
      split
      · unfold letP
        split
        · refine ((go N _ ((h1 _ _ _).tk)).tk).b (fun w hw => ih _ _ hw)
        · trivial
      split
      · unfold choP
        refine ((go N _ ((h1 _ _ _).tk)).tk).b (fun w hw => ?_)
        refine Qo5.b (Q := fun T _ => T.length ≤ 80) (Qo5.tk ?_) (fun x hx => ?_)
        · exact ih N (w.1, w.2.1, w.2.2 ++ [(6, 0, 0)]) hw
        refine Qo5.b (Q := fun T _ => T.length ≤ 80) (Qo5.tk ?_) (fun y hy => ?_)
        · exact ih N (x.1, x.2.1, (x.2.2 ++ [(7, 0, 0)]).set w.2.2.length (6, Int32.ofNat (x.2.2.length + 1), 0)) hx
        · exact hy
      split
      · unfold pairP
        exact ((go N _ ((ih N _ (ap h80)).tk)).tk).ad (fun _ _ h => h)
      split
      · unfold getP
        split
        · exact leaf _ _ _ h80
        · trivial
      · trivial
theorem nm1_va {t : Nat → Int32} {n : Nat} {v x : Nl} (h : nm1 t n v = .inr x) (hv : ∀ c, c ∈ v.2 → isVa c = true) : ∀ c, c ∈ x.2 → isVa c = true := by
  unfold nm1 at h
  by_cases c : isVa (hr t n v.1) = true ∧ ¬ hr t n v.1 ∈ v.2
  · rw [if_pos c] at h
    cases h
    intro y hy
    rcases List.mem_cons.mp hy with e | e
    · rw [e]; exact c.1
    · exact hv y e
  · rw [if_neg c] at h; cases h
theorem nms_va {t : Nat → Int32} {n : Nat} : ∀ (k : Nat) (o : Rd Nl), (∀ x, o = .inr x → ∀ c, c ∈ x.2 → isVa c = true) → ∀ w, nms t n k o = .inr w → ∀ c, c ∈ w.2 → isVa c = true := by
  intro k
  induction k with
  | zero => intro o h w hw; exact h w hw
  | succ k ih =>
    intro o h w hw
    refine ih _ (fun x hx => ?_) w hw
    obtain ⟨u, hu⟩ := bnd_r hx
    rw [hu] at hx
    have hx : (if hr t n u.1 = 44 then nm1 t n (u.1 + 1, u.2) else .inr u) = .inr x := hx
    by_cases c : hr t n u.1 = 44
    · rw [if_pos c] at hx; exact nm1_va hx (h u hu)
    · rw [if_neg c] at hx; cases hx; exact h _ hu
theorem rnl_va {t : Nat → Int32} {n p : Nat} {v : Nl} (h : tkn t n 41 (rnl t n (tkn t n 40 (.inr (p, [])))) = .inr v) : ∀ c, c ∈ v.2 → isVa c = true := by
  obtain ⟨w, hw⟩ := bnd_r h
  have hv : v.2 = w.2 := by
    rw [hw] at h
    have h : (if hr t n w.1 = 41 then .inr (w.1 + 1, w.2) else .inl w.1 : Rd Nl) = .inr v := h
    by_cases c : hr t n w.1 = 41
    · rw [if_pos c] at h; cases h; rfl
    · rw [if_neg c] at h; cases h
  rw [hv]
  obtain ⟨u, hu⟩ := bnd_r hw
  have hu2 : u.2 = [] := by
    have h : (if hr t n p = 40 then .inr (p + 1, []) else .inl p : Rd Nl) = .inr u := hu
    by_cases c : hr t n p = 40
    · rw [if_pos c] at h; cases h; rfl
    · rw [if_neg c] at h; cases h
  rw [hu] at hw
  have hw : (if hr t n u.1 = 41 then .inr u else nms t n 4 (nm1 t n u)) = .inr w := hw
  by_cases c : hr t n u.1 = 41
  · rw [if_pos c] at hw; cases hw; rw [hu2]; intro c hc; cases hc
  · rw [if_neg c] at hw
    exact nms_va 4 _ (fun x hx => nm1_va hx (by rw [hu2]; intro c hc; cases hc)) w hw
def Fc6 (C : List Th3) (f : Fn5) : Prop := isL f.1 = true ∧ (f.2.1.length ≤ 5 ∧ ∀ c, c ∈ f.2.1 → isVa c = true) ∧ f.2.2.1.length ≤ 80 ∧ ∃ e, Cd6 (at5 f.2.2.1) (at5 C) 20 1 f.2.1 0 f.2.2.1.length f.2.2.2 e ∧ C[e]? = some (14, 0, 0)
theorem Fc6.pre {C C2 : List Th3} {f : Fn5} (h : Fc6 C f) (p : Pre5 C C2) : Fc6 C2 f := by
  obtain ⟨h1, h2, h3, e, h4, h5⟩ := h
  have hl : e < C.length := lt_of_some h5
  exact ⟨h1, h2, h3, e, h4.cong (fun _ _ _ => rfl) (fun x _ hx => p.at (by omega)), by rw [p.at hl]; exact h5⟩
theorem rfP_cd {t : Nat → Int32} {n p : Nat} {G : List Fn5} {C : List Th3} {w : Nat × List Fn5 × List Th3} (h : rfP t n G C p = .inr w) : ∃ f, w.2.1 = f :: G ∧ Pre5 C w.2.2 ∧ Fc6 w.2.2 f := by
  unfold rfP at h
  by_cases hL : isL (hr t n p) = true
  · rw [if_pos hL] at h
    cases ho : tkn t n 41 (rnl t n (tkn t n 40 (.inr (p + 1, [])))) with
    | inl f => rw [ho] at h; cases h
    | inr v =>
      rw [ho] at h
      have hv : v.2.length ≤ 5 := rnl_len ho
      have h : rfeP t n G C p v = .inr w := h
      unfold rfeP at h
      by_cases c61 : hr t n v.1 = 61
      · rw [if_pos c61] at h
        by_cases hm : (hr t n p, v.2.length) ∈ G.map fkey
        · rw [if_pos hm] at h; cases h
        · rw [if_neg hm] at h
          have q1 := (reP_cd (t := t) (n := n) 20 v.2 (by omega)) (v.1 + 1, ([], C))
          have q2 := Qo5.l80 (t := t) (n := n) (r := 20) v.2 (v.1 + 1, ([], C)) (show (0 : Nat) ≤ 80 by decide)
          cases hr' : reP t n 20 v.2 (v.1 + 1, ([], C)) with
          | inl f => rw [hr'] at h; cases h
          | inr x =>
            rw [hr'] at h q1 q2
            obtain ⟨_, q4, q5⟩ := q1
            have q4 : Pre5 C x.2.2 := q4
            have q5 : Cd6 (at5 x.2.1) (at5 x.2.2) 20 1 v.2 0 x.2.1.length C.length x.2.2.length := q5
            have q2 : x.2.1.length ≤ 80 := q2
            have h : bnd (if hr t n x.1 = 59 then .inr (x.1 + 1, x.2) else .inl x.1 : Rd (Nat × Py)) (fun w => .inr (w.1, (hr t n p, v.2, w.2.1, C.length) :: G, w.2.2 ++ [(14, 0, 0)])) = .inr w := h
            by_cases c59 : hr t n x.1 = 59
            · rw [if_pos c59] at h
              have h : (.inr (x.1 + 1, (hr t n p, v.2, x.2.1, C.length) :: G, x.2.2 ++ [(14, 0, 0)]) : Rd (Nat × List Fn5 × List Th3)) = .inr w := h
              cases h
              exact ⟨_, rfl, q4.tr Pre5.ap, hL, ⟨hv, rnl_va ho⟩, q2, x.2.2.length, qe_cong q5 Pre5.rf Pre5.ap, at_end⟩
            · rw [if_neg c59] at h; cases h
      · rw [if_neg c61] at h; cases h
  · rw [if_neg hL] at h; cases h
theorem rpgP_cd {t : Nat → Int32} {n : Nat} : ∀ (f : Nat) (v : Nat × List Fn5 × List Th3) {G : List Fn5} {C : List Th3}, (∀ g, g ∈ v.2.1 → Fc6 v.2.2 g) → rpgP t n f v = .inr (G, C) → ∀ g, g ∈ G → Fc6 C g := by
  intro f
  induction f with
  | zero => intro v G C _ h; cases h
  | succ f ih =>
    intro v G C hv h
    have h : (if n ≤ v.1 then (.inr v.2 : Rd (List Fn5 × List Th3)) else bnd (rfP t n v.2.1 v.2.2 v.1) (rpgP t n f)) = .inr (G, C) := h
    by_cases c : n ≤ v.1
    · rw [if_pos c] at h
      have e := Sum.inr.inj h
      intro g hg
      have h2 := hv g
      rw [e] at h2
      exact h2 hg
    · rw [if_neg c] at h
      cases e : rfP t n v.2.1 v.2.2 v.1 with
      | inl x => rw [e] at h; cases h
      | inr w =>
        rw [e] at h
        obtain ⟨g, g1, g2, g3⟩ := rfP_cd e
        refine ih w (fun y hy => ?_) h
        rw [g1] at hy
        rcases List.mem_cons.mp hy with e2 | e2
        · rw [e2]; exact g3
        · exact (hv y e2).pre g2
theorem Prg5.cd {μx μm : Mem} (h : Prg5 μx μm) : ∃ G C, Pc5 μx G C ∧ Pn5 μm G ∧ ∀ g, g ∈ G → Fc6 C g := by
  obtain ⟨G, C, h1, h2, h3⟩ := h
  refine ⟨G, C, h1, h2, ?_⟩
  rcases h3 with ⟨e, _⟩ | ⟨t, n, e⟩
  · rw [e]; intro g hg; cases hg
  · exact rpgP_cd 801 (0, [], []) (fun g hg => by cases hg) e
end

section
theorem mk_n (m : Nat) (hm : m ≤ 4) (k : Int32) : s_X0_make (nI m) k = lN (2 ^ 32 * m + k.toBitVec.toNat) := by
  rw [lx_make]
  unfold x_make
  rw [mk_lo]
  have h : (nI m).toInt64 <<< ((32 : Int32).toInt64 &&& 63) = lN (2 ^ 32 * m) := by
    rcases (show m = 0 ∨ m = 1 ∨ m = 2 ∨ m = 3 ∨ m = 4 by omega) with e | e | e | e | e <;> subst e <;> decide
  rw [h, fb_or_sumL m k.toBitVec.isLt]
theorem mk_sh (m : Nat) (hm : m ≤ 4) (k : Int32) : ((s_X0_make (nI m) k).toUInt64 >>> ((32 : Int32).toInt64.toUInt64 &&& Int64.toUInt64 63)).toInt64 = lN m := by
  have hk := k.toBitVec.isLt
  rw [mk_n m hm, show ((32 : Int32).toInt64.toUInt64 &&& Int64.toUInt64 63) = ((nI 32).toInt64.toUInt64 &&& Int64.toUInt64 63) from rfl, wb_shr (by omega) (by decide), show (2 ^ 32 * m + k.toBitVec.toNat) / 2 ^ 32 = m by omega]
theorem mk_kind (m : Nat) (hm : m ≤ 4) (k : Int32) : s_X0_kind (s_X0_make (nI m) k) = nI m := by
  rw [s_X0_kind_eq]
  exact (congrArg Int64.toInt32 (mk_sh m hm k)).trans (lN_i m)
theorem mk_bits (m : Nat) (hm : m ≤ 4) (k : Int32) : s_X0_bits (s_X0_make (nI m) k) = k := by
  have hk := k.toBitVec.isLt
  rw [s_X0_bits_eq, mk_n m hm, lN_i]
  apply nu_inj
  show (BitVec.ofNat 32 _).toNat = _
  rw [BitVec.toNat_ofNat]
  omega
theorem mk_i32 (m : Nat) (hm : m ≤ 4) (k : Int32) : (s_X0_make (nI m) k).toInt32 = k := by
  have := mk_bits m hm k
  rw [s_X0_bits_eq] at this; exact this
theorem mk_inj {m m2 : Nat} (hm : m ≤ 4) (hm2 : m2 ≤ 4) {k k2 : Int32} (h : s_X0_make (nI m) k = s_X0_make (nI m2) k2) : m = m2 ∧ k = k2 := by
  refine ⟨?_, by have := congrArg s_X0_bits h; rw [mk_bits m hm, mk_bits m2 hm2] at this; exact this⟩
  have h2 := congrArg s_X0_kind h
  rw [mk_kind m hm, mk_kind m2 hm2] at h2
  rcases (show m = 0 ∨ m = 1 ∨ m = 2 ∨ m = 3 ∨ m = 4 by omega) with e | e | e | e | e <;> rcases (show m2 = 0 ∨ m2 = 1 ∨ m2 = 2 ∨ m2 = 3 ∨ m2 = 4 by omega) with e2 | e2 | e2 | e2 | e2 <;> subst e <;> subst e2 <;> first | rfl | exact absurd h2 (by decide)
theorem mk_known (m : Nat) (hm : m ≤ 4) (k : Int32) : (s_X0_isKnown (s_X0_make (nI m) k) = 0) ↔ 2 ≤ m := by
  rw [s_X0_isKnown_eq, mk_sh m hm]
  rcases (show m = 0 ∨ m = 1 ∨ m = 2 ∨ m = 3 ∨ m = 4 by omega) with e | e | e | e | e <;> subst e <;> decide
theorem mk_zero : (0 : Int64) = s_X0_make (nI 0) 0 := by
  rw [mk_n 0 (by decide)]; decide
def Vt7 (sz : Nat) (f1 : Nat → Int64) (f2 : Nat → Int64) (wt : Nat → Int32) (dp : Nat → Int32) (hp : Nat) (hs : Nat → Int32) (hb : Nat → Int32) (h2 : Nat → Int32) (hw : Nat → Int32) (hd : Nat → Int32) (x0 : Int64) (x1 : Nat) (x2 : Nat) (x3 : Nat) : Prop := ∀ P : (Int64) → (Nat) → (Nat) → (Nat) → Prop, (∀ (x : Nat) (m : Nat) (b : Int32), (x < hp) → (hs x = nI m ∧ hb x = b) → (m = 0 ∨ m = 1 ∨ m = 3) → (hw x = 1 ∧ hd x = 0) → P (s_X0_make (nI m) b) (x) (1) (0)) → (∀ (k : Nat) (x : Nat) (y : Nat) (z : Nat) (w1 : Nat) (w2 : Nat) (d1 : Nat) (d2 : Nat), (k < sz ∧ x < hp) → (hs x = 2 ∧ (hb x).toInt = (y : Int) ∧ (h2 x).toInt = (z : Int)) → (((wt k).toInt = ((1 + w1 + w2 : Nat) : Int) ∧ (dp k).toInt = ((1 + max d1 d2 : Nat) : Int)) ∧ (hw x).toInt = ((1 + w1 + w2 : Nat) : Int) ∧ (hd x).toInt = ((1 + max d1 d2 : Nat) : Int)) → (P (f1 k) (y) (w1) (d1)) → (P (f2 k) (z) (w2) (d2)) → P (s_X0_make (nI 2) (nI k)) (x) (1 + w1 + w2) (1 + max d1 d2)) →  P x0 x1 x2 x3
theorem Vt7.leaf {sz : Nat} {f1 : Nat → Int64} {f2 : Nat → Int64} {wt : Nat → Int32} {dp : Nat → Int32} {hp : Nat} {hs : Nat → Int32} {hb : Nat → Int32} {h2 : Nat → Int32} {hw : Nat → Int32} {hd : Nat → Int32} {x : Nat} {m : Nat} {b : Int32} (e1 : x < hp) (e2 : hs x = nI m ∧ hb x = b) (e3 : m = 0 ∨ m = 1 ∨ m = 3) (e4 : hw x = 1 ∧ hd x = 0) : Vt7 sz f1 f2 wt dp hp hs hb h2 hw hd (s_X0_make (nI m) b) (x) (1) (0) := fun P h_leaf h_node => h_leaf x m b e1 e2 e3 e4
theorem Vt7.node {sz : Nat} {f1 : Nat → Int64} {f2 : Nat → Int64} {wt : Nat → Int32} {dp : Nat → Int32} {hp : Nat} {hs : Nat → Int32} {hb : Nat → Int32} {h2 : Nat → Int32} {hw : Nat → Int32} {hd : Nat → Int32} {k : Nat} {x : Nat} {y : Nat} {z : Nat} {w1 : Nat} {w2 : Nat} {d1 : Nat} {d2 : Nat} (e1 : k < sz ∧ x < hp) (e2 : hs x = 2 ∧ (hb x).toInt = (y : Int) ∧ (h2 x).toInt = (z : Int)) (e3 : ((wt k).toInt = ((1 + w1 + w2 : Nat) : Int) ∧ (dp k).toInt = ((1 + max d1 d2 : Nat) : Int)) ∧ (hw x).toInt = ((1 + w1 + w2 : Nat) : Int) ∧ (hd x).toInt = ((1 + max d1 d2 : Nat) : Int)) (a : Vt7 sz f1 f2 wt dp hp hs hb h2 hw hd (f1 k) (y) (w1) (d1)) (b : Vt7 sz f1 f2 wt dp hp hs hb h2 hw hd (f2 k) (z) (w2) (d2)) : Vt7 sz f1 f2 wt dp hp hs hb h2 hw hd (s_X0_make (nI 2) (nI k)) (x) (1 + w1 + w2) (1 + max d1 d2) := fun P h_leaf h_node => h_node k x y z w1 w2 d1 d2 e1 e2 e3 (a P h_leaf h_node) (b P h_leaf h_node)
theorem Vt7.ind {sz : Nat} {f1 : Nat → Int64} {f2 : Nat → Int64} {wt : Nat → Int32} {dp : Nat → Int32} {hp : Nat} {hs : Nat → Int32} {hb : Nat → Int32} {h2 : Nat → Int32} {hw : Nat → Int32} {hd : Nat → Int32} {M : (Int64) → (Nat) → (Nat) → (Nat) → Prop} (c_leaf : ∀ (x : Nat) (m : Nat) (b : Int32), (x < hp) → (hs x = nI m ∧ hb x = b) → (m = 0 ∨ m = 1 ∨ m = 3) → (hw x = 1 ∧ hd x = 0) → M (s_X0_make (nI m) b) (x) (1) (0)) (c_node : ∀ (k : Nat) (x : Nat) (y : Nat) (z : Nat) (w1 : Nat) (w2 : Nat) (d1 : Nat) (d2 : Nat), (k < sz ∧ x < hp) → (hs x = 2 ∧ (hb x).toInt = (y : Int) ∧ (h2 x).toInt = (z : Int)) → (((wt k).toInt = ((1 + w1 + w2 : Nat) : Int) ∧ (dp k).toInt = ((1 + max d1 d2 : Nat) : Int)) ∧ (hw x).toInt = ((1 + w1 + w2 : Nat) : Int) ∧ (hd x).toInt = ((1 + max d1 d2 : Nat) : Int)) → (Vt7 sz f1 f2 wt dp hp hs hb h2 hw hd (f1 k) (y) (w1) (d1)) → (M (f1 k) (y) (w1) (d1)) → (Vt7 sz f1 f2 wt dp hp hs hb h2 hw hd (f2 k) (z) (w2) (d2)) → (M (f2 k) (z) (w2) (d2)) → M (s_X0_make (nI 2) (nI k)) (x) (1 + w1 + w2) (1 + max d1 d2)) {x0 : Int64} {x1 : Nat} {x2 : Nat} {x3 : Nat} (h : Vt7 sz f1 f2 wt dp hp hs hb h2 hw hd (x0) (x1) (x2) (x3)) : M (x0) (x1) (x2) (x3) := (h (fun x0 x1 x2 x3 => Vt7 sz f1 f2 wt dp hp hs hb h2 hw hd (x0) (x1) (x2) (x3) ∧ M (x0) (x1) (x2) (x3)) (fun x m b e1 e2 e3 e4 => ⟨Vt7.leaf e1 e2 e3 e4, c_leaf x m b e1 e2 e3 e4⟩) (fun k x y z w1 w2 d1 d2 e1 e2 e3 a b => ⟨Vt7.node e1 e2 e3 a.1 b.1, c_node k x y z w1 w2 d1 d2 e1 e2 e3 a.1 a.2 b.1 b.2⟩)).2
theorem Vt7.inv {sz : Nat} {f1 : Nat → Int64} {f2 : Nat → Int64} {wt : Nat → Int32} {dp : Nat → Int32} {hp : Nat} {hs : Nat → Int32} {hb : Nat → Int32} {h2 : Nat → Int32} {hw : Nat → Int32} {hd : Nat → Int32} {x0 : Int64} {x1 : Nat} {x2 : Nat} {x3 : Nat} (h : Vt7 sz f1 f2 wt dp hp hs hb h2 hw hd (x0) (x1) (x2) (x3)) : (∃ (x : Nat) (m : Nat) (b : Int32), x0 = (s_X0_make (nI m) b) ∧ x1 = (x) ∧ x2 = (1) ∧ x3 = (0) ∧ (x < hp) ∧ (hs x = nI m ∧ hb x = b) ∧ (m = 0 ∨ m = 1 ∨ m = 3) ∧ (hw x = 1 ∧ hd x = 0)) ∨ (∃ (k : Nat) (x : Nat) (y : Nat) (z : Nat) (w1 : Nat) (w2 : Nat) (d1 : Nat) (d2 : Nat), x0 = (s_X0_make (nI 2) (nI k)) ∧ x1 = (x) ∧ x2 = (1 + w1 + w2) ∧ x3 = (1 + max d1 d2) ∧ (k < sz ∧ x < hp) ∧ (hs x = 2 ∧ (hb x).toInt = (y : Int) ∧ (h2 x).toInt = (z : Int)) ∧ (((wt k).toInt = ((1 + w1 + w2 : Nat) : Int) ∧ (dp k).toInt = ((1 + max d1 d2 : Nat) : Int)) ∧ (hw x).toInt = ((1 + w1 + w2 : Nat) : Int) ∧ (hd x).toInt = ((1 + max d1 d2 : Nat) : Int)) ∧ (Vt7 sz f1 f2 wt dp hp hs hb h2 hw hd (f1 k) (y) (w1) (d1)) ∧ (Vt7 sz f1 f2 wt dp hp hs hb h2 hw hd (f2 k) (z) (w2) (d2))) := Vt7.ind (M := fun x0 x1 x2 x3 => (∃ (x : Nat) (m : Nat) (b : Int32), x0 = (s_X0_make (nI m) b) ∧ x1 = (x) ∧ x2 = (1) ∧ x3 = (0) ∧ (x < hp) ∧ (hs x = nI m ∧ hb x = b) ∧ (m = 0 ∨ m = 1 ∨ m = 3) ∧ (hw x = 1 ∧ hd x = 0)) ∨ (∃ (k : Nat) (x : Nat) (y : Nat) (z : Nat) (w1 : Nat) (w2 : Nat) (d1 : Nat) (d2 : Nat), x0 = (s_X0_make (nI 2) (nI k)) ∧ x1 = (x) ∧ x2 = (1 + w1 + w2) ∧ x3 = (1 + max d1 d2) ∧ (k < sz ∧ x < hp) ∧ (hs x = 2 ∧ (hb x).toInt = (y : Int) ∧ (h2 x).toInt = (z : Int)) ∧ (((wt k).toInt = ((1 + w1 + w2 : Nat) : Int) ∧ (dp k).toInt = ((1 + max d1 d2 : Nat) : Int)) ∧ (hw x).toInt = ((1 + w1 + w2 : Nat) : Int) ∧ (hd x).toInt = ((1 + max d1 d2 : Nat) : Int)) ∧ (Vt7 sz f1 f2 wt dp hp hs hb h2 hw hd (f1 k) (y) (w1) (d1)) ∧ (Vt7 sz f1 f2 wt dp hp hs hb h2 hw hd (f2 k) (z) (w2) (d2)))) (fun x m b e1 e2 e3 e4 => Or.inl ⟨x, m, b, rfl, rfl, rfl, rfl, e1, e2, e3, e4⟩) (fun k x y z w1 w2 d1 d2 e1 e2 e3 a _ b _ => Or.inr (⟨k, x, y, z, w1, w2, d1, d2, rfl, rfl, rfl, rfl, e1, e2, e3, a, b⟩)) h
def Va7 (μx μm : Mem) (v : Int64) (x w d : Nat) : Prop := Vt7 (μx.1 30 5).toNatClampNeg (μx.2.1 31) (μx.2.1 32) (μx.1 33) (μx.1 34) (μm.1 0 56).toNatClampNeg (μm.1 30) (μm.1 31) (μm.1 32) (μm.1 33) (μm.1 34) v x w d
def Gs7 (μ q : Mem) : Prop := (μ.1 30 5).toNatClampNeg ≤ (q.1 30 5).toNatClampNeg ∧ ∀ k, k < (μ.1 30 5).toNatClampNeg → q.2.1 31 k = μ.2.1 31 k ∧ q.2.1 32 k = μ.2.1 32 k ∧ q.1 33 k = μ.1 33 k ∧ q.1 34 k = μ.1 34 k
def Gh7 (μ q : Mem) : Prop := (μ.1 0 56).toNatClampNeg ≤ (q.1 0 56).toNatClampNeg ∧ ∀ k, k < (μ.1 0 56).toNatClampNeg → q.1 30 k = μ.1 30 k ∧ q.1 31 k = μ.1 31 k ∧ q.1 32 k = μ.1 32 k ∧ q.1 33 k = μ.1 33 k ∧ q.1 34 k = μ.1 34 k
theorem Gs7.rf {μ : Mem} : Gs7 μ μ := ⟨Nat.le_refl _, fun _ _ => ⟨rfl, rfl, rfl, rfl⟩⟩
theorem Gh7.rf {μ : Mem} : Gh7 μ μ := ⟨Nat.le_refl _, fun _ _ => ⟨rfl, rfl, rfl, rfl, rfl⟩⟩
theorem Gs7.tr {μ q z : Mem} (h : Gs7 μ q) (h2 : Gs7 q z) : Gs7 μ z := by
  refine ⟨Nat.le_trans h.1 h2.1, fun k hk => ?_⟩
  obtain ⟨a1, a2, a3, a4⟩ := h.2 k hk
  obtain ⟨b1, b2, b3, b4⟩ := h2.2 k (Nat.lt_of_lt_of_le hk h.1)
  exact ⟨b1.trans a1, b2.trans a2, b3.trans a3, b4.trans a4⟩
theorem Gh7.tr {μ q z : Mem} (h : Gh7 μ q) (h2 : Gh7 q z) : Gh7 μ z := by
  refine ⟨Nat.le_trans h.1 h2.1, fun k hk => ?_⟩
  obtain ⟨a1, a2, a3, a4, a5⟩ := h.2 k hk
  obtain ⟨b1, b2, b3, b4, b5⟩ := h2.2 k (Nat.lt_of_lt_of_le hk h.1)
  exact ⟨b1.trans a1, b2.trans a2, b3.trans a3, b4.trans a4, b5.trans a5⟩
theorem Va7.gr {μx μm q z : Mem} {v : Int64} {x w d : Nat} (h : Va7 μx μm v x w d) (g : Gs7 μx q) (g2 : Gh7 μm z) : Va7 q z v x w d := by
  unfold Va7 at h ⊢
  refine Vt7.ind (M := fun v x w d => Vt7 (q.1 30 5).toNatClampNeg (q.2.1 31) (q.2.1 32) (q.1 33) (q.1 34) (z.1 0 56).toNatClampNeg (z.1 30) (z.1 31) (z.1 32) (z.1 33) (z.1 34) v x w d) ?_ ?_ h
  · intro x m b e1 e2 e3 e4
    obtain ⟨c1, c2, _, c4, c5⟩ := g2.2 x e1
    exact Vt7.leaf (Nat.lt_of_lt_of_le e1 g2.1) ⟨by rw [c1]; exact e2.1, by rw [c2]; exact e2.2⟩ e3 ⟨by rw [c4]; exact e4.1, by rw [c5]; exact e4.2⟩
  · intro k x y z' w1 w2 d1 d2 e1 e2 e3 _ ia _ ib
    obtain ⟨c1, c2, c3, c4, c5⟩ := g2.2 x e1.2
    obtain ⟨b1, b2, b3, b4⟩ := g.2 k e1.1
    refine Vt7.node (y := y) (z := z') ⟨Nat.lt_of_lt_of_le e1.1 g.1, Nat.lt_of_lt_of_le e1.2 g2.1⟩ ⟨by rw [c1]; exact e2.1, by rw [c2]; exact e2.2.1, by rw [c3]; exact e2.2.2⟩ ⟨⟨by rw [b3]; exact e3.1.1, by rw [b4]; exact e3.1.2⟩, by rw [c4]; exact e3.2.1, by rw [c5]; exact e3.2.2⟩ ?_ ?_
    · rw [b1]; exact ia
    · rw [b2]; exact ib
end

section
theorem c_push {μ : Mem} {h : Nat} (v : Int64) (hh : (μ.1 30 7).toInt = (h : Int)) (hb : h < 2480) : pk (p_X8_push v μ) (fun q => q = sF (sL μ 36 h v) 30 7 (μ.1 30 7 + 1)) := by
  have e : (2480 : Int32).toInt = 2480 := by decide
  rw [p_X8_push_eq, if_neg (by rw [ti_le, e]; omega), tn_of hh]
  exact pk_gd (fun _ => pk_bvy (fun μ2 e2 => pk_bvy (fun μ3 e3 => pk_some (by rw [e3, e2]; rfl))))
theorem c_pop {μ : Mem} {h : Nat} (hh : (μ.1 30 7).toInt = ((h + 1 : Nat) : Int)) : pk (p_X8_pop μ) (fun r => r.1 = μ.2.1 36 h ∧ r.2 = sF μ 30 7 (μ.1 30 7 - 1)) := by
  have e1 : (1 : Int32).toInt = 1 := by decide
  have hi := ti_hi (μ.1 30 7)
  rw [p_X8_pop_eq, if_pos (by rw [ti_le, e1]; omega)]
  refine pk_bvy (fun μ2 e2 => pk_gd (fun _ => pk_some ⟨?_, e2⟩))
  have : (μ2.1 30 7).toNatClampNeg = h := tn_of (by rw [e2, sF_v, ti_sub (by omega) (by omega), hh, e1]; omega)
  show μ2.2.1 36 (μ2.1 30 7).toNatClampNeg = _
  rw [this, e2]; rfl
theorem dslot {μ : Mem} {D s : Nat} {a : Int32} (hD : (μ.1 30 10).toInt = (D : Int)) (hs : a.toInt = (s : Int)) (hb : 32 * D + s < 992) : ((μ.1 30 10) * 32 + a).toInt = ((32 * D + s : Nat) : Int) := by
  have e : (32 : Int32).toInt = 32 := by decide
  have h1 : ((μ.1 30 10) * 32).toInt = 32 * (D : Int) := by rw [ti_mulc e (by omega) (by omega), hD]; omega
  rw [ti_add (by omega) (by omega), h1, hs]; omega
theorem c_varAt {μ : Mem} {D s : Nat} {a : Int32} (hD : (μ.1 30 10).toInt = (D : Int)) (hs : a.toInt = (s : Int)) (hb : 32 * D + s < 992) : pk (p_X8_varAt a μ) (fun r => r.1 = μ.2.1 37 (32 * D + s) ∧ r.2 = μ) := by
  have e : (992 : Int32).toInt = 992 := by decide
  have e0 : (0 : Int32).toInt = 0 := by decide
  have d := dslot hD hs hb
  rw [p_X8_varAt_eq]
  refine pk_bvy (fun v1 e1 => ?_)
  rw [← e1] at d
  rw [if_neg (by rw [ti_lt, e0]; omega), if_neg (by rw [ti_le, e]; omega), tn_of d]
  exact pk_gd (fun _ => pk_some ⟨rfl, rfl⟩)
theorem c_setVar {μ : Mem} {D s : Nat} {a : Int32} (v : Int64) (hD : (μ.1 30 10).toInt = (D : Int)) (hs : a.toInt = (s : Int)) (hb : 32 * D + s < 992) : pk (p_X8_setVar a v μ) (fun q => q = sL μ 37 (32 * D + s) v) := by
  have e : (992 : Int32).toInt = 992 := by decide
  have e0 : (0 : Int32).toInt = 0 := by decide
  have d := dslot hD hs hb
  rw [p_X8_setVar_eq]
  refine pk_bvy (fun v1 e1 => ?_)
  rw [← e1] at d
  rw [if_neg (by rw [ti_lt, e0]; omega), if_neg (by rw [ti_le, e]; omega), tn_of d]
  exact pk_gd (fun _ => pk_bvy (fun μ4 e4 => pk_some e4))
theorem va_kind {μx μm : Mem} {v : Int64} {x w d : Nat} (h : Va7 μx μm v x w d) : x < (μm.1 0 56).toNatClampNeg ∧ ((∃ m : Nat, (m = 0 ∨ m = 1 ∨ m = 3) ∧ v = s_X0_make (nI m) (μm.1 31 x) ∧ μm.1 30 x = nI m ∧ w = 1 ∧ d = 0 ∧ (μm.1 33 x).toInt = 1 ∧ (μm.1 34 x).toInt = 0) ∨ (∃ k y z w1 w2 d1 d2 : Nat, v = s_X0_make (nI 2) (nI k) ∧ k < (μx.1 30 5).toNatClampNeg ∧ μm.1 30 x = 2 ∧ (μm.1 31 x).toInt = (y : Int) ∧ (μm.1 32 x).toInt = (z : Int) ∧ w = 1 + w1 + w2 ∧ d = 1 + max d1 d2 ∧ (μx.1 33 k).toInt = (w : Int) ∧ (μx.1 34 k).toInt = (d : Int) ∧ (μm.1 33 x).toInt = (w : Int) ∧ (μm.1 34 x).toInt = (d : Int) ∧ Va7 μx μm (μx.2.1 31 k) y w1 d1 ∧ Va7 μx μm (μx.2.1 32 k) z w2 d2)) := by
  unfold Va7 at h
  rcases h.inv with ⟨x', m, b, rfl, rfl, rfl, rfl, e1, e2, e3, e4⟩ | ⟨k, x', y, z, w1, w2, d1, d2, rfl, rfl, rfl, rfl, e1, e2, e3, a, b⟩
  · refine ⟨e1, Or.inl ⟨m, e3, by rw [e2.2], e2.1, rfl, rfl, by rw [e4.1]; decide, by rw [e4.2]; decide⟩⟩
  · exact ⟨e1.2, Or.inr ⟨k, y, z, w1, w2, d1, d2, rfl, e1.1, e2.1, e2.2.1, e2.2.2, rfl, rfl, e3.1.1, e3.1.2, e3.2.1, e3.2.2, a, b⟩⟩
theorem sz_lt {μ : Mem} {k : Nat} (hk : k < (μ.1 30 5).toNatClampNeg) : (nI k).toInt = (k : Int) ∧ (k : Int) < (μ.1 30 5).toInt := by
  have hb := ti_hi (μ.1 30 5)
  have h0 : 0 ≤ (μ.1 30 5).toInt := by
    rcases (show 0 ≤ (μ.1 30 5).toInt ∨ (μ.1 30 5).toInt < 0 by omega) with e | e
    · exact e
    · have : (μ.1 30 5).toNatClampNeg = 0 := by
        show (μ.1 30 5).toInt.toNat = 0; omega
      omega
  have h1 := ti_nat h0
  refine ⟨?_, by omega⟩
  show (Int32.ofNat k).toInt = _
  exact Int32.toInt_ofNat_of_lt (by omega)
theorem lg_2 {m : Nat} (hm : m ≤ 4) : (lg_cmp (lN m) 2 = 0) ↔ m = 2 := by
  rcases (show m = 0 ∨ m = 1 ∨ m = 2 ∨ m = 3 ∨ m = 4 by omega) with e | e | e | e | e <;> subst e <;> decide
theorem c_isPair {μx μm : Mem} {v : Int64} {x w d : Nat} (h : Va7 μx μm v x w d) : pk (p_X8_isPair v μx) (fun r => r.2 = μx ∧ (r.1 = 0 ↔ μm.1 30 x ≠ 2) ∧ (r.1 = 0 ∨ r.1 = 1)) := by
  have e0 : (0 : Int32).toInt = 0 := by decide
  rw [p_X8_isPair_eq]
  rcases (va_kind h).2 with ⟨m, hm, rfl, hs, _⟩ | ⟨k, y, z, w1, w2, d1, d2, rfl, hk, hs, _⟩
  · have hm4 : m ≤ 4 := by omega
    rw [mk_sh m hm4, if_neg (by rw [lg_2 hm4]; omega)]
    refine pk_some ⟨rfl, ⟨fun _ => ?_, fun _ => rfl⟩, Or.inl rfl⟩
    rw [hs]
    rcases hm with e | e | e <;> subst e <;> decide
  · obtain ⟨k1, k2⟩ := sz_lt hk
    rw [mk_sh 2 (by decide), if_pos (by decide), mk_i32 2 (by decide), if_neg (by rw [ti_lt, e0, k1]; omega), if_neg (by rw [ti_le, k1]; omega)]
    exact pk_some ⟨rfl, ⟨fun e => absurd e (show ¬ (1 : Int32) = 0 by decide), fun e => absurd hs e⟩, Or.inr rfl⟩
theorem c_weight {μx μm : Mem} {v : Int64} {x w d : Nat} (h : Va7 μx μm v x w d) : pk (p_X8_weightOf v μx) (fun r => r.2 = μx ∧ r.1.toInt = (w : Int)) := by
  rw [p_X8_weightOf_eq]
  refine pk_bd (c_isPair h) ?_
  rintro r2 μ1 ⟨e, hz, _⟩
  have e : μ1 = μx := e
  subst e
  have hz : r2 = 0 ↔ μm.1 30 x ≠ 2 := hz
  rcases (va_kind h).2 with ⟨m, hm, rfl, hs, hw, _⟩ | ⟨k, y, z, w1, w2, d1, d2, rfl, hk, hs, _, _, _, _, hw, _⟩
  · rw [if_pos (hz.mpr (by rw [hs]; rcases hm with e | e | e <;> subst e <;> decide))]
    exact pk_some ⟨rfl, by rw [hw]; show (1 : Int32).toInt = ((1 : Nat) : Int); decide⟩
  · rw [if_neg (fun e => (hz.mp e) hs), mk_bits 2 (by decide), tn_of (sz_lt hk).1]
    exact pk_gd (fun _ => pk_some ⟨rfl, hw⟩)
theorem c_deep {μx μm : Mem} {v : Int64} {x w d : Nat} (h : Va7 μx μm v x w d) : pk (p_X8_deepOf v μx) (fun r => r.2 = μx ∧ r.1.toInt = (d : Int)) := by
  rw [p_X8_deepOf_eq]
  refine pk_bd (c_isPair h) ?_
  rintro r2 μ1 ⟨e, hz, _⟩
  have e : μ1 = μx := e
  subst e
  have hz : r2 = 0 ↔ μm.1 30 x ≠ 2 := hz
  rcases (va_kind h).2 with ⟨m, hm, rfl, hs, _, hd, _⟩ | ⟨k, y, z, w1, w2, d1, d2, rfl, hk, hs, _, _, _, _, _, hd, _⟩
  · rw [if_pos (hz.mpr (by rw [hs]; rcases hm with e | e | e <;> subst e <;> decide))]
    exact pk_some ⟨rfl, by rw [hd]; show (0 : Int32).toInt = ((0 : Nat) : Int); decide⟩
  · rw [if_neg (fun e => (hz.mp e) hs), mk_bits 2 (by decide), tn_of (sz_lt hk).1]
    exact pk_gd (fun _ => pk_some ⟨rfl, hd⟩)
theorem c_first {μx μm : Mem} {v : Int64} {x w d : Nat} (h : Va7 μx μm v x w d) : pk (p_X8_firstOf v μx) (fun r => r.2 = μx ∧ ((μm.1 30 x ≠ 2 ∧ r.1 = v) ∨ (∃ y w1 d1 : Nat, μm.1 30 x = 2 ∧ (μm.1 31 x).toInt = (y : Int) ∧ Va7 μx μm r.1 y w1 d1 ∧ w1 + 1 ≤ w ∧ d1 + 1 ≤ d))) := by
  rw [p_X8_firstOf_eq]
  refine pk_bd (c_isPair h) ?_
  rintro r2 μ1 ⟨e, hz, _⟩
  have e : μ1 = μx := e
  subst e
  have hz : r2 = 0 ↔ μm.1 30 x ≠ 2 := hz
  rcases (va_kind h).2 with ⟨m, hm, e, hs, _⟩ | ⟨k, y, z, w1, w2, d1, d2, e, hk, hs, hy, hz', hw, hd, _, _, _, _, a, b⟩
  · have hn : μm.1 30 x ≠ 2 := by rw [hs]; rcases hm with e | e | e <;> subst e <;> decide
    rw [if_pos (hz.mpr hn)]
    exact pk_some ⟨rfl, Or.inl ⟨hn, rfl⟩⟩
  · rw [if_neg (fun e => (hz.mp e) hs), e, mk_bits 2 (by decide), tn_of (sz_lt hk).1]
    exact pk_gd (fun _ => pk_some ⟨rfl, Or.inr ⟨y, w1, d1, hs, hy, a, by omega, by omega⟩⟩)
theorem c_second {μx μm : Mem} {v : Int64} {x w d : Nat} (h : Va7 μx μm v x w d) : pk (p_X8_secondOf v μx) (fun r => r.2 = μx ∧ ((μm.1 30 x ≠ 2 ∧ r.1 = 0) ∨ (∃ z w1 d1 : Nat, μm.1 30 x = 2 ∧ (μm.1 32 x).toInt = (z : Int) ∧ Va7 μx μm r.1 z w1 d1 ∧ w1 + 1 ≤ w ∧ d1 + 1 ≤ d))) := by
  rw [p_X8_secondOf_eq]
  refine pk_bd (c_isPair h) ?_
  rintro r2 μ1 ⟨e, hz, _⟩
  have e : μ1 = μx := e
  subst e
  have hz : r2 = 0 ↔ μm.1 30 x ≠ 2 := hz
  rcases (va_kind h).2 with ⟨m, hm, e, hs, _⟩ | ⟨k, y, z, w1, w2, d1, d2, e, hk, hs, hy, hz', hw, hd, _, _, _, _, a, b⟩
  · have hn : μm.1 30 x ≠ 2 := by rw [hs]; rcases hm with e | e | e <;> subst e <;> decide
    rw [if_pos (hz.mpr hn)]
    exact pk_some ⟨rfl, Or.inl ⟨hn, rfl⟩⟩
  · rw [if_neg (fun e => (hz.mp e) hs), e, mk_bits 2 (by decide), tn_of (sz_lt hk).1]
    exact pk_gd (fun _ => pk_some ⟨rfl, Or.inr ⟨z, w2, d2, hs, hz', b, by omega, by omega⟩⟩)
def Lf7 (μm : Mem) (x y : Nat) : Prop := ∃ n, ∃ f : Nat → Nat, f 0 = x ∧ f n = y ∧ (∀ i, i < n → μm.1 30 (f i) = 2 ∧ (μm.1 31 (f i)).toInt = (f (i + 1) : Int)) ∧ μm.1 30 y ≠ 2
theorem va_left {μx μm : Mem} {v : Int64} {x w d : Nat} (h : Va7 μx μm v x w d) : ∃ y u, Lf7 μm x y ∧ Va7 μx μm u y 1 0 ∧ ∀ fu (j : Nat) (a5 : Int32), a5.toInt = (j : Int) → j + d ≤ 64 → pk (p_X8_num_b5 fu v a5 μx) (fun r => r.2 = μx ∧ r.1 = u) := by
  have e64 : (64 : Int32).toInt = 64 := by decide
  have e1 : (1 : Int32).toInt = 1 := by decide
  induction d using Nat.strongRecOn generalizing v x w with
  | _ d ih =>
    by_cases hs : μm.1 30 x = 2
    · rcases (va_kind h).2 with ⟨m, hm, e, hs2, _⟩ | ⟨k, y, z, w1, w2, d1, d2, e, hk, _, hy, hz', hw, hd, _, _, _, _, a, b⟩
      · rw [hs2] at hs
        exact absurd hs (by rcases hm with e | e | e <;> subst e <;> decide)
      · obtain ⟨y2, u, ⟨n, f, f0, fn, fs, fe⟩, hu, hl⟩ := ih d1 (by omega) a
        refine ⟨y2, u, ⟨n + 1, fun i => if i = 0 then x else f (i - 1), rfl, ?_, ?_, fe⟩, hu, ?_⟩
        · show (if n + 1 = 0 then x else f (n + 1 - 1)) = y2
          rw [if_neg (by omega), Nat.add_sub_cancel]; exact fn
        · intro i hi
          by_cases i0 : i = 0
          · subst i0
            refine ⟨hs, ?_⟩
            show (μm.1 31 x).toInt = ((f 0 : Nat) : Int)
            rw [f0]; exact hy
          · obtain ⟨i', rfl⟩ : ∃ i', i = i' + 1 := ⟨i - 1, by omega⟩
            exact fs i' (by omega)
        · intro fu j a5 h5 hj
          cases fu with
          | zero => intro r e; rw [p_X8_num_b5_z] at e; cases e
          | succ fu =>
            rw [p_X8_num_b5_s, if_neg (by rw [ti_le, e64, h5]; omega)]
            refine pk_bd (c_isPair h) ?_
            rintro r3 μ2 ⟨e2, hz, _⟩
            have e2 : μ2 = μx := e2
            subst e2
            rw [if_neg (fun e => (hz.mp e) hs), p_X8_firstOf_eq]
            refine pk_bd (P := fun r => r.2 = μ2 ∧ r.1 = μ2.2.1 31 k) ?_ ?_
            · refine pk_bd (c_isPair h) ?_
              rintro r4 μ3 ⟨e3, hz2, _⟩
              have e3 : μ3 = μ2 := e3
              subst e3
              rw [if_neg (fun e => (hz2.mp e) hs), e, mk_bits 2 (by decide), tn_of (sz_lt hk).1]
              exact pk_gd (fun _ => pk_some ⟨rfl, rfl⟩)
            · rintro r6 μ5 ⟨e5, e6⟩
              have e5 : μ5 = μ2 := e5
              subst e5
              have e6 : r6 = μ5.2.1 31 k := e6
              rw [e6]
              exact pk_bvy (fun v7 e7 => hl fu (j + 1) v7 (by rw [e7, ti_add (by omega) (by omega), e1, h5]; omega) (by omega))
    · rcases (va_kind h).2 with ⟨m, hm, e, hs2, hw, hd, _⟩ | ⟨k, y, z, w1, w2, d1, d2, e, hk, hs2, _⟩
      · subst hw
        have h' : Va7 μx μm v x 1 0 := by rw [hd] at h; exact h
        refine ⟨x, v, ⟨0, fun _ => x, rfl, rfl, fun i hi => by omega, hs⟩, h', ?_⟩
        intro fu j a5 h5 hj
        cases fu with
        | zero => intro r e; rw [p_X8_num_b5_z] at e; cases e
        | succ fu =>
          rw [p_X8_num_b5_s]
          refine pk_ite (fun _ => pk_some ⟨rfl, rfl⟩) (fun _ => pk_bd (c_isPair h) ?_)
          rintro r3 μ2 ⟨e2, hz, _⟩
          have e2 : μ2 = μx := e2
          subst e2
          rw [if_pos (hz.mpr hs)]
          exact pk_some ⟨rfl, rfl⟩
      · exact absurd hs2 hs
end

section
def Fh7 (μ q : Mem) : Prop := q.2 = μ.2 ∧ (∀ i k, i ≠ 0 → ¬ (30 ≤ i ∧ i ≤ 34) → q.1 i k = μ.1 i k) ∧ (∀ k, k ≠ 56 → q.1 0 k = μ.1 0 k) ∧ Gh7 μ q
theorem Fh7.rf {μ : Mem} : Fh7 μ μ := ⟨rfl, fun _ _ _ _ => rfl, fun _ _ => rfl, Gh7.rf⟩
theorem Fh7.tr {μ q z : Mem} (h : Fh7 μ q) (h2 : Fh7 q z) : Fh7 μ z := ⟨h2.1.trans h.1, fun i k a b => (h2.2.1 i k a b).trans (h.2.1 i k a b), fun k a => (h2.2.2.1 k a).trans (h.2.2.1 k a), h.2.2.2.tr h2.2.2.2⟩
def Nn7 (μ q : Mem) (p : Nat) (s b : Int32) : Prop := (μ.1 0 56).toInt = (p : Int) ∧ p < 100000 ∧ (q.1 0 56).toInt = ((p + 1 : Nat) : Int) ∧ q.1 30 p = s ∧ q.1 31 p = b ∧ q.1 33 p = 1 ∧ q.1 34 p = 0 ∧ Fh7 μ q
theorem m_node (s b : Int32) (μ : Mem) : pk (p_X12_node s b μ) (fun r => ∃ p : Nat, r.1.toInt = (p : Int) ∧ Nn7 μ r.2 p s b) := by
  have e1 : (1 : Int32).toInt = 1 := by decide
  rw [p_X12_node_eq]
  refine pk_gd (fun g => ?_)
  obtain ⟨g0, g1⟩ := inb_iff.mp g
  obtain ⟨p, hp⟩ : ∃ p : Nat, (μ.1 0 56).toInt = (p : Int) := ⟨(μ.1 0 56).toInt.toNat, by omega⟩
  have tp := tn_of hp
  refine pk_bvy (fun μ1 m1 => pk_gd (fun _ => pk_bvy (fun μ2 m2 => pk_gd (fun _ => pk_bvy (fun μ3 m3 => pk_gd (fun _ => pk_bvy (fun μ4 m4 => pk_gd (fun _ => pk_bvy (fun μ5 m5 => pk_bvy (fun μ6 m6 => pk_some ?_))))))))))
  have q1 : μ1.1 0 56 = μ.1 0 56 := by rw [m1, sF_i (by decide)]
  have q2 : μ2.1 0 56 = μ.1 0 56 := by rw [m2, sF_i (by decide), q1]
  have q3 : μ3.1 0 56 = μ.1 0 56 := by rw [m3, sF_i (by decide), q2]
  have q4 : μ4.1 0 56 = μ.1 0 56 := by rw [m4, sF_i (by decide), q3]
  have q5 : μ5.1 0 56 = μ.1 0 56 := by rw [m5, sF_i (by decide), q4]
  rw [tp] at m1
  rw [q1, tp] at m2
  rw [q2, tp] at m3
  rw [q3, tp] at m4
  rw [q4, tp] at m5
  rw [q5] at m6
  have c6 : (μ6.1 0 56).toInt = ((p + 1 : Nat) : Int) := by rw [m6, sF_v, ti_add (by omega) (by omega), hp, e1]; omega
  have c : ∀ i k, μ6.1 i k = if i = 0 ∧ k = 56 then μ.1 0 56 + 1 else if i = 34 ∧ k = p then 0 else if i = 33 ∧ k = p then 1 else if i = 32 ∧ k = p then -1 else if i = 31 ∧ k = p then b else if i = 30 ∧ k = p then s else μ.1 i k := by
    have st : ∀ (x : Mem) (i k j l : Nat) (v : Int32), (sF x i k v).1 j l = if j = i ∧ l = k then v else x.1 j l := by
      intro x i k j l v
      rw [sF_1]
      by_cases e : j = i
      · rw [if_pos e]
        by_cases e2 : l = k
        · rw [if_pos e2, if_pos ⟨e, e2⟩]
        · rw [if_neg e2, if_neg (fun h => e2 h.2), e]
      · rw [if_neg e, if_neg (fun h => e h.1)]
    intro i k
    rw [m6, st, m5, st, m4, st, m3, st, m2, st, m1, st]
  refine ⟨p, by show (μ6.1 0 56 - 1).toInt = _; rw [ti_sub (by omega) (by omega), c6, e1]; omega, hp, by omega, c6, ?_, ?_, ?_, ?_, by rw [m6, m5, m4, m3, m2, m1]; rfl, fun i k h0 h3 => ?_, fun k hk => ?_, ?_, fun k hk => ?_⟩
  · show μ6.1 30 p = s; rw [c]; simp
  · show μ6.1 31 p = b; rw [c]; simp
  · show μ6.1 33 p = 1; rw [c]; simp
  · show μ6.1 34 p = 0; rw [c]; simp
  · show μ6.1 i k = _
    rw [c, if_neg (by omega), if_neg (by omega), if_neg (by omega), if_neg (by omega), if_neg (by omega), if_neg (by omega)]
  · show μ6.1 0 k = _
    rw [c, if_neg (by omega), if_neg (by omega), if_neg (by omega), if_neg (by omega), if_neg (by omega), if_neg (by omega)]
  · show _ ≤ (μ6.1 0 56).toNatClampNeg
    rw [tp, tn_of c6]; omega
  · rw [tp] at hk
    have cc : ∀ i, i ≠ 0 → μ6.1 i k = μ.1 i k := fun i hi => by
      rw [c, if_neg (by omega), if_neg (by omega), if_neg (by omega), if_neg (by omega), if_neg (by omega), if_neg (by omega)]
    exact ⟨cc 30 (by decide), cc 31 (by decide), cc 32 (by decide), cc 33 (by decide), cc 34 (by decide)⟩
theorem Nn7.leaf {μx μ q : Mem} {p m : Nat} {b : Int32} (h : Nn7 μ q p (nI m) b) (hm : m = 0 ∨ m = 1 ∨ m = 3) : Va7 μx q (s_X0_make (nI m) b) p 1 0 := by
  obtain ⟨_, _, h3, h4, h5, h6, h7, _⟩ := h
  exact Vt7.leaf (by rw [tn_of h3]; omega) ⟨h4, h5⟩ hm ⟨h6, h7⟩
theorem va_hw {μx μm : Mem} {v : Int64} {x w d : Nat} (h : Va7 μx μm v x w d) : (μm.1 33 x).toInt = (w : Int) ∧ (μm.1 34 x).toInt = (d : Int) := by
  rcases (va_kind h).2 with ⟨m, hm, e, hs, hw, hd, h1, h2⟩ | ⟨k, y, z, w1, w2, d1, d2, e, hk, hs, hy, hz', hw, hd, _, _, h1, h2, a, b⟩
  · rw [hw, hd]; exact ⟨h1, h2⟩
  · exact ⟨h1, h2⟩
theorem va_pos {μx μm : Mem} {v : Int64} {x w d : Nat} (h : Va7 μx μm v x w d) : d < w := by
  unfold Va7 at h
  refine Vt7.ind (M := fun _ _ w d => d < w) ?_ ?_ h
  · intros; decide
  · intro k x y z w1 w2 d1 d2 _ _ _ _ ia _ ib; omega
theorem m_pair {μx μ : Mem} {v1 v2 : Int64} {x y w1 w2 d1 d2 : Nat} {a1 a2 : Int32} (h1 : Va7 μx μ v1 x w1 d1) (h2 : Va7 μx μ v2 y w2 d2) (ha : a1.toInt = (x : Int)) (hb : a2.toInt = (y : Int)) (hw : w1 + w2 ≤ 100000) : pk (p_X12_pair a1 a2 μ) (fun r => ∃ p : Nat, r.1.toInt = (p : Int) ∧ (μ.1 0 56).toInt = (p : Int) ∧ (r.2.1 0 56).toInt = ((p + 1 : Nat) : Int) ∧ Fh7 μ r.2 ∧ r.2.1 30 p = 2 ∧ r.2.1 31 p = a1 ∧ r.2.1 32 p = a2 ∧ (r.2.1 33 p).toInt = ((1 + w1 + w2 : Nat) : Int) ∧ (r.2.1 34 p).toInt = ((1 + max d1 d2 : Nat) : Int)) := by
  have e1 : (1 : Int32).toInt = 1 := by decide
  have xl := (va_kind h1).1
  have yl := (va_kind h2).1
  have p1 := va_pos h1
  have p2 := va_pos h2
  rw [p_X12_pair_eq]
  refine pk_bd (m_node 2 a1 μ) ?_
  rintro r2 μ1 ⟨p, hr, hp, hp1, hp2, n30, n31, n33, n34, hF⟩
  have hr : r2.toInt = (p : Int) := hr
  have hF : Fh7 μ μ1 := hF
  have n30 : μ1.1 30 p = 2 := n30
  have n31 : μ1.1 31 p = a1 := n31
  have hp2 : (μ1.1 0 56).toInt = ((p + 1 : Nat) : Int) := hp2
  have tp := tn_of hr
  rw [tn_of hp] at xl yl
  have g := hF.2.2.2.2
  rw [tn_of hp] at g
  obtain ⟨hx1, hx2⟩ := va_hw h1
  obtain ⟨hy1, hy2⟩ := va_hw h2
  refine pk_gd (fun _ => pk_bvy (fun μ3 m3 => pk_gd (fun _ => pk_gd (fun _ => pk_bvy (fun v4 e4 => pk_gd (fun _ => pk_bvy (fun μ5 m5 => pk_gd (fun _ => pk_gd (fun _ => ?_)))))))))
  rw [tp] at m3 m5
  rw [tn_of ha, tn_of hb] at e4 ⊢
  have c3 : ∀ i k, ¬ (i = 32 ∧ k = p) → μ3.1 i k = μ1.1 i k := fun i k h => by
    rw [m3, sF_1]
    by_cases e : i = 32
    · rw [if_pos e, if_neg (fun e2 => h ⟨e, e2⟩), e]
    · rw [if_neg e]
  have c5 : ∀ i k, ¬ (i = 33 ∧ k = p) → μ5.1 i k = μ3.1 i k := fun i k h => by
    rw [m5, sF_1]
    by_cases e : i = 33
    · rw [if_pos e, if_neg (fun e2 => h ⟨e, e2⟩), e]
    · rw [if_neg e]
  have v33x : (μ3.1 33 x).toInt = (w1 : Int) := by rw [c3 _ _ (by omega), (g x xl).2.2.2.1]; exact hx1
  have v33y : (μ3.1 33 y).toInt = (w2 : Int) := by rw [c3 _ _ (by omega), (g y yl).2.2.2.1]; exact hy1
  have v34x : (μ5.1 34 x).toInt = (d1 : Int) := by rw [c5 _ _ (by omega), c3 _ _ (by omega), (g x xl).2.2.2.2]; exact hx2
  have v34y : (μ5.1 34 y).toInt = (d2 : Int) := by rw [c5 _ _ (by omega), c3 _ _ (by omega), (g y yl).2.2.2.2]; exact hy2
  have h4 : v4.toInt = ((1 + w1 + w2 : Nat) : Int) := by
    have : (1 + μ3.1 33 x).toInt = 1 + (w1 : Int) := by rw [ti_add (by omega) (by omega), e1, v33x]
    rw [e4, ti_add (by omega) (by omega), this, v33y]; omega
  have fin : ∀ (z : Mem) (v : Int32), v.toInt = ((1 + max d1 d2 : Nat) : Int) → z = sF μ5 34 p v → ∃ p : Nat, r2.toInt = (p : Int) ∧ (μ.1 0 56).toInt = (p : Int) ∧ (z.1 0 56).toInt = ((p + 1 : Nat) : Int) ∧ Fh7 μ z ∧ z.1 30 p = 2 ∧ z.1 31 p = a1 ∧ z.1 32 p = a2 ∧ (z.1 33 p).toInt = ((1 + w1 + w2 : Nat) : Int) ∧ (z.1 34 p).toInt = ((1 + max d1 d2 : Nat) : Int) := by
    intro z v hv hz
    have cz : ∀ i k, ¬ (i = 34 ∧ k = p) → z.1 i k = μ5.1 i k := fun i k h => by
      rw [hz, sF_1]
      by_cases e : i = 34
      · rw [if_pos e, if_neg (fun e2 => h ⟨e, e2⟩), e]
      · rw [if_neg e]
    have all : ∀ i k, ¬ (32 ≤ i ∧ i ≤ 34 ∧ k = p) → z.1 i k = μ1.1 i k := fun i k h => by rw [cz i k (by omega), c5 i k (by omega), c3 i k (by omega)]
    refine ⟨p, hr, hp, by rw [all _ _ (by omega)]; exact hp2, ⟨by rw [hz, m5, m3]; exact hF.1, fun i k a b => by rw [all i k (by omega)]; exact hF.2.1 i k a b, fun k hk => by rw [all 0 k (by omega)]; exact hF.2.2.1 k hk, by rw [all 0 56 (by omega)]; exact hF.2.2.2.1, fun k hk => ?_⟩, by rw [all _ _ (by omega)]; exact n30, by rw [all _ _ (by omega)]; exact n31, ?_, ?_, ?_⟩
    · rw [tn_of hp] at hk
      obtain ⟨q1, q2, q3, q4, q5⟩ := g k hk
      exact ⟨by rw [all _ _ (by omega)]; exact q1, by rw [all _ _ (by omega)]; exact q2, by rw [all _ _ (by omega)]; exact q3, by rw [all _ _ (by omega)]; exact q4, by rw [all _ _ (by omega)]; exact q5⟩
    · rw [cz _ _ (by omega), c5 _ _ (by omega), m3, sF_v]
    · rw [cz _ _ (by omega), m5, sF_v]; exact h4
    · rw [hz, sF_v]; exact hv
  refine pk_ite (fun c => ?_) (fun c => ?_)
  · rw [ti_le, v34x, v34y] at c
    refine pk_gd (fun _ => pk_gd (fun _ => pk_bvy (fun μ7 m7 => pk_some ?_)))
    rw [tp] at m7
    exact fin μ7 _ (by rw [ti_add (by omega) (by omega), e1, v34y]; omega) m7
  · rw [ti_le, v34x, v34y] at c
    refine pk_gd (fun _ => pk_gd (fun _ => pk_bvy (fun μ7 m7 => pk_some ?_)))
    rw [tp] at m7
    exact fin μ7 _ (by rw [ti_add (by omega) (by omega), e1, v34x]; omega) m7
theorem m_left {μ : Mem} {y : Nat} : ∀ (n : Nat) (f : Nat → Nat) (fu : Nat) (a : Int32), a.toInt = (f 0 : Int) → f n = y → (∀ i, i < n → μ.1 30 (f i) = 2 ∧ (μ.1 31 (f i)).toInt = (f (i + 1) : Int)) → μ.1 30 y ≠ 2 → pk (p_X12_num_b2 fu a μ) (fun r => r.2 = μ ∧ r.1.toInt = (y : Int)) := by
  intro n
  induction n with
  | zero =>
    intro f fu a ha fn _ fe
    cases fu with
    | zero => intro r e; rw [p_X12_num_b2_z] at e; cases e
    | succ fu =>
      rw [p_X12_num_b2_s, tn_of ha, fn, if_neg fe]
      exact pk_gd (fun _ => pk_some ⟨rfl, by rw [← fn]; exact ha⟩)
  | succ n ih =>
    intro f fu a ha fn fs fe
    cases fu with
    | zero => intro r e; rw [p_X12_num_b2_z] at e; cases e
    | succ fu =>
      obtain ⟨s1, s2⟩ := fs 0 (by omega)
      rw [p_X12_num_b2_s, tn_of ha, if_pos s1]
      exact pk_gd (fun _ => pk_gd (fun _ => pk_bvy (fun v2 e2 => ih (fun i => f (i + 1)) fu v2 (by rw [e2]; exact s2) fn (fun i hi => fs (i + 1) (by omega)) fe)))
theorem m_num {μ : Mem} {x y : Nat} {a : Int32} (h : Lf7 μ x y) (ha : a.toInt = (x : Int)) : pk (p_X12_num a μ) (fun r => r.2 = μ ∧ r.1.toInt = (y : Int)) := by
  obtain ⟨n, f, f0, fn, fs, fe⟩ := h
  rw [p_X12_num_eq]
  exact m_left n f FUEL a (by rw [f0]; exact ha) fn fs fe
theorem m_known {μ : Mem} {x : Nat} {a : Int32} (ha : a.toInt = (x : Int)) : pk (p_X12_isKnown a μ) (fun r => r.2 = μ ∧ (r.1 = 0 ↔ μ.1 30 x = 3)) := by
  rw [p_X12_isKnown_eq, tn_of ha]
  refine pk_gd (fun _ => pk_ite (fun c => pk_some ⟨rfl, fun _ => c, fun _ => rfl⟩) (fun c => pk_some ⟨rfl, fun e => absurd e (show ¬ (1 : Int32) = 0 by decide), fun e => absurd e c⟩))
end

section
def Fs7 (μ q : Mem) : Prop := q.2.2 = μ.2.2 ∧ (∀ i k, i ≠ 30 → i ≠ 33 → i ≠ 34 → q.1 i k = μ.1 i k) ∧ (∀ k, k ≠ 5 → q.1 30 k = μ.1 30 k) ∧ (∀ i k, i ≠ 31 → i ≠ 32 → q.2.1 i k = μ.2.1 i k) ∧ Gs7 μ q
theorem Fs7.rf {μ : Mem} : Fs7 μ μ := ⟨rfl, fun _ _ _ _ _ => rfl, fun _ _ => rfl, fun _ _ _ _ => rfl, Gs7.rf⟩
theorem c_pair {μ μm : Mem} {v1 v2 : Int64} {x y w1 w2 d1 d2 s : Nat} (h1 : Va7 μ μm v1 x w1 d1) (h2 : Va7 μ μm v2 y w2 d2) (hs : (μ.1 30 5).toInt = (s : Int)) (hb : s < 30200) (hw : w1 + w2 ≤ 100000) : pk (p_X8_pair v1 v2 μ) (fun r => r.1 = s_X0_make (nI 2) (nI s) ∧ Fs7 μ r.2 ∧ (r.2.1 30 5).toInt = ((s + 1 : Nat) : Int) ∧ r.2.2.1 31 s = v1 ∧ r.2.2.1 32 s = v2 ∧ (r.2.1 33 s).toInt = ((1 + w1 + w2 : Nat) : Int) ∧ (r.2.1 34 s).toInt = ((1 + max d1 d2 : Nat) : Int)) := by
  have e1 : (1 : Int32).toInt = 1 := by decide
  have eb : (30200 : Int32).toInt = 30200 := by decide
  have p1 := va_pos h1
  have p2 := va_pos h2
  have ts := tn_of hs
  rw [p_X8_pair_eq, if_pos (by rw [ti_lt, hs, eb]; omega)]
  refine pk_gd (fun _ => pk_bvy (fun μ2 m2 => pk_gd (fun _ => pk_bvy (fun μ3 m3 => ?_))))
  have i2 : μ2.1 = μ.1 := by rw [m2]; rfl
  have i3 : μ3.1 = μ.1 := by rw [m3]; exact i2
  rw [ts] at m2
  rw [i2, ts] at m3
  have l3 : ∀ i k, μ3.2.1 i k = if i = 32 ∧ k = s then v2 else if i = 31 ∧ k = s then v1 else μ.2.1 i k := by
    have st : ∀ (x : Mem) (i k j l : Nat) (v : Int64), (sL x i k v).2.1 j l = if j = i ∧ l = k then v else x.2.1 j l := by
      intro x i k j l v
      rw [sL_2]
      by_cases e : j = i
      · rw [if_pos e]
        by_cases e2 : l = k
        · rw [if_pos e2, if_pos ⟨e, e2⟩]
        · rw [if_neg e2, if_neg (fun h => e2 h.2), e]
      · rw [if_neg e, if_neg (fun h => e h.1)]
    intro i k
    rw [m3, st, m2, st]
  have g3 : Gs7 μ μ3 := ⟨by rw [i3]; exact Nat.le_refl _, fun k hk => by rw [ts] at hk; exact ⟨by rw [l3, if_neg (by omega), if_neg (by omega)], by rw [l3, if_neg (by omega), if_neg (by omega)], by rw [i3], by rw [i3]⟩⟩
  have a1 : Va7 μ3 μm v1 x w1 d1 := h1.gr g3 Gh7.rf
  have a2 : Va7 μ3 μm v2 y w2 d2 := h2.gr g3 Gh7.rf
  refine pk_bd (c_weight a1) ?_
  rintro r5 μ4 ⟨e, hr5⟩
  have e : μ4 = μ3 := e
  subst e
  have hr5 : r5.toInt = (w1 : Int) := hr5
  refine pk_bd (c_weight a2) ?_
  rintro r7 μ6 ⟨e, hr7⟩
  have e : μ6 = μ4 := e
  subst e
  have hr7 : r7.toInt = (w2 : Int) := hr7
  refine pk_gd (fun _ => pk_bvy (fun μ8 m8 => ?_))
  rw [i3, ts] at m8
  have g8 : Gs7 μ μ8 := by
    refine ⟨by rw [m8, sF_i (by decide), i3]; exact Nat.le_refl _, fun k hk => ?_⟩
    obtain ⟨q1, q2, q3, q4⟩ := g3.2 k hk
    rw [ts] at hk
    exact ⟨by rw [m8]; exact q1, by rw [m8]; exact q2, by rw [m8, sF_k (by omega)]; exact q3, by rw [m8, sF_i (by decide)]; exact q4⟩
  have b1 : Va7 μ8 μm v1 x w1 d1 := h1.gr g8 Gh7.rf
  have b2 : Va7 μ8 μm v2 y w2 d2 := h2.gr g8 Gh7.rf
  refine pk_bd (c_deep b1) ?_
  rintro r10 μ9 ⟨e, hr10⟩
  have e : μ9 = μ8 := e
  subst e
  have hr10 : r10.toInt = (d1 : Int) := hr10
  refine pk_bd (c_deep b2) ?_
  rintro r12 μ11 ⟨e, hr12⟩
  have e : μ11 = μ9 := e
  subst e
  have hr12 : r12.toInt = (d2 : Int) := hr12
  have i5 : μ11.1 30 5 = μ.1 30 5 := by rw [m8, sF_i (by decide), i3]
  refine pk_gd (fun _ => pk_bvy (fun μ13 m13 => pk_bvy (fun μ14 m14 => pk_some ?_)))
  rw [i5, ts] at m13
  have i13 : μ13.1 30 5 = μ.1 30 5 := by rw [m13, sF_i (by decide), i5]
  rw [i13] at m14
  have c5 : (μ14.1 30 5).toInt = ((s + 1 : Nat) : Int) := by rw [m14, sF_v, ti_add (by omega) (by omega), hs, e1]; omega
  have l14 : μ14.2 = μ6.2 := by rw [m14, m13, m8]; rfl
  have wv : (1 + r5 + r7).toInt = ((1 + w1 + w2 : Nat) : Int) := by
    have : (1 + r5).toInt = 1 + (w1 : Int) := by rw [ti_add (by omega) (by omega), e1, hr5]
    rw [ti_add (by omega) (by omega), this, hr7]; omega
  have dv' : (1 + imax r10 r12).toInt = ((1 + max d1 d2 : Nat) : Int) := by
    have : (imax r10 r12).toInt = ((max d1 d2 : Nat) : Int) := by
      unfold imax
      split
      · rename_i c; rw [ti_lt] at c; omega
      · rename_i c; rw [ti_lt] at c; omega
    rw [ti_add (by omega) (by omega), e1, this]; omega
  have c : ∀ i k, i ≠ 30 → ¬ (i = 33 ∧ k = s) → ¬ (i = 34 ∧ k = s) → μ14.1 i k = μ.1 i k := by
    intro i k h0 h3 h4
    rw [m14, sF_i h0, m13, sF_1]
    by_cases e : i = 34
    · rw [if_pos e, if_neg (fun e2 => h4 ⟨e, e2⟩), m8, sF_i (by omega), i3, e]
    · rw [if_neg e, m8, sF_1]
      by_cases e3 : i = 33
      · rw [if_pos e3, if_neg (fun e2 => h3 ⟨e3, e2⟩), i3, e3]
      · rw [if_neg e3, i3]
  refine ⟨?_, ⟨?_, fun i k a b d => c i k a (fun e => b e.1) (fun e => d e.1), fun k hk => ?_, fun i k a b => ?_, ?_, fun k hk => ?_⟩, c5, ?_, ?_, ?_, ?_⟩
  · show s_X0_make 2 (μ14.1 30 5 - 1) = _
    have : μ14.1 30 5 - 1 = nI s := by
      refine ti_eq.mpr ?_
      rw [ti_sub (by omega) (by omega), c5, e1]
      show _ = (Int32.ofNat s).toInt
      rw [Int32.toInt_ofNat_of_lt (by omega)]; omega
    rw [this]; rfl
  · show μ14.2.2 = _; rw [l14, m3, m2]; rfl
  · show μ14.1 30 k = _; rw [m14, sF_k hk, m13, sF_i (by decide), m8, sF_i (by decide), i3]
  · show μ14.2.1 i k = _; rw [l14, l3, if_neg (by omega), if_neg (by omega)]
  · rw [ts]; show _ ≤ (μ14.1 30 5).toNatClampNeg; rw [tn_of c5]; omega
  · rw [ts] at hk
    exact ⟨by show μ14.2.1 31 k = _; rw [l14, l3, if_neg (by omega), if_neg (by omega)], by show μ14.2.1 32 k = _; rw [l14, l3, if_neg (by omega), if_neg (by omega)], c 33 k (by decide) (by omega) (by omega), c 34 k (by decide) (by omega) (by omega)⟩
  · show μ14.2.1 31 s = v1; rw [l14, l3, if_neg (by omega), if_pos ⟨rfl, rfl⟩]
  · show μ14.2.1 32 s = v2; rw [l14, l3, if_pos ⟨rfl, rfl⟩]
  · show (μ14.1 33 s).toInt = _; rw [m14, sF_i (by decide), m13, sF_i (by decide), m8, sF_v]; exact wv
  · show (μ14.1 34 s).toInt = _; rw [m14, sF_i (by decide), m13, sF_v]; exact dv'
theorem va_pair {μx μm q z : Mem} {v1 v2 : Int64} {x y w1 w2 d1 d2 s p : Nat} {a1 a2 : Int32} (h1 : Va7 μx μm v1 x w1 d1) (h2 : Va7 μx μm v2 y w2 d2) (ha : a1.toInt = (x : Int)) (hb : a2.toInt = (y : Int)) (gq : Gs7 μx q) (gz : Gh7 μm z) (q5 : (q.1 30 5).toInt = ((s + 1 : Nat) : Int)) (q1 : q.2.1 31 s = v1) (q2 : q.2.1 32 s = v2) (q3 : (q.1 33 s).toInt = ((1 + w1 + w2 : Nat) : Int)) (q4 : (q.1 34 s).toInt = ((1 + max d1 d2 : Nat) : Int)) (z5 : (z.1 0 56).toInt = ((p + 1 : Nat) : Int)) (z0 : z.1 30 p = 2) (z1 : z.1 31 p = a1) (z2 : z.1 32 p = a2) (z3 : (z.1 33 p).toInt = ((1 + w1 + w2 : Nat) : Int)) (z4 : (z.1 34 p).toInt = ((1 + max d1 d2 : Nat) : Int)) : Va7 q z (s_X0_make (nI 2) (nI s)) p (1 + w1 + w2) (1 + max d1 d2) := by
  have b1 := h1.gr gq gz
  have b2 := h2.gr gq gz
  unfold Va7 at b1 b2 ⊢
  refine Vt7.node (y := x) (z := y) ⟨by rw [tn_of q5]; omega, by rw [tn_of z5]; omega⟩ ⟨z0, by rw [z1]; exact ha, by rw [z2]; exact hb⟩ ⟨⟨q3, q4⟩, z3, z4⟩ ?_ ?_
  · rw [q1]; exact b1
  · rw [q2]; exact b2
theorem m_push {μ : Mem} {n : Nat} (a b c : Int32) (hn : (μ.1 0 65).toInt = (n : Int)) : pk (p_X12_push a b c μ) (fun q => q = sF (sF (sF (sF μ 37 n a) 38 n b) 39 n c) 0 65 (μ.1 0 65 + 1) ∧ n < 6000) := by
  have tn := tn_of hn
  rw [p_X12_push_eq]
  refine pk_gd (fun g => ?_)
  have gl := (inb_iff.mp g).2
  refine pk_bvy (fun μ1 m1 => pk_gd (fun _ => pk_bvy (fun μ2 m2 => pk_gd (fun _ => pk_bvy (fun μ3 m3 => pk_bvy (fun μ4 m4 => pk_some ?_))))))
  rw [tn] at m1
  have q1 : μ1.1 0 65 = μ.1 0 65 := by rw [m1, sF_i (by decide)]
  rw [q1, tn] at m2
  have q2 : μ2.1 0 65 = μ.1 0 65 := by rw [m2, sF_i (by decide), q1]
  rw [q2, tn] at m3
  have q3 : μ3.1 0 65 = μ.1 0 65 := by rw [m3, sF_i (by decide), q2]
  rw [q3] at m4
  exact ⟨by rw [m4, m3, m2, m1], by omega⟩
theorem m_come {μ : Mem} {n : Nat} (a : Int32) (hn : (μ.1 0 66).toInt = (n : Int)) : pk (p_X12_come a μ) (fun q => q = sF (sF μ 40 n a) 0 66 (μ.1 0 66 + 1) ∧ n < 6000) := by
  have tn := tn_of hn
  rw [p_X12_come_eq]
  refine pk_gd (fun g => ?_)
  have gl := (inb_iff.mp g).2
  refine pk_bvy (fun μ1 m1 => pk_bvy (fun μ2 m2 => pk_some ?_))
  rw [tn] at m1
  have q1 : μ1.1 0 66 = μ.1 0 66 := by rw [m1, sF_i (by decide)]
  rw [q1] at m2
  exact ⟨by rw [m2, m1], by omega⟩
theorem m_gone {μ : Mem} {n : Nat} (hn : (μ.1 0 66).toInt = ((n + 1 : Nat) : Int)) : pk (p_X12_gone μ) (fun r => r.1 = μ.1 40 n ∧ r.2 = sF μ 0 66 (μ.1 0 66 - 1)) := by
  have e1 : (1 : Int32).toInt = 1 := by decide
  have hi := ti_hi (μ.1 0 66)
  rw [p_X12_gone_eq]
  refine pk_bvy (fun μ1 m1 => pk_gd (fun _ => pk_some ⟨?_, m1⟩))
  have : (μ1.1 0 66).toNatClampNeg = n := tn_of (by rw [m1, sF_v, ti_sub (by omega) (by omega), hn, e1]; omega)
  show μ1.1 40 (μ1.1 0 66).toNatClampNeg = _
  rw [this, m1, sF_i (by decide)]
end

section
theorem sF_at (x : Mem) (i k j l : Nat) (v : Int32) : (sF x i k v).1 j l = if j = i ∧ l = k then v else x.1 j l := by
  rw [sF_1]
  by_cases e : j = i
  · rw [if_pos e]
    by_cases e2 : l = k
    · rw [if_pos e2, if_pos ⟨e, e2⟩]
    · rw [if_neg e2, if_neg (fun h => e2 h.2), e]
  · rw [if_neg e, if_neg (fun h => e h.1)]
theorem sL_at (x : Mem) (i k j l : Nat) (v : Int64) : (sL x i k v).2.1 j l = if j = i ∧ l = k then v else x.2.1 j l := by
  rw [sL_2]
  by_cases e : j = i
  · rw [if_pos e]
    by_cases e2 : l = k
    · rw [if_pos e2, if_pos ⟨e, e2⟩]
    · rw [if_neg e2, if_neg (fun h => e2 h.2), e]
  · rw [if_neg e, if_neg (fun h => e h.1)]
def Ad7 (kind mark : Int32) (v b n : Nat) (μ q : Mem) : Prop := q.2 = μ.2 ∧ q.1 39 1 = μ.1 39 1 + 1 ∧ (∀ k, k ≠ 1 → q.1 39 k = μ.1 39 k) ∧ (q.1 40 (8 * n) = kind ∧ q.1 40 (8 * n + 1) = (if kind = 7 then -1 else μ.1 45 (4 * v + 2)) ∧ q.1 40 (8 * n + 2) = mark ∧ q.1 40 (8 * n + 3) = -1 ∧ q.1 40 (8 * n + 4) = -1 ∧ q.1 40 (8 * n + 5) = -1 ∧ (q.1 40 (8 * n + 6)).toInt = (v : Int) ∧ q.1 40 (8 * n + 7) = 0) ∧ (∀ j, ¬ (8 * n ≤ j ∧ j < 8 * n + 8) → q.1 40 j = if μ.1 43 b ≠ -1 ∧ j = 8 * (μ.1 43 b).toNatClampNeg + 5 then nI n else μ.1 40 j) ∧ (∀ j, q.1 45 j = if kind ≠ 7 ∧ j = 4 * v + 2 then μ.1 45 j + 1 else μ.1 45 j) ∧ (∀ j, q.1 42 j = if μ.1 43 b = -1 ∧ j = b then nI n else μ.1 42 j) ∧ (∀ j, q.1 43 j = if j = b then nI n else μ.1 43 j) ∧ ∀ i k, i ≠ 39 → i ≠ 40 → i ≠ 42 → i ≠ 43 → i ≠ 45 → q.1 i k = μ.1 i k
theorem c_add {μ : Mem} {kind mark a3 a4 : Int32} {v b n : Nat} (ha3 : a3.toInt = (v : Int)) (ha4 : a4.toInt = (b : Int)) (hv : (v : Int) < (μ.1 39 2).toInt) (hv24 : v < 24) (hb : (b : Int) < (μ.1 39 6).toInt) (hn : (μ.1 39 1).toInt = (n : Int)) (hl : μ.1 43 b ≠ -1 → ∃ l : Nat, (μ.1 43 b).toInt = (l : Int) ∧ l < n) : pk (p_X5_addInstruction kind mark a3 a4 μ) (fun r => (300 ≤ n ∧ r.1 = -1 ∧ r.2 = μ) ∨ (n < 300 ∧ r.1 = nI n ∧ Ad7 kind mark v b n μ r.2)) := by
  have e0 : (0 : Int32).toInt = 0 := by decide
  have e1 : (1 : Int32).toInt = 1 := by decide
  have e2 : (2 : Int32).toInt = 2 := by decide
  have e4 : (4 : Int32).toInt = 4 := by decide
  have e5 : (5 : Int32).toInt = 5 := by decide
  have e6 : (6 : Int32).toInt = 6 := by decide
  have e7 : (7 : Int32).toInt = 7 := by decide
  have e8 : (8 : Int32).toInt = 8 := by decide
  have e300 : (300 : Int32).toInt = 300 := by decide
  rw [p_X5_addInstruction_eq, if_neg (by rw [ti_lt, e0]; omega), if_neg (by rw [ti_le]; omega), if_neg (by rw [ti_lt, e0]; omega), if_neg (by rw [ti_le]; omega), p_X5_addInstruction_b31_eq]
  refine pk_ite (fun c => ?_) (fun c => ?_)
  · rw [ti_le, e300, hn] at c
    exact pk_some (Or.inl ⟨by omega, rfl, rfl⟩)
  rw [ti_le, e300, hn] at c
  have hn3 : n < 300 := by omega
  have hnI : μ.1 39 1 = nI n := ti_eq.mpr (by rw [hn]; exact (Int32.toInt_ofNat_of_lt (by omega)).symm)
  rw [if_neg (by decide)]
  refine pk_bvy (fun v4 q4 => pk_bvy (fun v5 q5 => pk_bvy (fun μ6 m6 => ?_)))
  have h4 : v4.toInt = (n : Int) := by rw [q4]; exact hn
  have h5 : v5.toInt = ((8 * n : Nat) : Int) := by rw [q5, ti_mulc e8 (by omega) (by omega), h4]; omega
  have hv4 : v4 = nI n := by rw [q4]; exact hnI
  have b182 : ∀ (z : Mem), (∀ j, z.1 43 j = μ.1 43 j) → pk (p_X5_addInstruction_b182 a4 v4 z) (fun r => r.1 = nI n ∧ r.2.2 = z.2 ∧ (∀ j, r.2.1 40 j = if μ.1 43 b ≠ -1 ∧ j = 8 * (μ.1 43 b).toNatClampNeg + 5 then nI n else z.1 40 j) ∧ (∀ j, r.2.1 42 j = if μ.1 43 b = -1 ∧ j = b then nI n else z.1 42 j) ∧ (∀ j, r.2.1 43 j = if j = b then nI n else μ.1 43 j) ∧ ∀ i k, i ≠ 40 → i ≠ 42 → i ≠ 43 → r.2.1 i k = z.1 i k) := by
    intro z hz
    rw [p_X5_addInstruction_b182_eq, tn_of ha4, hz b]
    refine pk_gd (fun _ => pk_bvy (fun v13 q13 => pk_ite (fun cc => ?_) (fun cc => ?_)))
    · rw [q13] at cc
      refine pk_gd (fun _ => pk_bvy (fun μ17 m17 => pk_gd (fun _ => pk_bvy (fun μ18 m18 => pk_some ⟨hv4, by show μ18.2 = _; rw [m18, m17]; rfl, fun j => ?_, fun j => ?_, fun j => ?_, fun i k x y w => ?_⟩))))
      · show μ18.1 40 j = _; rw [m18, sF_i (by decide), m17, sF_i (by decide), if_neg (fun e => e.1 cc)]
      · show μ18.1 42 j = _
        rw [m18, sF_i (by decide), m17, sF_at, hv4]
        by_cases e : j = b
        · rw [if_pos ⟨rfl, e⟩, if_pos ⟨cc, e⟩]
        · rw [if_neg (fun h => e h.2), if_neg (fun h => e h.2)]
      · show μ18.1 43 j = _
        rw [m18, sF_at, m17, hv4]
        by_cases e : j = b
        · rw [if_pos ⟨rfl, e⟩, if_pos e]
        · rw [if_neg (fun h => e h.2), if_neg e, sF_i (by decide)]; exact hz j
      · show μ18.1 i k = _; rw [m18, sF_i w, m17, sF_i y]
    · rw [q13] at cc
      obtain ⟨l, hl1, hl2⟩ := hl cc
      have i5 : (v13 * 8 + 5).toNatClampNeg = 8 * l + 5 := by
        have m : (v13 * 8).toInt = 8 * (l : Int) := by rw [ti_mulc e8 (by rw [q13]; omega) (by rw [q13]; omega), q13, hl1]; omega
        exact tn_of (by rw [ti_add (by omega) (by omega), m, e5]; omega)
      have tl : (μ.1 43 b).toNatClampNeg = l := tn_of hl1
      rw [i5]
      refine pk_gd (fun _ => pk_bvy (fun μ15 m15 => pk_gd (fun _ => pk_bvy (fun μ16 m16 => pk_some ⟨hv4, by show μ16.2 = _; rw [m16, m15]; rfl, fun j => ?_, fun j => ?_, fun j => ?_, fun i k x y w => ?_⟩))))
      · show μ16.1 40 j = _
        rw [m16, sF_i (by decide), m15, sF_at, hv4, tl]
        by_cases e : j = 8 * l + 5
        · rw [if_pos ⟨rfl, e⟩, if_pos ⟨cc, e⟩]
        · rw [if_neg (fun h => e h.2), if_neg (fun h => e h.2)]
      · show μ16.1 42 j = _; rw [m16, sF_i (by decide), m15, sF_i (by decide), if_neg (fun e => cc e.1)]
      · show μ16.1 43 j = _
        rw [m16, sF_at, m15, hv4]
        by_cases e : j = b
        · rw [if_pos ⟨rfl, e⟩, if_pos e]
        · rw [if_neg (fun h => e h.2), if_neg e, sF_i (by decide)]; exact hz j
      · show μ16.1 i k = _; rw [m16, sF_i w, m15, sF_i x]
  have rr : ∀ (c : Nat), c < 8 → ∀ (x : Int32), x.toInt = (c : Int) → (v5 + x).toNatClampNeg = 8 * n + c := fun c hc x hx => tn_of (by rw [ti_add (by omega) (by omega), h5, hx]; omega)
  have loop : ∀ (fu j : Nat) (a8 : Int32) (z : Mem), a8.toInt = (j : Int) → j ≤ 8 → z.2 = μ.2 → (∀ k, k < j → z.1 40 (8 * n + k) = -1) → (∀ k, ¬ (8 * n ≤ k ∧ k < 8 * n + 8) → z.1 40 k = μ.1 40 k) → (∀ i k, i ≠ 40 → z.1 i k = μ6.1 i k) → pk (p_X5_addInstruction_b76 fu kind mark a3 a4 v4 v5 a8 z) (fun r => r.1 = nI n ∧ Ad7 kind mark v b n μ r.2) := by
    intro fu
    induction fu with
    | zero => intro j a8 z _ _ _ _ _ _ r e; rw [p_X5_addInstruction_b76_z] at e; cases e
    | succ fu ih =>
      intro j a8 z h8 hj zf zk zo zi
      rw [p_X5_addInstruction_b76_s]
      refine pk_ite (fun cc => ?_) (fun cc => ?_)
      · rw [ti_le, e8, h8] at cc
        rw [rr 0 (by omega) 0 e0, rr 2 (by omega) 2 e2, rr 6 (by omega) 6 e6, rr 7 (by omega) 7 e7, rr 1 (by omega) 1 e1]
        refine pk_gd (fun _ => pk_bvy (fun μ8 m8 => pk_gd (fun _ => pk_bvy (fun μ9 m9 => pk_gd (fun _ => pk_bvy (fun μ10 m10 => pk_gd (fun _ => pk_bvy (fun μ11 m11 => ?_))))))))
        have c11 : ∀ i k, μ11.1 i k = if i = 40 ∧ k = 8 * n + 7 then 0 else if i = 40 ∧ k = 8 * n + 6 then a3 else if i = 40 ∧ k = 8 * n + 2 then mark else if i = 40 ∧ k = 8 * n + 0 then kind else z.1 i k := by
          intro i k
          rw [m11, sF_at, m10, sF_at, m9, sF_at, m8, sF_at]
        have f11 : μ11.2 = μ.2 := by rw [m11, m10, m9, m8]; exact zf
        have o11 : ∀ i k, i ≠ 40 → μ11.1 i k = μ6.1 i k := fun i k hi => by rw [c11, if_neg (fun e => hi e.1), if_neg (fun e => hi e.1), if_neg (fun e => hi e.1), if_neg (fun e => hi e.1)]; exact zi i k hi
        have o6 : ∀ i k, i ≠ 39 → μ6.1 i k = μ.1 i k := fun i k hi => by rw [m6, sF_i hi]
        have fin : ∀ (y : Mem), y.2 = μ.2 → (∀ k, ¬ (8 * n ≤ k ∧ k < 8 * n + 8) → y.1 40 k = μ.1 40 k) → (y.1 40 (8 * n) = kind ∧ y.1 40 (8 * n + 1) = (if kind = 7 then -1 else μ.1 45 (4 * v + 2)) ∧ y.1 40 (8 * n + 2) = mark ∧ y.1 40 (8 * n + 3) = -1 ∧ y.1 40 (8 * n + 4) = -1 ∧ y.1 40 (8 * n + 5) = -1 ∧ y.1 40 (8 * n + 6) = a3 ∧ y.1 40 (8 * n + 7) = 0) → (∀ j, y.1 45 j = if kind ≠ 7 ∧ j = 4 * v + 2 then μ.1 45 j + 1 else μ.1 45 j) → (∀ i k, i ≠ 40 → i ≠ 45 → y.1 i k = μ6.1 i k) → pk (p_X5_addInstruction_b182 a4 v4 y) (fun r => r.1 = nI n ∧ Ad7 kind mark v b n μ r.2) := by
          intro y yf yo yk y45 yi
          refine pk_mono (b182 y (fun j => by rw [yi 43 j (by decide) (by decide), o6 43 j (by decide)])) ?_
          rintro r ⟨r1, r2, r40, r42, r43, ro⟩
          have same : ∀ k, 8 * n ≤ k → k < 8 * n + 8 → r.2.1 40 k = y.1 40 k := by
            intro k x w
            rw [r40]
            by_cases e : μ.1 43 b ≠ -1 ∧ k = 8 * (μ.1 43 b).toNatClampNeg + 5
            · obtain ⟨l, hl1, hl2⟩ := hl e.1
              have := e.2
              rw [tn_of hl1] at this
              omega
            · rw [if_neg e]
          obtain ⟨k0, k1, k2, k3, k4, k5, k6, k7⟩ := yk
          refine ⟨r1, by rw [r2]; exact yf, ?_, fun k hk => ?_, ⟨?_, ?_, ?_, ?_, ?_, ?_, ?_, ?_⟩, fun j hj => ?_, fun j => ?_, fun j => ?_, fun j => r43 j, fun i k x1 x2 x3 x4 x5 => ?_⟩
          · rw [ro 39 1 (by decide) (by decide) (by decide), yi 39 1 (by decide) (by decide), m6, sF_v]
          · rw [ro 39 k (by decide) (by decide) (by decide), yi 39 k (by decide) (by decide), m6, sF_k hk]
          · rw [same _ (by omega) (by omega)]; exact k0
          · rw [same _ (by omega) (by omega)]; exact k1
          · rw [same _ (by omega) (by omega)]; exact k2
          · rw [same _ (by omega) (by omega)]; exact k3
          · rw [same _ (by omega) (by omega)]; exact k4
          · rw [same _ (by omega) (by omega)]; exact k5
          · rw [same _ (by omega) (by omega), k6]; exact ha3
          · rw [same _ (by omega) (by omega)]; exact k7
          · rw [r40, yo j hj]
          · rw [ro 45 j (by decide) (by decide) (by decide)]; exact y45 j
          · rw [r42, yi 42 j (by decide) (by decide), o6 42 j (by decide)]
          · rw [ro i k x2 x3 x4, yi i k x2 x5, o6 i k x1]
        have base : ∀ k, k ≠ 0 → k ≠ 2 → k ≠ 6 → k ≠ 7 → k < 8 → μ11.1 40 (8 * n + k) = -1 := fun k x0 x2 x6 x7 x8 => by
          rw [c11, if_neg (by omega), if_neg (by omega), if_neg (by omega), if_neg (by omega)]; exact zk k (by omega)
        have b40 : ∀ k, ¬ (8 * n ≤ k ∧ k < 8 * n + 8) → μ11.1 40 k = μ.1 40 k := fun k hk => by
          rw [c11, if_neg (by omega), if_neg (by omega), if_neg (by omega), if_neg (by omega)]; exact zo k hk
        have v0 : μ11.1 40 (8 * n) = kind := by rw [c11, if_neg (by omega), if_neg (by omega), if_neg (by omega), if_pos ⟨rfl, by omega⟩]
        have v2 : μ11.1 40 (8 * n + 2) = mark := by rw [c11, if_neg (by omega), if_neg (by omega), if_pos ⟨rfl, rfl⟩]
        have v6 : μ11.1 40 (8 * n + 6) = a3 := by rw [c11, if_neg (by omega), if_pos ⟨rfl, rfl⟩]
        have v7 : μ11.1 40 (8 * n + 7) = 0 := by rw [c11, if_pos ⟨rfl, rfl⟩]
        refine pk_ite (fun ck => ?_) (fun ck => ?_)
        · refine fin μ11 f11 b40 ⟨v0, ?_, v2, base 3 (by decide) (by decide) (by decide) (by decide) (by decide), base 4 (by decide) (by decide) (by decide) (by decide) (by decide), base 5 (by decide) (by decide) (by decide) (by decide) (by decide), v6, v7⟩ (fun j => ?_) (fun i k x _ => o11 i k x)
          · rw [if_pos ck]; exact base 1 (by decide) (by decide) (by decide) (by decide) (by decide)
          · rw [if_neg (fun e => e.1 ck), o11 45 j (by decide), o6 45 j (by decide)]
        · refine pk_bvy (fun v19 q19 => ?_)
          have t19 : v19.toNatClampNeg = 4 * v + 2 := by
            have m : (a3 * 4).toInt = 4 * (v : Int) := by rw [ti_mulc e4 (by omega) (by omega), ha3]; omega
            exact tn_of (by rw [q19, ti_add (by omega) (by omega), m, e2]; omega)
          rw [t19]
          refine pk_gd (fun _ => pk_gd (fun _ => pk_bvy (fun μ20 m20 => pk_gd (fun _ => pk_gd (fun _ => pk_bvy (fun μ21 m21 => ?_))))))
          have c45 : μ11.1 45 (4 * v + 2) = μ.1 45 (4 * v + 2) := by rw [o11 _ _ (by decide), o6 _ _ (by decide)]
          have n20 : ∀ i k, ¬ (i = 40 ∧ k = 8 * n + 1) → μ20.1 i k = μ11.1 i k := fun i k h => by rw [m20, sF_at, if_neg h]
          have n21 : ∀ i k, ¬ (i = 40 ∧ k = 8 * n + 1) → i ≠ 45 → μ21.1 i k = μ11.1 i k := fun i k h h2 => by rw [m21, sF_i h2]; exact n20 i k h
          refine fin μ21 (by rw [m21, m20]; exact f11) (fun k hk => by rw [n21 _ _ (by omega) (by decide)]; exact b40 k hk) ⟨by rw [n21 _ _ (by omega) (by decide)]; exact v0, ?_, by rw [n21 _ _ (by omega) (by decide)]; exact v2, by rw [n21 _ _ (by omega) (by decide)]; exact base 3 (by decide) (by decide) (by decide) (by decide) (by decide), by rw [n21 _ _ (by omega) (by decide)]; exact base 4 (by decide) (by decide) (by decide) (by decide) (by decide), by rw [n21 _ _ (by omega) (by decide)]; exact base 5 (by decide) (by decide) (by decide) (by decide) (by decide), by rw [n21 _ _ (by omega) (by decide)]; exact v6, by rw [n21 _ _ (by omega) (by decide)]; exact v7⟩ (fun j => ?_) (fun i k x y => by rw [n21 i k (fun e => x e.1) y]; exact o11 i k x)
          · rw [if_neg ck, m21, sF_i (by decide), m20, sF_v]; exact c45
          · rw [m21, sF_at]
            by_cases e : j = 4 * v + 2
            · rw [if_pos ⟨rfl, e⟩, if_pos ⟨ck, e⟩, n20 _ _ (by omega), c45, e]
            · rw [if_neg (fun h => e h.2), if_neg (fun h => e h.2), n20 _ _ (by omega), o11 _ _ (by decide), o6 _ _ (by decide)]
      · rw [ti_le, e8, h8] at cc
        have t8 : (v5 + a8).toNatClampNeg = 8 * n + j := rr j (by omega) a8 h8
        rw [t8]
        refine pk_gd (fun _ => pk_bvy (fun μ24 m24 => pk_bvy (fun v25 q25 => ih (j + 1) v25 μ24 (by rw [q25, ti_add (by omega) (by omega), e1, h8]; omega) (by omega) (by rw [m24]; exact zf) (fun k hk => ?_) (fun k hk => ?_) (fun i k hi => ?_))))
        · rw [m24, sF_at]
          by_cases e : k = j
          · rw [if_pos ⟨rfl, by omega⟩]
          · rw [if_neg (by omega)]; exact zk k (by omega)
        · rw [m24, sF_at, if_neg (by omega)]; exact zo k hk
        · rw [m24, sF_i hi]; exact zi i k hi
  exact pk_mono (loop FUEL 0 0 μ6 e0 (by omega) (by rw [m6]; rfl) (fun k hk => by omega) (fun k _ => by rw [m6, sF_i (by decide)]) (fun _ _ _ => rfl)) (fun r hr => Or.inr ⟨hn3, hr⟩)
end
