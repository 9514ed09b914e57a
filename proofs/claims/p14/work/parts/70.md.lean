/-! WHAT IS MADE OF ARGUMENTS: A ROW -/
/-- nodes of a stack, and their parts from p to e -/
def Pk (μ : Mem) (be : Nat → Int) : List Nat → Nat → Nat → Prop
  | [], p, e => p = e
  | x :: w, p, e => ∃ m, Sh be 1 p m ∧ (m : Int) = (p : Int) + iv μ 33 x ∧ Pk μ be w m e
/-- weights of a stack -/
def Wg (μ : Mem) : List Nat → Nat
  | [] => 0
  | x :: w => (iv μ 33 x).toNat + Wg μ w
theorem Wg.len {μ : Mem} (hH : HI μ) : ∀ {w : List Nat}, (∀ x, x ∈ w → x < nv μ 56) → w.length ≤ Wg μ w := by
  intro w
  induction w with
  | nil => intro _; exact Nat.le_refl _
  | cons x w ih =>
    intro h
    have := ih (fun y hy => h y (by simp [hy]))
    have := (hH x (h x (by simp))).1
    show w.length + 1 ≤ (iv μ 33 x).toNat + Wg μ w
    omega
theorem Wg.le {μ : Mem} : ∀ {w : List Nat}, (∀ x, x ∈ w → iv μ 33 x ≤ 40) → Wg μ w ≤ 40 * w.length := by
  intro w
  induction w with
  | nil => intro _; exact Nat.le_refl _
  | cons x w ih =>
    intro h
    have := ih (fun y hy => h y (by simp [hy]))
    have := h x (by simp)
    show (iv μ 33 x).toNat + Wg μ w ≤ 40 * (w.length + 1)
    omega
theorem Pk.sw {μ : Mem} {be : Nat → Int} : ∀ {l : List Nat} {p e : Nat}, (∀ x, x ∈ l → iv μ 33 x ≤ 40) → Pk μ be l p e → Sw be l.length p e := by
  intro l
  induction l with
  | nil => intro p e _ h; exact h
  | cons x l ih =>
    intro p e hw h
    obtain ⟨m, h1, h2, h3⟩ := h
    have := hw x (by simp)
    exact ⟨m, h1, by omega, ih (fun y hy => hw y (by simp [hy])) h3⟩
theorem Pk.cong {μ μ' : Mem} {be : Nat → Int} (h33 : ∀ x, iv μ' 33 x = iv μ 33 x) : ∀ {l : List Nat} {p e : Nat}, Pk μ be l p e → Pk μ' be l p e := by
  intro l
  induction l with
  | nil => intro p e h; exact h
  | cons x l ih => intro p e h; obtain ⟨m, h1, h2, h3⟩ := h; exact ⟨m, h1, by rw [h33]; exact h2, ih h3⟩
/-- the row that is made: n parts, each of at most 40, with what stands at each place -/
def Md (μ : Mem) (V : Nat → Prop) (n : Nat) : Prop := 0 ≤ (μ.1 0 118).toInt ∧ nv μ 118 ≤ 200 ∧ Sw (bp (iv μ 67)) n 0 (nv μ 118) ∧ (∀ p, p < nv μ 118 → 0 ≤ iv μ 67 p ∧ iv μ 67 p ≤ 3) ∧ (∀ p, p < nv μ 118 → ∃ x : Nat, iv μ 69 p = (x : Int) ∧ Gd μ V x)
def frMd : List (Nat × Nat × Nat) := [(0, 0, 118), (1, 55, 0), (1, 67, 0), (1, 68, 0), (1, 69, 0)]
set_option maxHeartbeats 2000000 in
theorem k_layMade {μ : Mem} (hI : IM μ) (hH : HI μ) {V : Nat → Prop} {l : List Nat} (hl1 : Lst (iv μ 45) 0 l) (hl5 : l.length ≤ 5) (hl3 : ∀ x, x ∈ l → Gd μ V x) {a : Int32} (ha : a.toInt = (l.length : Int)) : ok (p_X12_layMade a μ) (fun q => IM q ∧ Fr frMd true μ q ∧ Md q V l.length ∧ c3 (iv q 67) (nv q 118) = Ss μ l) := by
  rw [p_X12_layMade_eq]
  have e0 : (0 : Int32).toInt = 0 := by decide
  have e1 : (1 : Int32).toInt = 1 := by decide
  have e2 : (2 : Int32).toInt = 2 := by decide
  have em1 : (-1 : Int32).toInt = -1 := by decide
  have ehp := hp_nv hI
  have g56 := rgm_0_56 hI
  have hW200 : Wg μ l ≤ 200 := by have := Wg.le (fun x hx => (hl3 x hx).2); omega
  -- the second loop
  have loop2 : ∀ (m : Nat) (a2 : Int32) (w : List Nat) (μ1 : Mem), a2.toInt = (w.length : Int) → Wg μ w < m → IM μ1 → Fr frMd true μ μ1 → Stk (iv μ1 55) w → (∀ x, x ∈ w → Gd μ V x) → 0 ≤ (μ1.1 0 118).toInt → nv μ1 118 + Wg μ w = Wg μ l → (∀ b2 e, (∀ i, i < nv μ1 118 → b2 i = bp (iv μ1 67) i) → Pk μ b2 w (nv μ1 118) e → Sw b2 l.length 0 e) → (∀ p, p < nv μ1 118 → 0 ≤ iv μ1 67 p ∧ iv μ1 67 p ≤ 3) → (∀ p, p < nv μ1 118 → ∃ x : Nat, iv μ1 69 p = (x : Int) ∧ Gd μ V x) → c3 (iv μ1 67) (nv μ1 118) + Ss μ w = Ss μ l → ok (p_X12_layMade_b36 m a2 μ1) (fun q => IM q ∧ Fr frMd true μ q ∧ Md q V l.length ∧ c3 (iv q 67) (nv q 118) = Ss μ l) := by
    intro m
    induction m with
    | zero => intro a2 w μ1 _ h; omega
    | succ m ih =>
      intro a2 w μ1 ha2 hm hI1 F1 hst hw h118 hsum hK hsort hat hc3
      rw [p_X12_layMade_b36_s]
      have G1 := F1.gr (by decide +kernel)
      cases w with
      | nil =>
        rw [if_pos (ti_le.mpr (by simp at ha2; omega))]
        have hs0 : Wg μ [] = 0 := rfl
        refine ok_some ⟨hI1, F1, ⟨h118, by omega, hK _ _ (fun i _ => rfl) rfl, hsort, fun p hp => ?_⟩, ?_⟩
        · obtain ⟨x, x1, x2⟩ := hat p hp
          exact ⟨x, x1, x2.gr G1⟩
        · have : Ss μ [] = 0 := rfl
          omega
      | cons x w =>
        simp only [List.length_cons] at ha2
        rw [if_neg (by rw [ti_le]; omega)]
        have gx := hw x (by simp)
        have lx := gx.1.lt
        have wx := (hH x lx).1
        have hWx : Wg μ (x :: w) = (iv μ 33 x).toNat + Wg μ w := rfl
        have hlenw := Wg.len hH (w := x :: w) (fun y hy => (hw y hy).1.lt)
        simp only [List.length_cons] at hlenw
        have hlenw2 := Wg.len hH (w := w) (fun y hy => (hw y (by simp [hy])).1.lt)
        have m118 := ti_nat (a := μ1.1 0 118) h118
        have em118 : nv μ1 118 = (μ1.1 0 118).toNatClampNeg := rfl
        refine ok_bv (fun v5 ev5 => ?_)
        have t5 : v5.toInt = (w.length : Int) := by rw [ev5]; have := nat_sub1 ha2; rw [this]; omega
        have n5 : v5.toNatClampNeg = w.length := tn_of t5
        rw [n5]
        refine ok_gd (inb_iff.mpr (by omega)) (ok_bv (fun v6 ev6 => ?_))
        have t6 : v6.toInt = (x : Int) := by rw [ev6]; exact hst.1
        have n6 : v6.toNatClampNeg = x := tn_of t6
        have b6 : inb v6 100000 = true := inb_iff.mpr (by omega)
        have x30 : ∀ ν : Mem, Fr frMd true μ ν → (ν.1 30 x) = μ.1 30 x := fun ν hν => hν.1 30 x (na_a (by decide) x)
        have x31 : ∀ ν : Mem, Fr frMd true μ ν → (ν.1 31 x) = μ.1 31 x := fun ν hν => hν.1 31 x (na_a (by decide) x)
        have x32 : ∀ ν : Mem, Fr frMd true μ ν → (ν.1 32 x) = μ.1 32 x := fun ν hν => hν.1 32 x (na_a (by decide) x)
        have b118 : inb (μ1.1 0 118) 210 = true := inb_iff.mpr (by omega)
        rw [n6]
        refine ok_gd b6 (ok_gd b118 (ok_bv (fun μ7 em7 => ok_gd b6 ?_)))
        rw [← em118] at em7
        have F7 : Fr frMd true μ μ7 := by rw [em7]; exact Fr.puta F1 (by decide +kernel)
        have hI7 : IM μ7 := by rw [em7]; exact IM_F hI1 (rtma_67 _ _)
        have e7 : μ7.1 0 118 = μ1.1 0 118 := by rw [em7, sF_i (by decide)]
        -- behind the sort
        have b95 : ∀ k0 : Int32, ok (p_X12_layMade_b95 (p_X12_layMade_b36 m) v5 v6 k0 (μ7.1 0 118) μ7) (fun q => IM q ∧ Fr frMd true μ q ∧ Md q V l.length ∧ c3 (iv q 67) (nv q 118) = Ss μ l) := by
          intro k0
          rw [p_X12_layMade_b95_eq, e7, ← em118, n6]
          refine ok_gd b118 (ok_bv (fun μ9 em9 => ?_))
          have e9 : μ9.1 0 118 = μ1.1 0 118 := by rw [em9, sF_i (by decide)]; exact e7
          rw [e9, ← em118]
          refine ok_gd b118 (ok_bv (fun μ10 em10 => ?_))
          have e10 : μ10.1 0 118 = μ1.1 0 118 := by rw [em10, sF_i (by decide)]; exact e9
          rw [e10]
          refine ok_bv (fun μ11 em11 => ok_gd b6 ?_)
          have hI9 : IM μ9 := by rw [em9]; exact IM_F hI7 (rtma_68 _ _)
          have hI10 : IM μ10 := by rw [em10]; exact IM_F hI9 (rpm_69 (by omega))
          have hI11 : IM μ11 := by rw [em11]; exact IM_F hI10 (rtm_0_118 _)
          have F11 : Fr frMd true μ μ11 := by
            rw [em11]; refine Fr.put ?_ (by decide +kernel)
            rw [em10]; refine Fr.puta ?_ (by decide +kernel)
            rw [em9]; exact Fr.puta F7 (by decide +kernel)
          have t118 : (μ1.1 0 118 + 1).toInt = (μ1.1 0 118).toInt + 1 := by rw [ti_add (by omega) (by omega), e1]
          have n11 : nv μ11 118 = nv μ1 118 + 1 := tn_of (by rw [em11, sF_v, t118]; omega)
          have v67 : ∀ i, iv μ11 67 i = if i = nv μ1 118 then iv μ 30 x else iv μ1 67 i := by
            intro i
            unfold iv
            rw [em11, sF_i (by decide), em10, sF_i (by decide), em9, sF_i (by decide), em7, sF_1, if_pos rfl]
            split
            · rw [x30 μ1 F1]
            · rfl
          have v69 : ∀ i, iv μ11 69 i = if i = nv μ1 118 then (x : Int) else iv μ1 69 i := by
            intro i
            unfold iv
            rw [em11, sF_i (by decide), em10, sF_1, if_pos rfl]
            split
            · exact t6
            · rw [em9, sF_i (by decide), em7, sF_i (by decide)]
          have st11 : ∀ i, iv μ11 55 i = iv μ1 55 i := by
            intro i
            unfold iv
            rw [em11, sF_i (by decide), em10, sF_i (by decide), em9, sF_i (by decide), em7, sF_i (by decide)]
          have hsx : iv μ 30 x = 0 ∨ iv μ 30 x = 1 ∨ iv μ 30 x = 2 ∨ iv μ 30 x = 3 := by
            obtain ⟨_, ⟨hz, _⟩ | ⟨hz, _⟩⟩ := hH x lx
            · omega
            · omega
          have sort11 : ∀ p, p < nv μ11 118 → 0 ≤ iv μ11 67 p ∧ iv μ11 67 p ≤ 3 := by
            intro p hp
            rw [v67]
            by_cases e : p = nv μ1 118
            · rw [if_pos e]; omega
            · rw [if_neg e]; exact hsort p (by omega)
          have at11 : ∀ p, p < nv μ11 118 → ∃ x : Nat, iv μ11 69 p = (x : Int) ∧ Gd μ V x := by
            intro p hp
            rw [v69]
            by_cases e : p = nv μ1 118
            · rw [if_pos e]; exact ⟨x, rfl, gx⟩
            · rw [if_neg e]; exact hat p (by omega)
          have c311 : c3 (iv μ11 67) (nv μ11 118) = c3 (iv μ1 67) (nv μ1 118) + (if iv μ 30 x = 3 then 1 else 0) := by
            rw [n11]
            show c3 _ (nv μ1 118) + (if iv μ11 67 (nv μ1 118) = 3 then 1 else 0) = _
            rw [v67 (nv μ1 118), if_pos rfl, c3_cong _ (fun i hi => by rw [v67, if_neg (by omega)])]
          have hSsx : Ss μ (x :: w) = St μ x + Ss μ w := rfl
          have low : ∀ (b2 : Nat → Int), (∀ i, i < nv μ11 118 → b2 i = bp (iv μ11 67) i) → (∀ i, i < nv μ1 118 → b2 i = bp (iv μ1 67) i) ∧ b2 (nv μ1 118) = if iv μ 30 x = 2 then 2 else 0 := by
            intro b2 hb2
            refine ⟨fun i hi => ?_, ?_⟩
            · rw [hb2 i (by omega)]; unfold bp; rw [v67 i, if_neg (show ¬ i = nv μ1 118 by omega)]
            · rw [hb2 _ (by omega)]; unfold bp; rw [v67 (nv μ1 118), if_pos (rfl : nv μ1 118 = nv μ1 118)]
          have h118' : 0 ≤ (μ11.1 0 118).toInt := by rw [em11, sF_v, t118]; omega
          refine ok_ite (fun h2 => ?_) (fun h2 => ?_)
          · -- a pair
            rw [x30 μ11 F11] at h2
            have h2' : iv μ 30 x = 2 := by unfold iv; rw [h2]; exact e2
            obtain ⟨v1, v2⟩ := gx.1.kids h2'
            obtain ⟨_, ⟨hz, _⟩ | ⟨_, p, q, hp1, hq1, hpx, hqx, hwt⟩⟩ := hH x lx
            · omega
            have wp := (hH p (by omega)).1
            have wq := (hH q (by omega)).1
            rw [hp1] at v1
            rw [hq1] at v2
            have gx2 := gx.2
            have t51 : (v5 + 1).toInt = (w.length : Int) + 1 := by rw [ti_add (by omega) (by omega), e1, t5]
            have n51 : (v5 + 1).toNatClampNeg = w.length + 1 := tn_of (by omega)
            rw [n5, n51]
            refine ok_gd b6 (ok_gd (inb_iff.mpr (by omega)) (ok_bv (fun μ13 em13 => ok_gd b6 (ok_gd (inb_iff.mpr (by omega)) (ok_bv (fun μ14 em14 => ok_bv (fun v15 ev15 => ?_)))))))
            have F14 : Fr frMd true μ μ14 := by
              rw [em14]; refine Fr.puta ?_ (by decide +kernel)
              rw [em13]; exact Fr.puta F11 (by decide +kernel)
            have f14 : Fr [(1, 55, 0)] true μ11 μ14 := by
              rw [em14]; refine Fr.puta ?_ (by decide +kernel)
              rw [em13]; exact Fr.puta Fr.rf (by decide +kernel)
            have hI14 : IM μ14 := by
              rw [em14]; refine IM_F ?_ (rtma_55 _ _)
              rw [em13]; exact IM_F hI11 (rtma_55 _ _)
            have F13 : Fr frMd true μ μ13 := by rw [em13]; exact Fr.puta F11 (by decide +kernel)
            have s0 : iv μ14 55 w.length = (q : Int) := by
              unfold iv
              rw [em14, sF_k (by omega), em13, sF_v, x32 μ11 F11]; exact hq1
            have s1 : iv μ14 55 (w.length + 1) = (p : Int) := by
              unfold iv
              rw [em14, sF_v, x31 μ13 F13]; exact hp1
            have e118 : nv μ14 118 = nv μ11 118 := f14.n (by decide +kernel)
            have hWn : Wg μ (p :: q :: w) = (iv μ 33 p).toNat + ((iv μ 33 q).toNat + Wg μ w) := rfl
            refine ih v15 (p :: q :: w) μ14 (by rw [ev15, ti_add (by omega) (by omega), e2, t5]; simp; omega) (by omega) hI14 F14 ⟨s1, s0, hst.2.cong (fun i hi => ?_)⟩ ?_ (by rw [f14.v (by decide +kernel)]; exact h118') (by omega) ?_ ?_ ?_ ?_
            · rw [← st11]
              unfold iv
              rw [em14, sF_k (by omega), em13, sF_k (by omega)]
            · intro z hz
              rcases List.mem_cons.mp hz with e | hz
              · rw [e]; exact ⟨v1, by omega⟩
              · rcases List.mem_cons.mp hz with e | hz
                · rw [e]; exact ⟨v2, by omega⟩
                · exact hw z (by simp [hz])
            · intro b2 e hb2 hpk
              rw [e118, f14.fe (by decide)] at hb2
              rw [e118, n11] at hpk
              obtain ⟨lb1, lb2⟩ := low b2 hb2
              rw [if_pos h2'] at lb2
              obtain ⟨m1, q1, q2, m2, q3, q4, q5⟩ := hpk
              refine hK b2 e lb1 ⟨m2, Sh.cons (k := 2) lb2 (q1.app q3) Sh.nil, ?_, q5⟩
              rw [hwt]; omega
            · rw [e118, f14.fe (by decide)]; exact sort11
            · rw [e118, f14.fe (by decide)]; exact at11
            · rw [e118, f14.fe (by decide), c311, if_neg (by omega)]
              show _ + (St μ p + (St μ q + Ss μ w)) = _
              have := St.pair hH lx h2' hp1 hq1
              omega
          · have h2n : iv μ 30 x ≠ 2 := by
              rw [x30 μ11 F11] at h2
              exact fun h => h2 (ti_eq.mpr (by rw [e2]; exact h))
            have wx1 : iv μ 33 x = 1 := by
              obtain ⟨_, ⟨_, hz⟩ | ⟨hz, _⟩⟩ := hH x lx
              · exact hz
              · exact absurd hz h2n
            refine ih v5 w μ11 t5 (by omega) hI11 F11 (hst.2.cong (fun i _ => st11 i)) (fun z hz => hw z (by simp [hz])) h118' (by omega) ?_ sort11 at11 ?_
            · intro b2 e hb2 hpk
              rw [n11] at hpk
              obtain ⟨lb1, lb2⟩ := low b2 hb2
              rw [if_neg h2n] at lb2
              exact hK b2 e lb1 ⟨nv μ1 118 + 1, Sh.cons (k := 0) lb2 Sh.nil Sh.nil, by rw [wx1]; omega, hpk⟩
            · rw [c311]
              have := St.leaf (μ := μ) h2n
              omega
        exact ok_ite (fun _ => b95 _) (fun _ => ok_gd b6 (b95 _))
  -- the first loop
  have loop1 : ∀ (m : Nat) (a2 a3 : Int32) (l1 l2 : List Nat) (μ1 : Mem), l = l1 ++ l2 → a2.toInt = (l2.length : Int) → a3.toInt = (l1.length : Int) - 1 → l1.length < m → IM μ1 → Fr frMd true μ μ1 → Stk (iv μ1 55) l2 → μ1.1 0 118 = 0 → ok (p_X12_layMade_b11 m a2 a3 μ1) (fun q => IM q ∧ Fr frMd true μ q ∧ Md q V l.length ∧ c3 (iv q 67) (nv q 118) = Ss μ l) := by
    intro m
    induction m with
    | zero => intro a2 a3 l1 l2 μ1 _ _ _ h; omega
    | succ m ih =>
      intro a2 a3 l1 l2 μ1 hl ha2 ha3 hm hI1 F1 hst h118
      rw [p_X12_layMade_b11_s]
      refine ok_ite (fun hlt => ?_) (fun hlt => ?_)
      · rw [ti_lt] at hlt
        have : l1 = [] := List.length_eq_zero_iff.mp (by omega)
        subst this
        simp only [List.nil_append] at hl
        subst hl
        have n118 : nv μ1 118 = 0 := by unfold nv; rw [h118]; decide
        refine loop2 FUEL a2 l μ1 ha2 (by show _ < 10000000000; omega) hI1 F1 hst hl3 (by rw [h118]; decide) (by rw [n118]; omega) ?_ (fun p hp => by rw [n118] at hp; omega) (fun p hp => by rw [n118] at hp; omega) ?_
        · intro b2 e _ hpk
          rw [n118] at hpk
          exact Pk.sw (fun x hx => (hl3 x hx).2) hpk
        · rw [n118]
          show 0 + _ = _
          omega
      · rw [ti_lt] at hlt
        have hne : l1 ≠ [] := fun h => by rw [h] at ha3; simp at ha3; omega
        obtain ⟨l3, x, rfl⟩ : ∃ l3 x, l1 = l3 ++ [x] := ⟨l1.dropLast, l1.getLast hne, (List.dropLast_concat_getLast hne).symm⟩
        have hlen : l.length = l3.length + 1 + l2.length := by rw [hl]; simp; omega
        simp only [List.length_append, List.length_cons, List.length_nil] at ha3 hm
        have n3 : a3.toNatClampNeg = l3.length := tn_of (by omega)
        have n2 : a2.toNatClampNeg = l2.length := tn_of ha2
        have hxe : iv μ 45 l3.length = (x : Int) := by
          obtain ⟨y, h1, h2⟩ := hl1.get l3.length (by omega)
          have gen : ∀ {l : List Nat} {i : Nat}, Lst (iv μ 45) i l → ∀ (j x : Nat), l[j]? = some x → iv μ 45 (i + j) = (x : Int) := by
            intro l
            induction l with
            | nil => intro i _ j x h; simp at h
            | cons z l ihl =>
              intro i h j x hj
              cases j with
              | zero =>
                have : z = x := by simpa using hj
                rw [← this]; exact h.1
              | succ j =>
                have := ihl h.2 j x (by simpa using hj)
                have e : i + (j + 1) = i + 1 + j := by omega
                rw [e]; exact this
          have := gen hl1 l3.length x (by rw [hl]; simp)
          rw [Nat.zero_add] at this
          exact this
        have x45 : μ1.1 45 l3.length = μ.1 45 l3.length := F1.1 45 _ (na_a (by decide) _)
        rw [n3, n2]
        refine ok_gd (inb_iff.mpr (by omega)) (ok_gd (inb_iff.mpr (by omega)) (ok_bv (fun μ16 em16 => ok_bv (fun v17 ev17 => ok_bv (fun v18 ev18 => ?_)))))
        refine ih v17 v18 l3 (x :: l2) μ16 (by rw [hl]; simp) (by rw [ev17, ti_add (by omega) (by omega), e1, ha2]; simp) ?_ (by omega) (by rw [em16]; exact IM_F hI1 (rtma_55 _ _)) (by rw [em16]; exact Fr.puta F1 (by decide +kernel)) ⟨?_, hst.cong (fun i hi => ?_)⟩ (by rw [em16, sF_i (by decide)]; exact h118)
        · rw [ev18]
          have := nat_sub1 (a := a3) (p := l3.length) (by omega)
          rw [this]
        · unfold iv
          rw [em16, sF_v, x45]; exact hxe
        · unfold iv
          rw [em16, sF_k (by omega)]
  refine ok_bv (fun μ1 em1' => ok_bv (fun v2 ev2 => loop1 FUEL 0 v2 l [] μ1 (by simp) e0 ?_ (by show _ < 10000000000; omega) (by rw [em1']; exact IM_F hI (rtm_0_118 _)) (by rw [em1']; exact Fr.put Fr.rf (by decide +kernel)) trivial (by rw [em1', sF_v])))
  rw [ev2, ti_sub (by omega) (by omega), e1, ha]
