/-! A RUN OF THE TASK: its end, its begin -/
def Ws (μ : Mem) : List Nat → Int
  | [] => 0
  | x :: l => iv μ 33 x + Ws μ l
def frLR : List (Nat × Nat × Nat) := [(1, 55, 0), (0, 0, 122), (1, 74, 0), (1, 75, 0)]
theorem Ws.len {μ : Mem} (hH : HI μ) : ∀ {l : List Nat}, (∀ x, x ∈ l → x < nv μ 56) → (l.length : Int) ≤ Ws μ l := by
  intro l
  induction l with
  | nil => intro _; show ((0 : Nat) : Int) ≤ 0; omega
  | cons x l ih =>
    intro h
    have h1 := (hH x (h x (by simp))).1
    have h2 := ih (fun y hy => h y (by simp [hy]))
    show ((l.length + 1 : Nat) : Int) ≤ iv μ 33 x + Ws μ l
    omega
set_option maxHeartbeats 2000000 in
theorem k_layRow {μ : Mem} (hI : IM μ) (hH : HI μ) {a : Int32} {x : Nat} (ha : a.toInt = (x : Int)) (hx : x < nv μ 56) (hw : iv μ 33 x ≤ 40) (h122 : (μ.1 0 122).toInt = 0) : ok (p_X12_layRow a μ) (fun q => IM q ∧ Fr frLR true μ q ∧ 0 ≤ (q.1 0 122).toInt ∧ (q.1 0 122).toInt ≤ 40) := by
  have e0 : (0 : Int32).toInt = 0 := by decide
  have e1 : (1 : Int32).toInt = 1 := by decide
  have e2 : (2 : Int32).toInt = 2 := by decide
  have em1 : (-1 : Int32).toInt = -1 := by decide
  have ehp := hp_nv hI
  have g56 := rgm_0_56 hI
  have loop : ∀ (m : Nat) (a2 : Int32) (l : List Nat) (μ2 : Mem), IM μ2 → Fr frLR true μ μ2 → a2.toInt = (l.length : Int) → Stk (iv μ2 55) l → (∀ x, x ∈ l → x < nv μ 56) → 0 ≤ (μ2.1 0 122).toInt → Ws μ l + (μ2.1 0 122).toInt ≤ 40 → Ws μ l < (m : Int) → ok (p_X12_layRow_b9 m a2 μ2) (fun q => IM q ∧ Fr frLR true μ q ∧ 0 ≤ (q.1 0 122).toInt ∧ (q.1 0 122).toInt ≤ 40) := by
    intro m
    induction m with
    | zero =>
      intro a2 l μ2 _ _ _ _ hl _ _ h
      have := Ws.len hH hl
      omega
    | succ m ih =>
      intro a2 l μ2 hI2 F2 h2 hS hl hr1 hr2 hm
      have hlen := Ws.len hH hl
      rw [p_X12_layRow_b9_s]
      refine ok_ite (fun hle => ?_) (fun hle => ?_)
      · exact ok_some ⟨hI2, F2, hr1, by omega⟩
      · rw [ti_le, e0] at hle
        cases l with
        | nil => simp only [List.length_nil] at h2; omega
        | cons y l =>
          obtain ⟨s1, s2⟩ := hS
          simp only [List.length_cons] at h2 hlen
          have hy := hl y (by simp)
          have hl' : ∀ z, z ∈ l → z < nv μ 56 := fun z hz => hl z (by simp [hz])
          have hlen' := Ws.len hH hl'
          have hwy : Ws μ (y :: l) = iv μ 33 y + Ws μ l := rfl
          rw [hwy] at hr2 hm hlen
          obtain ⟨w1, w2⟩ := hH y hy
          refine ok_bv (fun v3 ev3 => ?_)
          have t3 : v3.toInt = (l.length : Int) := by rw [ev3, ti_add (by omega) (by omega), em1]; omega
          have n3 : v3.toNatClampNeg = l.length := tn_of t3
          rw [n3]
          refine ok_gd (inb_iff.mpr (by omega)) (ok_bv (fun v4 ev4 => ?_))
          have t4 : v4.toInt = (y : Int) := by rw [ev4]; exact s1
          have n4 : v4.toNatClampNeg = y := tn_of t4
          have b4 : inb v4 100000 = true := inb_iff.mpr (by omega)
          rw [n4]
          have n122 : (μ2.1 0 122).toNatClampNeg = nv μ2 122 := rfl
          have b122 : inb (μ2.1 0 122) 41 = true := inb_iff.mpr (by omega)
          refine ok_gd b4 (ok_gd b122 (ok_bv (fun μ5 em5 => ?_)))
          have f5 : Fr frLR true μ2 μ5 := by rw [em5]; exact Fr.puta Fr.rf (by decide +kernel)
          have hI5 : IM μ5 := by rw [em5]; exact IM_F hI2 (rtma_74 _ _)
          have x122 : μ5.1 0 122 = μ2.1 0 122 := by rw [em5, sF_i (by decide)]
          have k55 : iv μ5 55 = iv μ2 55 := by rw [em5]; funext i; unfold iv; rw [sF_i (by decide)]
          have F5 := F2.trans f5
          have k30 : (μ5.1 30 y).toInt = iv μ 30 y := F5.a (c := 30) (by decide) y
          -- what is the same in both
          have b66 : ∀ k0 : Int32, ok (p_X12_layRow_b66 (p_X12_layRow_b9 m) v3 v4 k0 (μ5.1 0 122) μ5) (fun q => IM q ∧ Fr frLR true μ q ∧ 0 ≤ (q.1 0 122).toInt ∧ (q.1 0 122).toInt ≤ 40) := by
            intro k0
            rw [p_X12_layRow_b66_eq, x122, n4, n3]
            refine ok_gd b122 (ok_bv (fun μ7 em7 => ok_bv (fun μ8 em8 => ?_)))
            have f7 : Fr frLR true μ5 μ7 := by rw [em7]; exact Fr.puta Fr.rf (by decide +kernel)
            have hI7 : IM μ7 := by rw [em7]; exact IM_F hI5 (rtma_75 _ _)
            have f8 : Fr frLR true μ7 μ8 := by rw [em8]; exact Fr.put Fr.rf (by decide +kernel)
            have hI8 : IM μ8 := by rw [em8]; exact IM_F hI7 (rtm_0_122 _)
            have F8 := (F5.trans f7).trans f8
            have y122 : (μ8.1 0 122).toInt = (μ2.1 0 122).toInt + 1 := by
              rw [em8, sF_v, em7, sF_i (by decide), x122, ti_add (by omega) (by omega), e1]
            have k55' : iv μ8 55 = iv μ2 55 := by rw [← k55, em8, em7]; funext i; unfold iv; rw [sF_i (by decide), sF_i (by decide)]
            have k30' : (μ8.1 30 y).toInt = iv μ 30 y := F8.a (c := 30) (by decide) y
            refine ok_gd b4 (ok_ite (fun h => ?_) (fun h => ?_))
            · have h : iv μ 30 y = 2 := by rw [← k30', h]; exact e2
              rcases w2 with ⟨w2, _⟩ | ⟨_, p, q, p1, q1, p2, q2, pw⟩
              · omega
              have wp := (hH p (by omega)).1
              have wq := (hH q (by omega)).1
              refine ok_gd b4 (ok_gd (inb_iff.mpr (by omega)) (ok_bv (fun μ10 em10 => ?_)))
              have f10 : Fr frLR true μ8 μ10 := by rw [em10]; exact Fr.puta Fr.rf (by decide +kernel)
              have hI10 : IM μ10 := by rw [em10]; exact IM_F hI8 (rtma_55 _ _)
              have t31 : (v3 + 1).toInt = ((l.length + 1 : Nat) : Int) := by rw [ti_add (by omega) (by omega), e1, t3]; omega
              have n31 : (v3 + 1).toNatClampNeg = l.length + 1 := tn_of t31
              rw [n31]
              refine ok_gd b4 (ok_gd (inb_iff.mpr (by omega)) (ok_bv (fun μ11 em11 => ok_bv (fun v12 ev12 => ?_))))
              have f11 : Fr frLR true μ10 μ11 := by rw [em11]; exact Fr.puta Fr.rf (by decide +kernel)
              have hI11 : IM μ11 := by rw [em11]; exact IM_F hI10 (rtma_55 _ _)
              have F11 := (F8.trans f10).trans f11
              have z122 : (μ11.1 0 122).toInt = (μ2.1 0 122).toInt + 1 := by
                rw [em11, sF_i (by decide), em10, sF_i (by decide)]; exact y122
              have hW2 : Ws μ (p :: q :: l) = iv μ 33 p + (iv μ 33 q + Ws μ l) := rfl
              have k31 : iv μ10 31 y = (p : Int) := by rw [(F8.trans f10).a (c := 31) (by decide)]; exact p1
              have k32 : iv μ8 32 y = (q : Int) := by rw [F8.a (c := 32) (by decide)]; exact q1
              refine ih v12 (p :: q :: l) μ11 hI11 F11 (by rw [ev12, ti_add (by omega) (by omega), e2, t3]; simp only [List.length_cons]; omega) ⟨?_, ?_, ?_⟩ ?_ (by omega) (by rw [hW2]; omega) (by rw [hW2]; omega)
              · show iv μ11 55 (l.length + 1) = _
                rw [em11]; unfold iv; rw [sF_v]; exact k31
              · rw [em11, em10]; unfold iv; rw [sF_k (by omega), sF_v]; exact k32
              · refine s2.cong (fun i hi => ?_)
                rw [← k55', em11, em10]; unfold iv; rw [sF_k (by omega), sF_k (by omega)]
              · intro z hz
                rcases List.mem_cons.mp hz with e | hz
                · omega
                · rcases List.mem_cons.mp hz with e | hz
                  · omega
                  · exact hl' z hz
            · exact ih v3 l μ8 hI8 F8 t3 (by rw [k55']; exact s2) hl' (by omega) (by omega) (by omega)
          refine ok_gd b4 (ok_ite (fun _ => b66 _) (fun _ => ok_gd b4 (b66 _)))
  rw [p_X12_layRow_eq]
  refine ok_gd (by decide) (ok_bv (fun μ1 em1' => ?_))
  have n0 : (0 : Int32).toNatClampNeg = 0 := by decide
  rw [n0] at em1'
  have f1 : Fr frLR true μ μ1 := by rw [em1']; exact Fr.puta Fr.rf (by decide +kernel)
  have hI1 : IM μ1 := by rw [em1']; exact IM_F hI (rtma_55 _ _)
  have x122 : (μ1.1 0 122).toInt = 0 := by rw [em1', sF_i (by decide)]; exact h122
  have hW1 : Ws μ [x] = iv μ 33 x + 0 := rfl
  refine loop FUEL 1 [x] μ1 hI1 f1 (by rw [e1]; rfl) ⟨?_, trivial⟩ (fun y hy => by rw [List.mem_singleton.mp hy]; exact hx) (by omega) (by omega) (by rw [hW1]; show _ < ((10000000000 : Nat) : Int); omega)
  rw [em1']; unfold iv; show ((sF μ 55 0 a).1 55 0).toInt = _; rw [sF_v]; exact ha
def frER : List (Nat × Nat × Nat) := frLR ++ [(1, 73, 0)]
theorem k_endRun {μ : Mem} (hI : IM μ) {a : Int32} (h122 : (μ.1 0 122).toInt = 0) (hz : μ.1 0 68 = 0 → HI μ ∧ ∃ x : Nat, a.toInt = (x : Int) ∧ x < nv μ 56 ∧ iv μ 33 x ≤ 40) : ok (p_X12_endRun a μ) (fun q => IM q ∧ Fr frER true μ q ∧ 0 ≤ (q.1 0 122).toInt ∧ (q.1 0 122).toInt ≤ 40) := by
  have b75 : ∀ (μ1 : Mem) (k0 k1 : Int32), IM μ1 → Fr [(1, 73, 0)] true μ μ1 → inb k1 6 = true → ok (p_X12_endRun_b75 a k0 k1 μ1) (fun q => IM q ∧ Fr frER true μ q ∧ 0 ≤ (q.1 0 122).toInt ∧ (q.1 0 122).toInt ≤ 40) := by
    intro μ1 k0 k1 hI1 F1 hk
    rw [p_X12_endRun_b75_eq]
    refine ok_gd hk (ok_bv (fun μ7 em7 => ok_gd (by decide) (ok_bv (fun μ8 em8 => ?_))))
    have f7 : Fr [(1, 73, 0)] true μ1 μ7 := by rw [em7]; exact Fr.puta Fr.rf (by decide +kernel)
    have f8 : Fr [(1, 73, 0)] true μ7 μ8 := by rw [em8]; exact Fr.puta Fr.rf (by decide +kernel)
    have hI8 : IM μ8 := by rw [em8]; exact IM_F (by rw [em7]; exact IM_F hI1 (rtma_73 _ _)) (rtma_73 _ _)
    have F8 := (F1.trans f7).trans f8
    refine ok_ite (fun h => ?_) (fun h => ok_some ⟨hI8, Fr.mono F8 (by decide +kernel) (fun h => h), by rw [F8.v (by decide +kernel), h122]; omega⟩)
    rw [F8.v (by decide +kernel)] at h
    obtain ⟨hH, x, x1, x2, x3⟩ := hz h
    have hq := F8.heq (by decide +kernel)
    refine ok_bw (k_layRow hI8 (hH.fr F8 (by decide +kernel)) x1 (by rw [hq.1]; exact x2) (by rw [(hq.2 x).2.2.2]; exact x3) (by rw [F8.v (by decide +kernel)]; exact h122)) ?_
    rintro q ⟨q1, q2, q3⟩
    exact ok_some ⟨q1, (Fr.mono F8 (by decide +kernel) (fun h => h)).trans (Fr.mono q2 (by decide +kernel) (fun h => h)), q3⟩
  have bx : μ.1 0 68 = 0 → inb a 100000 = true := by
    intro h
    obtain ⟨hH, x, x1, x2, x3⟩ := hz h
    have ehp := hp_nv hI
    have g56 := rgm_0_56 hI
    exact inb_iff.mpr (by omega)
  have b52 : ∀ (μ1 : Mem) (k0 k1 : Int32), IM μ1 → Fr [(1, 73, 0)] true μ μ1 → inb k1 6 = true → ok (p_X12_endRun_b52 a k0 k1 μ1) (fun q => IM q ∧ Fr frER true μ q ∧ 0 ≤ (q.1 0 122).toInt ∧ (q.1 0 122).toInt ≤ 40) := by
    intro μ1 k0 k1 hI1 F1 hk
    rw [p_X12_endRun_b52_eq]
    refine ok_gd hk (ok_bv (fun μ7 em7 => ?_))
    have f7 : Fr [(1, 73, 0)] true μ1 μ7 := by rw [em7]; exact Fr.puta Fr.rf (by decide +kernel)
    have hI7 : IM μ7 := by rw [em7]; exact IM_F hI1 (rtma_73 _ _)
    have F7 := F1.trans f7
    refine ok_ite (fun h => ok_gd (bx (by rw [F7.v (by decide +kernel)] at h; exact h)) (b75 μ7 _ 4 hI7 F7 (by decide))) (fun h => b75 μ7 0 4 hI7 F7 (by decide))
  rw [p_X12_endRun_eq]
  refine ok_gd (by decide) (ok_bv (fun μ1 em1 => ok_gd (by decide) (ok_bv (fun μ2 em2 => ok_gd (by decide) (ok_bv (fun μ3 em3 => ?_))))))
  have f1 : Fr [(1, 73, 0)] true μ μ1 := by rw [em1]; exact Fr.puta Fr.rf (by decide +kernel)
  have f2 : Fr [(1, 73, 0)] true μ1 μ2 := by rw [em2]; exact Fr.puta Fr.rf (by decide +kernel)
  have f3 : Fr [(1, 73, 0)] true μ2 μ3 := by rw [em3]; exact Fr.puta Fr.rf (by decide +kernel)
  have hI1 : IM μ1 := by rw [em1]; exact IM_F hI (rtma_73 _ _)
  have hI2 : IM μ2 := by rw [em2]; exact IM_F hI1 (rtma_73 _ _)
  have hI3 : IM μ3 := by rw [em3]; exact IM_F hI2 (rtma_73 _ _)
  have F3 := (f1.trans f2).trans f3
  refine ok_ite (fun h => ok_gd (bx (by rw [F3.v (by decide +kernel)] at h; exact h)) (b52 μ3 _ 3 hI3 F3 (by decide))) (fun h => b52 μ3 0 3 hI3 F3 (by decide))
