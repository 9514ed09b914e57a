/-! CALLS -/
def frEn : List (Nat × Nat × Nat) := frPu ++ [(0, 0, 67), (1, 41, 0)]
theorem k_enter {t : Bool} {b : Nat} {Vb : Nat → Prop} {ve : Nat} {th wo be bh : Nat → Int} {N : Nat} {μ : Mem} {L : List Act} {cs : List Nat} {R : List Fm} {Zs : List Zc} {V : Nat → Prop} (hM : Mx t b Vb ve μ L cs R Zs V) (hP : PA th wo be bh N μ) (hl : L.length ≤ 5000) (hRl : R.length ≤ 30) {a : Int32} {f : Nat} (ha : a.toInt = (f : Int)) (hf : f < nv μ 17) {l : List Nat} (hl1 : Lst (iv μ 45) 0 l) (hl2 : iv μ 3 f = (l.length : Int)) (hl3 : ∀ x, x ∈ l → Gd μ V x) :
    ok (p_X12_enter a μ) (fun q => Fr frEn true μ q ∧ ∃ (ρ : Evn) (bg n : Nat), Mx t b Vb ve q ((0, bg, 0) :: (5, 0, 0) :: L) cs ((ρ, cs.length) :: R) Zs V ∧ bg + n ≤ N ∧ n ≤ 80 ∧ Fo th wo be (Dm ρ) 1 bg (bg + n)) := by
  obtain ⟨P1, P2, P3, P4, P5, P6, P7⟩ := hP
  obtain ⟨⟨Q1, Q2, Q3, Q4⟩, Q5⟩ := P6
  obtain ⟨cc, n, bg, ln, s1, s2, s3, s4, s5, s6, s7, s8, s9, s10, s11⟩ := Q2 f hf
  rw [P5] at s9
  rw [P1, P2, P3] at s11
  have hn : n = l.length := by omega
  have g17 := rgm_0_17 hM.1.1
  have m17 := ti_nat (a := μ.1 0 17) (by omega)
  have em17 : nv μ 17 = (μ.1 0 17).toNatClampNeg := rfl
  have e0 : (0 : Int32).toInt = 0 := by decide
  have e1 : (1 : Int32).toInt = 1 := by decide
  have e5 : (5 : Int32).toInt = 5 := by decide
  have e14 : (14 : Int32).toInt = 14 := by decide
  have ef : a.toNatClampNeg = f := tn_of ha
  have bf : inb a 73 = true := inb_iff.mpr (by omega)
  rw [p_X12_enter_eq]
  refine ok_bv (fun μ1 em1 => ?_)
  obtain ⟨m1, m2, m3, m4, m5⟩ := hM
  obtain ⟨v1, v2, v3, v4, E1, E2, E3⟩ := m1
  have t67 : (μ.1 0 67 + 14).toInt = (μ.1 0 67).toInt + 14 := by rw [ti_add (by omega) (by omega), e14]
  have f1 : Fr [(0, 0, 67)] true μ μ1 := by rw [em1]; exact Fr.put Fr.rf (by decide +kernel)
  have hI1 : IM μ1 := by rw [em1]; exact IM_F v1 (rtm_0_67 _)
  have G1 := f1.gr (by decide +kernel)
  have hE1 : EV μ1 ((fun _ => none, cs.length) :: R) := by
    refine ⟨by rw [em1, sF_v, t67]; simp only [List.length_cons]; omega, by simp only [List.length_cons]; omega, fun u x hu => absurd hu (by simp), ?_⟩
    rw [f1.fe (by decide)]; exact E3
  have hM1 : Mx t b Vb ve μ1 L cs ((fun _ => none, cs.length) :: R) Zs V := by
    refine ⟨⟨hI1, v2.fr f1 (by decide +kernel), v3.fr f1 (by decide +kernel), v4.fr f1 (by decide +kernel), hE1⟩, ⟨fun x hx => (m2.1 x hx).gr G1, fun e he u x hu => ?_⟩, by rw [f1.v (by decide +kernel)]; exact m3, fun ht => ⟨by rw [f1.v (by decide +kernel)]; exact (m4 ht).1, (m4 ht).2.fr f1 (by decide +kernel)⟩, fun ht => ⟨by rw [f1.v (by decide +kernel)]; exact (m5 ht).1, (m5 ht).2⟩⟩
    rcases List.mem_cons.mp he with e1 | e1
    · rw [e1] at hu; exact absurd hu (by simp)
    · exact (m2.2 e e1 u x hu).gr G1
  have loop : ∀ (m k : Nat) (a2 : Int32) (ρ : Evn) (μ2 : Mem), a2.toInt = (k : Int) → k ≤ n → n < m + k → Fr [(0, 0, 67), (1, 41, 0)] true μ μ2 → Mx t b Vb ve μ2 L cs ((ρ, cs.length) :: R) Zs V → (∀ i, i < k → ∀ u : Nat, iv μ 4 (5 * f + i) = (u : Int) → Dm ρ u) → ok (p_X12_enter_b13 m a a2 μ2) (fun q => Fr frEn true μ q ∧ ∃ (ρ : Evn) (bg n : Nat), Mx t b Vb ve q ((0, bg, 0) :: (5, 0, 0) :: L) cs ((ρ, cs.length) :: R) Zs V ∧ bg + n ≤ N ∧ n ≤ 80 ∧ Fo th wo be (Dm ρ) 1 bg (bg + n)) := by
    intro m
    induction m with
    | zero => intro k a2 ρ μ2 _ h1 h2; omega
    | succ m ih =>
      intro k a2 ρ μ2 hk hkn hm F2 hM2 hD
      rw [p_X12_enter_b13_s, ef]
      have x3 : (μ2.1 3 f).toInt = (n : Int) := by
        have := F2.a (c := 3) (by decide) f
        show iv μ2 3 f = _
        rw [this, s4]
      refine ok_gd bf (ok_ite (fun hle => ?_) (fun hle => ?_))
      · rw [ti_le] at hle
        have hkk : k = n := by omega
        refine ok_bw (hM2.push (by omega) (w := 5) (a := 0) (c := 0) e5 e0 e0) ?_
        rintro μ3 ⟨f3, hM3⟩
        have x5 : (μ3.1 5 f).toInt = (bg : Int) := by
          have h1 := f3.a (c := 5) (by decide) f
          have h2 := F2.a (c := 5) (by decide) f
          show iv μ3 5 f = _
          rw [h1, h2, s6]
        refine ok_gd bf (ok_bw (hM3.push (by simp; omega) (w := 0) (a := bg) (c := 0) e0 x5 e0) ?_)
        rintro μ5 ⟨f5, hM5⟩
        refine ok_some ⟨(Fr.mono F2 (by decide +kernel) (fun h => h)).trans ((Fr.mono f3 (by decide +kernel) (fun h => h)).trans (Fr.mono f5 (by decide +kernel) (fun h => h))), ρ, bg, ln, hM5, s9, s8, s11.mono _ ?_⟩
        rintro u ⟨i, hi, hu⟩
        exact hD i (by omega) u hu
      · rw [ti_le] at hle
        have t5 : ((5 : Int32) * a).toInt = 5 * (f : Int) := by rw [ti_mul (by rw [e5, ha]; omega) (by rw [e5, ha]; omega), e5, ha]
        have t5k : ((5 : Int32) * a + a2).toInt = 5 * (f : Int) + k := by rw [ti_add (by omega) (by omega), t5, hk]
        have n5k : ((5 : Int32) * a + a2).toNatClampNeg = 5 * f + k := tn_of (by omega)
        rw [n5k]
        have nk : a2.toNatClampNeg = k := tn_of hk
        have hv := s10 k (by omega)
        obtain ⟨v, hvv⟩ : ∃ v : Nat, iv μ 4 (5 * f + k) = (v : Int) := ⟨(iv μ 4 (5 * f + k)).toNat, by omega⟩
        have hv14 : v < 14 := by omega
        have x4 : (μ2.1 4 (5 * f + k)).toInt = (v : Int) := by
          have := F2.a (c := 4) (by decide) (5 * f + k)
          show iv μ2 4 (5 * f + k) = _
          rw [this, hvv]
        obtain ⟨b1, b2⟩ := base_ix hM2.1.2.2.2.2 x4 hv14
        rw [b1, nk]
        obtain ⟨x, hx, hxe⟩ := hl1.get k (by omega)
        rw [Nat.zero_add] at hxe
        have x45 : (μ2.1 45 k).toInt = (x : Int) := by
          have := F2.a (c := 45) (by decide) k
          show iv μ2 45 k = _
          rw [this, hxe]
        refine ok_gd (inb_iff.mpr (by omega)) (ok_gd (inb_iff.mpr (by omega)) (ok_gd b2 (ok_bv (fun μ7 em7 => ok_bv (fun v8 ev8 => ?_)))))
        have f7 : Fr [(1, 41, 0)] true μ2 μ7 := by rw [em7]; exact Fr.puta Fr.rf (by decide +kernel)
        have hI7 : IM μ7 := by rw [em7]; exact IM_F hM2.1.1 (rtma_41 _ _)
        have G7 := f7.gr (by decide +kernel)
        have G02 := F2.gr (by decide +kernel)
        obtain ⟨w1, w2, w3, w4, w5⟩ := hM2
        obtain ⟨z1, z2, z3, z4, z5⟩ := w1
        have hE7 : EV μ7 ((ud ρ v (some x), cs.length) :: R) := by rw [em7]; exact ev_set z5 hv14 (Or.inr ⟨x, rfl, x45⟩)
        refine ih (k + 1) v8 (ud ρ v (some x)) μ7 (by rw [ev8, ti_add (by omega) (by omega), e1, hk]; omega) (by omega) (by omega) (F2.trans (Fr.mono f7 (by decide +kernel) (fun h => h))) ⟨⟨hI7, z2.fr f7 (by decide +kernel), z3.fr f7 (by decide +kernel), z4.fr f7 (by decide +kernel), hE7⟩, ⟨fun y hy => (w2.1 y hy).gr G7, fun e he u y hu => ?_⟩, by rw [f7.v (by decide +kernel)]; exact w3, fun ht => ⟨by rw [f7.v (by decide +kernel)]; exact (w4 ht).1, (w4 ht).2.fr f7 (by decide +kernel)⟩, fun ht => ⟨by rw [f7.v (by decide +kernel)]; exact (w5 ht).1, (w5 ht).2⟩⟩ (fun i hi u hu => ?_)
        · rcases List.mem_cons.mp he with e1 | e1
          · rw [e1] at hu
            have hu : ud ρ v (some x) u = some y := hu
            unfold ud at hu
            by_cases e2 : u = v
            · have : x = y := by simpa [e2] using hu
              rw [← this]; exact ((hl3 x hx).gr G02).gr G7
            · have hu : ρ u = some y := by simpa [e2] using hu
              exact (w2.2 (ρ, cs.length) (by simp) u y hu).gr G7
          · exact (w2.2 e (by simp [e1]) u y hu).gr G7
        · by_cases e2 : u = v
          · exact ⟨x, by unfold ud; rw [if_pos e2]⟩
          · by_cases e3 : i = k
            · rw [e3, hvv] at hu; omega
            · obtain ⟨y, hy⟩ := hD i (by omega) u hu
              exact ⟨y, by unfold ud; rw [if_neg e2]; exact hy⟩
  exact loop FUEL 0 0 _ μ1 e0 (by omega) (by show _ < 10000000000 + _; omega) (Fr.mono f1 (by decide +kernel) (fun h => h)) hM1 (fun i hi => absurd hi (by omega))
theorem q_functionOf (c m : Int32) (μ : Mem) (hI : IM μ) : pk (p_X12_functionOf c m μ) (fun r => r.2 = μ ∧ (r.1 = -1 ∨ ∃ f : Nat, r.1.toInt = (f : Int) ∧ f < nv μ 17 ∧ μ.1 3 f = m)) := by
  have g17 := rgm_0_17 hI
  have m17 := ti_nat (a := μ.1 0 17) (by omega)
  have em17 : nv μ 17 = (μ.1 0 17).toNatClampNeg := rfl
  have e1 : (1 : Int32).toInt = 1 := by decide
  rw [p_X12_functionOf_eq]
  have loop : ∀ (n : Nat) (a3 : Int32) (i : Nat), a3.toInt = (i : Int) → pk (p_X12_functionOf_b2 n c m a3 μ) (fun r => r.2 = μ ∧ (r.1 = -1 ∨ ∃ f : Nat, r.1.toInt = (f : Int) ∧ f < nv μ 17 ∧ μ.1 3 f = m)) := by
    intro n
    induction n with
    | zero => intro a3 i _ r e; rw [p_X12_functionOf_b2_z] at e; exact absurd e (by simp)
    | succ n ih =>
      intro a3 i hi
      rw [p_X12_functionOf_b2_s, tn_of hi]
      have nx : i < 73 → pk (p_X12_functionOf_b32 (p_X12_functionOf_b2 n) c m a3 μ) (fun r => r.2 = μ ∧ (r.1 = -1 ∨ ∃ f : Nat, r.1.toInt = (f : Int) ∧ f < nv μ 17 ∧ μ.1 3 f = m)) := by
        intro h
        rw [p_X12_functionOf_b32_eq]
        exact pk_bv (ih _ (i + 1) (by rw [ti_add (by omega) (by omega), e1, hi]; omega))
      refine pk_ite (fun _ => pk_some ⟨rfl, Or.inl rfl⟩) (fun hle => pk_gd fun hb => pk_ite (fun _ => pk_gd fun _ => pk_ite (fun h => pk_some ⟨rfl, Or.inr ⟨i, hi, ?_, h⟩⟩) (fun _ => nx ?_)) (fun _ => nx ?_))
      · rw [ti_le] at hle; omega
      · have := inb_iff.mp hb; omega
      · have := inb_iff.mp hb; omega
  exact loop _ _ 0 (by decide)
/-- a call begins: a step -/
theorem sx_enter {t : Bool} {b : Nat} {Vb : Nat → Prop} {ve : Nat} {th wo be bh : Nat → Int} {N : Nat} {μ μ1 : Mem} {p : Nat} {c : Int} {L : List Act} {cs cs2 : List Nat} {R : List Fm} {V : Nat → Prop} {T : Nat} (h : Jx t b Vb ve th wo be bh N μ (1, p, c) L cs R [] V T) (hcs : cs2.length ≤ cs.length) (hO : ∀ x, Ok th wo be N μ L R (x :: cs2) [] V)
    {F : List (Nat × Nat × Nat)} (F1 : Fr F true μ μ1) (hf : Fr (fg t) true μ μ1) (np : nP F = true) (hM : Mx t b Vb ve μ1 L cs2 R [] V) (G1 : Gr μ μ1) (e56 : nv μ1 56 = nv μ 56) (e89 : nv μ1 89 = nv μ 89) (e73 : μ1.1 0 73 = μ.1 0 73) (hcl : cl t μ1 + 1 = cl t μ) (hRl : R.length ≤ 30) (hD : ∀ (q : Mem) (f : Fm), Fr frEn true μ1 q → Dp t q (f :: R)) {a : Int32} {f : Nat} (ha : a.toInt = (f : Int)) (hfn : f < nv μ1 17) {l : List Nat} (hl1 : Lst (iv μ1 45) 0 l) (hl2 : iv μ1 3 f = (l.length : Int)) (hl3 : ∀ x, x ∈ l → Gd μ1 V x) {k : Mem → Option Mem} (hk : ∀ q, k q = some q) : ok (bw (p_X12_enter a μ1) k) (Sx t b Vb ve th wo be bh N μ T) := by
  obtain ⟨rl, hRm, r31⟩ := h.room
  obtain ⟨h1, h2, h3, h4, h5, h6, h7, h8, h9, h10⟩ := h
  obtain ⟨hBq, hN⟩ := h4.bq
  have hP1 := h4.fr F1 np
  refine ok_bw (k_enter hM hP1 (by omega) hRl ha hfn hl1 hl2 hl3) ?_
  rintro q ⟨fq, ρ, bg, n, m1, m2, m3, m4⟩
  rw [hk]
  have Gq := fq.gr (by decide +kernel)
  have l1 := m4.le
  have hbb : bh bg = ((bg + n : Nat) : Int) := hBq.at m4.sh m2
  have hsz : sz bh bg = n := by unfold sz; rw [hbb]; omega
  have hS : Sp4 bh ((1, p, c) :: L) = 1 + Sp4 bh L := by show stp bh _ + _ = _; simp [stp]
  have hSn : Sp4 bh ((0, bg, 0) :: (5, 0, 0) :: L) = 4 * n + (1 + Sp4 bh L) := by simp [Sp4, stp, hsz]
  have ecl : cl t q = cl t μ1 := cl_fr fq (by decide +kernel)
  have hne : R ≠ [] := by
    cases R with
    | nil => exact h2.elim
    | cons f R => simp
  have hOk : Ok th wo be N q ((0, bg, 0) :: (5, 0, 0) :: L) ((ρ, cs2.length) :: R) cs2 [] V := by
    refine ⟨Nat.le_refl _, Or.inl ⟨rfl, bg + n, m2, m4, fun z => ⟨by simp, Or.inr (Or.inr (Or.inr (Or.inr (Or.inr (Or.inl ⟨rfl, rfl, hne, by simp, Ok.gr (G1.tr Gq) _ _ _ _ _ (hO z)⟩)))))⟩⟩⟩
  have hBd : Bd bh ((0, bg, 0) :: (5, 0, 0) :: L) 0 ((ρ, cs2.length) :: R) cs2.length := by
    show (if (0, bg, (0 : Int)).1 = 5 then _ else Bd bh ((5, 0, 0) :: L) (0 + pot bh (0, bg, 0)) ((ρ, cs2.length) :: R) cs2.length)
    rw [if_neg (by simp)]
    show (if (5, 0, (0 : Int)).1 = 5 then (0 + pot bh (0, bg, 0)) + cs2.length ≤ 81 + cs2.length ∧ Bd bh L 1 R cs2.length else _)
    rw [if_pos rfl]
    have hp : pot bh (0, bg, 0) = n := by simp [pot, hsz]
    refine ⟨by omega, ?_⟩
    cases R with
    | nil => exact absurd rfl hne
    | cons g R =>
      have := h3.head (by simp)
      have hp1 : pot bh (1, p, c) = 1 := by simp [pot]
      rw [hp1] at this
      exact this.mono (by omega)
  refine ok_some ⟨m1.1.1, hf.trans (fg_mono fq (by decide +kernel) t), Or.inr ⟨_, cs2, _, [], V, Sp4 bh ((0, bg, 0) :: (5, 0, 0) :: L) + 330 * cl t q, ⟨m1, hOk, hBd, hP1.fr fq (by decide +kernel), hD q _ fq, rfl, ?_, ?_, ?_⟩, ?_⟩⟩
  · rw [(fq.heq (by decide +kernel)).1, fq.n (by decide +kernel), hSn, ecl]; omega
  · rw [fq.v (by decide +kernel), e73]; exact h8
  · rw [fq.v (by decide +kernel), e73, hSn, ecl]; omega
  · rw [hSn, ecl]; omega
