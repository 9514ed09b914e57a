theorem rpL_s8 {t : Nat → Int32} {n : Nat} : ∀ {k p : Nat} {L : List Tkn} {p1 : Nat} {L1 : List Tkn}, stc L ≤ 8 → rpL t n 8 k p L = .inr (p1, L1) → stc L1 ≤ 8 := by
  intro k
  induction k with
  | zero => intro p L p1 L1 _ h; exact absurd h (by unfold rpL; simp)
  | succ k ih =>
    intro p L p1 L1 h8 h
    unfold rpL at h
    by_cases c : 30 ≤ L.length
    · rw [if_pos c] at h; cases h
    rw [if_neg c] at h
    by_cases c1 : hr t n p = 91
    · rw [if_pos c1] at h
      cases e : rpL t n 8 k (p + 1) (L ++ [(2, 0)]) with
      | inl f => rw [e] at h; cases h
      | inr v =>
        obtain ⟨p2, L2⟩ := v
        rw [e] at h
        have i1 := ih (by rw [stc_app, stc_one, if_neg (by decide)]; exact h8) e
        dsimp only at h
        by_cases c2 : hr t n p2 = 44
        · rw [if_pos c2] at h
          cases e2 : rpL t n 8 k (p2 + 1) L2 with
          | inl f => rw [e2] at h; cases h
          | inr v =>
            obtain ⟨p3, L3⟩ := v
            rw [e2] at h
            have i2 := ih i1 e2
            dsimp only at h
            by_cases c3 : hr t n p3 = 93
            · rw [if_pos c3] at h; cases h; exact i2
            · rw [if_neg c3] at h; cases h
        · rw [if_neg c2] at h; cases h
    · rw [if_neg c1] at h
      by_cases c2 : hr t n p = 45 ∨ isD (hr t n p) = true
      · rw [if_pos c2] at h
        cases e : rn t n p with
        | inl f => rw [e] at h; cases h
        | inr v =>
          rw [e] at h; cases h
          have hn3 : ¬ (nvl t n p).1 = 3 := nvl_n3 t n p
          rw [stc_app, stc_one, if_neg hn3]; exact h8
      · rw [if_neg c2] at h
        by_cases c3 : hr t n p = 42 ∧ stc L < 8
        · rw [if_pos c3] at h; cases h
          rw [stc_app, stc_one, if_pos rfl]; omega
        · rw [if_neg c3] at h; cases h
def MtoL (t : Nat → Int32) (n : Nat) (μ : Mem) (o : Rd (Nat × List Tkn)) (r : Int32 × Mem) : Prop := Mgt μ r.2 ∧ (match o with | .inl f => r.1 = 0 ∧ Mf t n f r.2 | .inr (j, L) => r.1 = 1 ∧ r.2.1 0 5 = -1 ∧ MpL r.2 L ∧ (r.2.1 0 48).toInt = (j : Int) ∧ r.2.1 0 49 = hr t n 0 - 97 + 1)
theorem mpl_t {L : List Tkn} {μ : Mem} (h : MpL μ L) {k : Nat} (hk : k = 48 ∨ k = 49 ∨ k = 4) (v : Int32) : MpL (sF μ 0 k v) L := h.of (by rw [sF_k (by omega)]) (by rw [sF_k (by omega)]) (fun i => by rw [sF_i (by decide)]) (fun i => by rw [sF_i (by decide)])
theorem Mgt.put {μ : Mem} {k : Nat} (hk : k = 4 ∨ k = 5 ∨ k = 6 ∨ k = 7 ∨ k = 36 ∨ k = 37 ∨ k = 48 ∨ k = 49) (v : Int32) : Mgt μ (sF μ 0 k v) := by
  intro i j h _ _ _
  by_cases e : i = 0
  · subst e
    rw [sF_k (fun e => h ⟨rfl, by rw [e]; exact hk⟩)]
  · rw [sF_i e]
set_option maxHeartbeats 2000000 in
theorem q_MtaskL {t : Nat → Int32} {n : Nat} {μ : Mem} (hs : Ms t n μ) : pk (p_X12_readTask μ) (MtoL t n μ (rtL t n)) := by
  have e0 : (0 : Int32).toInt = 0 := by decide
  have e1 : (1 : Int32).toInt = 1 := by decide
  have e5 : (5 : Int32).toInt = 5 := by decide
  have fin : ∀ (fu : Nat) (q : Mem) (p j : Nat) (L : List Tkn), Mgt μ q → MwT t n p q → MpL q L → (q.1 0 48).toInt = (j : Int) → q.1 0 49 = hr t n 0 - 97 + 1 → pk (p_X12_readTask_b87 fu 0 q) (MtoL t n μ (renL t n (.inr (p, j, L)))) := by
    intro fu q p j L hG hw hP h48 h49
    cases fu with
    | zero => intro r e; rw [p_X12_readTask_b87_z] at e; cases e
    | succ fu =>
      rw [p_X12_readTask_b87_s, if_pos rfl]
      refine pk_bd (q_Mtakes (c := 41) (by decide) hw) ?_
      rintro r21 μ20 ⟨hE, hO⟩
      have hE : Me q μ20 := hE
      have hG20 : Mgt μ μ20 := hG.tr hE.mg.t
      show pk _ (MtoL t n μ (if hr t n p = 41 then (if p + 1 < n then .inl (p + 1) else .inr (j, L)) else .inl p))
      by_cases c : hr t n p = 41
      · rw [if_pos c] at hO ⊢
        have hO : r21 = 1 ∧ MwT t n (p + 1) μ20 := hO
        rw [if_neg (by rw [hO.1]; decide)]
        have hn := hO.2.2.2.2
        refine pk_ite (fun c2 => pk_some ?_) (fun c2 => pk_bd (q_Mfails hO.2) ?_)
        · rw [ti_eq, hO.2.2.2.1, hO.2.1.1] at c2
          rw [if_neg (by omega)]
          exact ⟨hG20, rfl, hO.2.2.1, hP.me hE, by rw [hE 0 48 (by omega)]; exact h48, by rw [hE 0 49 (by omega)]; exact h49⟩
        · rw [ti_eq, hO.2.2.2.1, hO.2.1.1] at c2
          rintro r25 μ24 ⟨x1, x2, x3⟩
          have x1 : r25 = 0 := x1
          have x2 : Me μ20 μ24 := x2
          rw [if_pos x1, if_pos (by omega)]
          exact pk_some ⟨hG20.tr x2.mg.t, rfl, x3⟩
      · rw [if_neg c] at hO ⊢
        have hO : r21 = 0 ∧ Mf t n p μ20 := hO
        rw [if_pos hO.1]
        exact pk_some ⟨hG20, rfl, hO.2⟩
  have b87 : ∀ (fu j : Nat) (q : Mem) (p : Nat) (L : List Tkn), Mgt μ q → (q.1 0 48).toInt = (j : Int) → j ≤ 4 → stc L ≤ 8 → MwT t n p q → MpL q L → q.1 0 49 = hr t n 0 - 97 + 1 → pk (p_X12_readTask_b87 fu 1 q) (MtoL t n μ (renL t n (match rpL t n 8 50 p L with | .inl f => .inl f | .inr (p, L) => rarL t n (4 - j) (j + 1) p L))) := by
    intro fu
    induction fu with
    | zero => intro j q p L _ _ _ _ _ _ _ r e; rw [p_X12_readTask_b87_z] at e; cases e
    | succ fu ih =>
      intro j q p L hG h48 hj h8 hw hP h49
      rw [p_X12_readTask_b87_s, if_neg (by decide)]
      refine pk_bd (q_MreadpartL (a1 := 1) (Or.inr ⟨rfl, rfl⟩) (fun _ => h8) hw hP) ?_
      rintro r28 μ27 ⟨hg, hO⟩
      have hg : Mg q μ27 := hg
      have hG27 : Mgt μ μ27 := hG.tr hg.t
      cases hrp : rpL t n 8 50 p L with
      | inl f =>
        rw [hrp] at hO
        have hO : r28 = 0 ∧ Mf t n f μ27 := hO
        rw [if_pos hO.1]
        exact pk_some ⟨hG27, rfl, hO.2⟩
      | inr v =>
        obtain ⟨p1, L1⟩ := v
        rw [hrp] at hO
        have hO : r28 = 1 ∧ MwT t n p1 μ27 ∧ MpL μ27 L1 := hO
        have h81 := rpL_s8 h8 hrp
        rw [if_neg (by rw [hO.1]; decide)]
        refine pk_bvy (fun μ30 e30 => ?_)
        have hG30 : Mgt μ μ30 := by rw [e30]; exact hG27.tr (Mgt.put (by omega) _)
        have w30 : MwT t n p1 μ30 := by rw [e30]; exact mw_t hO.2.1 (by omega) _
        have p30 : MpL μ30 L1 := by rw [e30]; exact mpl_t hO.2.2 (by omega) _
        have h27 : (μ27.1 0 48).toInt = (j : Int) := by rw [hg 0 48 (by omega) (by decide) (by decide) (by decide)]; exact h48
        have t48 : (μ30.1 0 48).toInt = (j : Int) + 1 := by rw [e30, sF_v, ti_add (by omega) (by omega), e1, h27]
        have t49 : μ30.1 0 49 = hr t n 0 - 97 + 1 := by rw [e30, sF_k (by decide), hg 0 49 (by omega) (by decide) (by decide) (by decide)]; exact h49
        refine pk_bd (q_Mhere w30) ?_
        rintro r32 μ31 ⟨e, hh⟩
        have e : μ31 = μ30 := e
        subst e
        have hh : r32 = hr t n p1 := hh
        rw [hh]
        show pk _ (MtoL t n μ (renL t n (rarL t n (4 - j) (j + 1) p1 L1)))
        have stop : rarL t n (4 - j) (j + 1) p1 L1 = .inr (p1, j + 1, L1) → pk (p_X12_readTask_b132 (p_X12_readTask_b87 fu) μ31) (MtoL t n μ (renL t n (rarL t n (4 - j) (j + 1) p1 L1))) := by
          intro h
          rw [h, p_X12_readTask_b132_eq, p_X12_readTask_b133_eq, if_pos rfl]
          exact fin fu μ31 p1 (j + 1) L1 hG30 w30 p30 (by rw [t48]; omega) t49
        refine pk_ite (fun c => pk_ite (fun c2 => ?_) (fun c2 => ?_)) (fun c => ?_)
        · rw [ti_le, e5, t48] at c2
          exact stop (by rw [show 4 - j = 0 by omega]; rfl)
        · rw [ti_le, e5, t48] at c2
          obtain ⟨d, hd⟩ : ∃ d, 4 - j = d + 1 := ⟨4 - j - 1, by omega⟩
          rw [p_X12_readTask_b133_eq, if_neg (by decide)]
          refine pk_bvy (fun μ35 e35 => ?_)
          have hG35 : Mgt μ μ35 := by rw [e35]; exact hG30.tr (Mgt.put (by omega) _)
          have w35 : MwT t n (p1 + 1) μ35 := by rw [e35]; exact mw_next w30 (hr_lt (by rw [c]; decide))
          have p35 : MpL μ35 L1 := by rw [e35]; exact mpl_t p30 (by omega) _
          have hx := ih (j + 1) μ35 (p1 + 1) L1 hG35 (by rw [e35, sF_k (by decide), t48]; omega) (by omega) h81 w35 p35 (by rw [e35, sF_k (by decide)]; exact t49)
          have er : rarL t n (4 - j) (j + 1) p1 L1 = (match rpL t n 8 50 (p1 + 1) L1 with | .inl f => .inl f | .inr (p, L) => rarL t n (4 - (j + 1)) (j + 1 + 1) p L) := by
            rw [hd, show 4 - (j + 1) = d by omega]
            show (if hr t n p1 = 44 then _ else _) = _
            rw [if_pos c]
            rfl
          rw [er]; exact hx
        · refine stop ?_
          cases h5 : 4 - j with
          | zero => rfl
          | succ d => show (if hr t n p1 = 44 then _ else _) = _; rw [if_neg c]
  rw [p_X12_readTask_eq]
  have hb : pk (p_X12_beginText μ) (fun q => MwT t n 0 q ∧ Mgt μ q) := by
    rw [p_X12_beginText_eq]
    refine pk_bvy (fun μ1 m1 => pk_bvy (fun μ2 m2 => pk_some ⟨?_, by rw [m2, m1]; exact (Mgt.put (by omega) _).tr (Mgt.put (by omega) _)⟩))
    refine ⟨⟨by rw [m2, sF_k (by decide), m1, sF_k (by decide)]; exact hs.1, hs.2.1, fun j hj => by rw [m2, sF_i (by decide), m1, sF_i (by decide)]; exact hs.2.2 j hj⟩, by rw [m2, sF_v], by rw [m2, sF_k (by decide), m1, sF_v]; exact e0, Nat.zero_le _⟩
  refine pk_bw hb (fun μ1 h1 => ?_)
  obtain ⟨h1, hG1⟩ := h1
  refine pk_bvy (fun μ3 m3 => pk_bvy (fun μ4 m4 => pk_bvy (fun μ5 m5 => ?_)))
  have hG5 : Mgt μ μ5 := by rw [m5, m4, m3]; exact ((hG1.tr (Mgt.put (by omega) _)).tr (Mgt.put (by omega) _)).tr (Mgt.put (by omega) _)
  have g5 : ∀ i k, ¬ (i = 0 ∧ (k = 36 ∨ k = 37 ∨ k = 48)) → μ5.1 i k = μ1.1 i k := by
    intro i k h
    by_cases e : i = 0
    · subst e
      rw [m5, sF_k (fun e => h ⟨rfl, by omega⟩), m4, sF_k (fun e => h ⟨rfl, by omega⟩), m3, sF_k (fun e => h ⟨rfl, by omega⟩)]
    · rw [m5, sF_i e, m4, sF_i e, m3, sF_i e]
  have w5 : MwT t n 0 μ5 := mw_all h1 (g5 _ _ (by decide)) (g5 _ _ (by decide)) (g5 _ _ (by decide)) (fun j => g5 _ _ (by omega))
  have p5 : MpL μ5 [] := ⟨by rw [m5, sF_k (by decide), m4, sF_k (by decide), m3, sF_v]; exact e0, by simp, by rw [m5, sF_k (by decide), m4, sF_v]; exact e0, fun i x hx => by cases hx⟩
  have t48 : (μ5.1 0 48).toInt = 0 := by rw [m5, sF_v]; exact e0
  refine pk_bd (q_Mhere w5) ?_
  rintro r7 μ6 ⟨e, hh⟩
  have e : μ6 = μ5 := e
  subst e
  have hh : r7 = hr t n 0 := hh
  show pk _ (MtoL t n μ (if isL (hr t n 0) then _ else .inl 0))
  refine pk_ite (fun c => ?_) (fun c => ?_)
  · rw [isL_M, hh] at c
    rw [if_neg (by rw [c]; decide)]
    exact pk_mono (q_Mfailb w5) (fun r h => ⟨hG5.tr h.1.mg.t, h.2⟩)
  · rw [isL_M, hh] at c
    have c : isL (hr t n 0) = true := by simpa using c
    rw [if_pos c]
    refine pk_bd (q_Mhere w5) ?_
    rintro r10 μ9 ⟨e, hh10⟩
    have e : μ9 = μ6 := e
    subst e
    have hh10 : r10 = hr t n 0 := hh10
    refine pk_bvy (fun μ11 m11 => pk_bvy (fun μ12 m12 => ?_))
    have hG12 : Mgt μ μ12 := by rw [m12, m11]; exact (hG5.tr (Mgt.put (by omega) _)).tr (Mgt.put (by omega) _)
    have w12 : MwT t n 1 μ12 := by rw [m12, m11]; exact mw_next (mw_t w5 (by omega) _) (hr_lt (isL_ne c))
    have p12 : MpL μ12 [] := by rw [m12, m11]; exact mpl_t (mpl_t p5 (by omega) _) (by omega) _
    have t12 : (μ12.1 0 48).toInt = 0 := by rw [m12, sF_k (by decide), m11, sF_k (by decide)]; exact t48
    have t49 : μ12.1 0 49 = hr t n 0 - 97 + 1 := by rw [m12, sF_k (by decide), m11, sF_v, hh10]
    refine pk_bd (q_Mtakes (c := 40) (by decide) w12) ?_
    rintro r14 μ13 ⟨hE13, hO13⟩
    have hE13 : Me μ12 μ13 := hE13
    have hG13 : Mgt μ μ13 := hG12.tr hE13.mg.t
    by_cases c1 : hr t n 1 = 40
    · rw [if_pos c1] at hO13 ⊢
      have hO13 : r14 = 1 ∧ MwT t n 2 μ13 := hO13
      rw [if_neg (by rw [hO13.1]; decide)]
      refine pk_bd (q_Mhere hO13.2) ?_
      rintro r17 μ16 ⟨e, hh⟩
      have e : μ16 = μ13 := e
      subst e
      have hh : r17 = hr t n 2 := hh
      rw [hh]
      have p16 := p12.me hE13
      have t16 : (μ16.1 0 48).toInt = ((0 : Nat) : Int) := by rw [hE13 0 48 (by omega), t12]; rfl
      have t169 : μ16.1 0 49 = hr t n 0 - 97 + 1 := by rw [hE13 0 49 (by omega)]; exact t49
      show pk _ (MtoL t n μ (renL t n (if hr t n 2 = 41 then .inr (2, 0, []) else _)))
      refine pk_ite (fun c2 => ?_) (fun c2 => ?_)
      · rw [if_pos c2, p_X12_readTask_b86_eq]
        exact fin FUEL μ16 2 0 [] hG13 hO13.2 p16 t16 t169
      · rw [if_neg c2, p_X12_readTask_b86_eq]
        exact b87 FUEL 0 μ16 2 [] hG13 t16 (by omega) (by decide) hO13.2 p16 t169
    · rw [if_neg c1] at hO13 ⊢
      have hO13 : r14 = 0 ∧ Mf t n 1 μ13 := hO13
      rw [if_pos hO13.1]
      exact pk_some ⟨hG13, rfl, hO13.2⟩
def MvoL (t : Nat → Int32) (n : Nat) (μ : Mem) (o : Rd (List Tkn)) (r : Int32 × Mem) : Prop := Mgt μ r.2 ∧ (match o with | .inl f => r.1 = 0 ∧ Mf t n f r.2 | .inr L => r.1 = 1 ∧ r.2.1 0 5 = -1 ∧ MpL r.2 L)
theorem q_MvaluesL {t : Nat → Int32} {n m : Nat} {μ : Mem} (hs : Ms t n μ) (hm : (μ.1 0 45).toInt = (m : Int)) (hm8 : m ≤ 30) : pk (p_X12_readValues μ) (MvoL t n μ (rvL t n m)) := by
  have e0 : (0 : Int32).toInt = 0 := by decide
  have e1 : (1 : Int32).toInt = 1 := by decide
  have fin : ∀ (q : Mem) (p : Nat) (L : List Tkn), Mgt μ q → MwT t n p q → MpL q L → pk (if (q.1 0 4) = (q.1 0 3) then some ((1 : Int32), q) else bd (p_X12_fails (q.1 0 4) q) (fun r8 μ7 => (if r8 = 0 then some ((0 : Int32), μ7) else some ((1 : Int32), μ7)))) (MvoL t n μ (rvf n (.inr (p, L)))) := by
    intro q p L hG hw hP
    show pk _ (MvoL t n μ (if p < n then .inl p else .inr L))
    have hn := hw.2.2.2
    refine pk_ite (fun c2 => pk_some ?_) (fun c2 => pk_bd (q_Mfails hw) ?_)
    · rw [ti_eq, hw.2.2.1, hw.1.1] at c2
      rw [if_neg (by omega)]
      exact ⟨hG, rfl, hw.2.1, hP⟩
    · rw [ti_eq, hw.2.2.1, hw.1.1] at c2
      rintro r25 μ24 ⟨x1, x2, x3⟩
      have x1 : r25 = 0 := x1
      have x2 : Me q μ24 := x2
      rw [if_pos x1, if_pos (by omega)]
      exact pk_some ⟨hG.tr x2.mg.t, rfl, x3⟩
  have loop : ∀ (fu i : Nat) (a1 : Int32) (q : Mem) (p : Nat) (L : List Tkn), a1.toInt = (i : Int) → i ≤ m → Mgt μ q → MwT t n p q → MpL q L → pk (p_X12_readValues_b16 fu a1 q) (MvoL t n μ (rvf n (rvs t n (m - i) (decide (i = 0)) (.inr (p, L))))) := by
    intro fu
    induction fu with
    | zero => intro i a1 q p L _ _ _ _ _ r e; rw [p_X12_readValues_b16_z] at e; cases e
    | succ fu ih =>
      intro i a1 q p L h1 hi hG hw hP
      rw [p_X12_readValues_b16_s]
      have h45 : (q.1 0 45).toInt = (m : Int) := by rw [hG 0 45 (by omega) (by decide) (by decide) (by decide)]; exact hm
      refine pk_ite (fun c => ?_) (fun c => ?_)
      · rw [ti_le, h45, h1] at c
        rw [show m - i = 0 by omega]
        exact fin q p L hG hw hP
      rw [ti_le, h45, h1] at c
      obtain ⟨d, hd⟩ : ∃ d, m - i = d + 1 := ⟨m - i - 1, by omega⟩
      rw [hd]
      show pk _ (MvoL t n μ (rvf n (rvs t n d false (if decide (i = 0) = true then rpL t n 0 50 p L else if hr t n p = 44 then rpL t n 0 50 (p + 1) L else .inl p))))
      have part : ∀ (z : Mem) (p2 : Nat), Mgt μ z → MwT t n p2 z → MpL z L → pk (p_X12_readValues_b37 (p_X12_readValues_b16 fu) a1 z) (MvoL t n μ (rvf n (rvs t n d false (rpL t n 0 50 p2 L)))) := by
        intro z p2 hz hwz hPz
        rw [p_X12_readValues_b37_eq]
        refine pk_bd (q_MreadpartL (a1 := 0) (Or.inl ⟨rfl, rfl⟩) (fun h => by cases h) hwz hPz) ?_
        rintro r12 μ11 ⟨hg, hO⟩
        have hg : Mg z μ11 := hg
        have hG11 : Mgt μ μ11 := hz.tr hg.t
        cases hrp : rpL t n 0 50 p2 L with
        | inl f =>
          rw [hrp] at hO
          have hO : r12 = 0 ∧ Mf t n f μ11 := hO
          rw [if_pos hO.1, rvs_l]
          exact pk_some ⟨hG11, rfl, hO.2⟩
        | inr v =>
          obtain ⟨p1, L1⟩ := v
          rw [hrp] at hO
          have hO : r12 = 1 ∧ MwT t n p1 μ11 ∧ MpL μ11 L1 := hO
          rw [if_neg (by rw [hO.1]; decide)]
          refine pk_bvy (fun v14 e14 => ?_)
          have := ih (i + 1) v14 μ11 p1 L1 (by rw [e14, ti_add (by omega) (by omega), e1, h1]; omega) (by omega) hG11 hO.2.1 hO.2.2
          rw [show m - (i + 1) = d by omega, decide_eq_false (show ¬ i + 1 = 0 by omega)] at this
          exact this
      refine pk_ite (fun c0 => ?_) (fun c0 => ?_)
      · rw [ti_le, e0, h1] at c0
        rw [if_pos (decide_eq_true (show i = 0 by omega))]
        exact part q p hG hw hP
      · rw [ti_le, e0, h1] at c0
        rw [if_neg (by rw [decide_eq_false (show ¬ i = 0 by omega)]; decide)]
        refine pk_bd (q_Mtakes (c := 44) (by decide) hw) ?_
        rintro r16 μ15 ⟨hE, hO⟩
        have hE : Me q μ15 := hE
        by_cases c4 : hr t n p = 44
        · rw [if_pos c4] at hO ⊢
          have hO : r16 = 1 ∧ MwT t n (p + 1) μ15 := hO
          rw [if_neg (by rw [hO.1]; decide)]
          exact part μ15 (p + 1) (hG.tr hE.mg.t) hO.2 (hP.me hE)
        · rw [if_neg c4] at hO ⊢
          have hO : r16 = 0 ∧ Mf t n p μ15 := hO
          rw [if_pos hO.1, rvs_l]
          exact pk_some ⟨hG.tr hE.mg.t, rfl, hO.2⟩
  rw [p_X12_readValues_eq]
  have hb : pk (p_X12_beginText μ) (fun q => MwT t n 0 q ∧ Mgt μ q) := by
    rw [p_X12_beginText_eq]
    refine pk_bvy (fun μ1 m1 => pk_bvy (fun μ2 m2 => pk_some ⟨?_, by rw [m2, m1]; exact (Mgt.put (by omega) _).tr (Mgt.put (by omega) _)⟩))
    refine ⟨⟨by rw [m2, sF_k (by decide), m1, sF_k (by decide)]; exact hs.1, hs.2.1, fun j hj => by rw [m2, sF_i (by decide), m1, sF_i (by decide)]; exact hs.2.2 j hj⟩, by rw [m2, sF_v], by rw [m2, sF_k (by decide), m1, sF_v]; exact e0, Nat.zero_le _⟩
  refine pk_bw hb (fun μ1 h1 => ?_)
  obtain ⟨h1, hG1⟩ := h1
  refine pk_bvy (fun μ3 m3 => pk_bvy (fun μ4 m4 => ?_))
  have hG4 : Mgt μ μ4 := by rw [m4, m3]; exact (hG1.tr (Mgt.put (by omega) _)).tr (Mgt.put (by omega) _)
  have g4 : ∀ i k, ¬ (i = 0 ∧ (k = 36 ∨ k = 37)) → μ4.1 i k = μ1.1 i k := by
    intro i k h
    by_cases e : i = 0
    · subst e
      rw [m4, sF_k (fun e => h ⟨rfl, by omega⟩), m3, sF_k (fun e => h ⟨rfl, by omega⟩)]
    · rw [m4, sF_i e, m3, sF_i e]
  have w4 : MwT t n 0 μ4 := mw_all h1 (g4 _ _ (by decide)) (g4 _ _ (by decide)) (g4 _ _ (by decide)) (fun j => g4 _ _ (by omega))
  have p4 : MpL μ4 [] := ⟨by rw [m4, sF_k (by decide), m3, sF_v]; exact e0, by simp, by rw [m4, sF_v]; exact e0, fun i x hx => by cases hx⟩
  exact loop FUEL 0 0 μ4 0 [] e0 (Nat.zero_le _) hG4 w4 p4
