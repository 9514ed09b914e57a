def Mq (t : Nat → Int32) (n : Nat) (μ : Mem) (o : Rd (Nat × Nat × Nat)) (r : Int32 × Mem) : Prop := Mg μ r.2 ∧ (match o with | .inl f => r.1 = 0 ∧ Mf t n f r.2 | .inr (p, m, s) => r.1 = 1 ∧ MwT t n p r.2 ∧ Mp r.2 m s)
theorem q_Mbegins {t : Nat → Int32} {n p : Nat} {μ : Mem} (h : MwT t n p μ) : pk (p_X12_beginsNumber μ) (fun r => r.2 = μ ∧ (r.1 = 0 ↔ ¬ (hr t n p = 45 ∨ isD (hr t n p) = true))) := by
  rw [p_X12_beginsNumber_eq]
  refine pk_bd (q_Mhere h) ?_
  rintro r2 μ1 ⟨e, hh⟩
  have e : μ1 = μ := e
  subst e
  have hh : r2 = hr t n p := hh
  refine pk_ite (fun c => ?_) (fun c => pk_some ⟨rfl, ?_⟩)
  · rw [isD_M, hh] at c
    refine pk_bd (q_Mhere h) ?_
    rintro r5 μ4 ⟨e, hh5⟩
    have e : μ4 = μ1 := e
    subst e
    have hh5 : r5 = hr t n p := hh5
    refine pk_ite (fun c2 => pk_some ⟨rfl, ?_⟩) (fun c2 => pk_some ⟨rfl, ?_⟩)
    · rw [hh5] at c2
      exact ⟨fun e => absurd (show (1 : Int32) = 0 from e) (by decide), fun e => absurd (Or.inl c2) e⟩
    · rw [hh5] at c2
      exact ⟨fun _ e => e.elim c2 (fun e => by rw [c] at e; exact absurd e (by decide)), fun _ => rfl⟩
  · rw [isD_M, hh] at c
    have c : isD (hr t n p) = true := by simpa using c
    exact ⟨fun e => absurd (show (1 : Int32) = 0 from e) (by decide), fun e => absurd (Or.inr c) e⟩
set_option maxHeartbeats 2000000 in
theorem q_Mpart {t : Nat → Int32} {n sl : Nat} {a1 : Int32} (ha : (a1 = 0 ∧ sl = 0) ∨ (a1 = 1 ∧ sl = 8)) {μ0 : Mem} {o : Rd (Nat × Nat × Nat)} : ∀ (fu : Nat) (K : List Nat) (p m s : Nat) (a2 : Int32) (μ : Mem), a2.toInt = (K.length : Int) → K.length ≤ m → (sl = 8 → s ≤ 8) → Mg μ0 μ → MwT t n p μ → Mp μ m s → ClT μ K → o = ct t n sl K (rp t n sl 50 p m s) → pk (p_X12_readPart_b4 fu a1 a2 1 μ) (Mq t n μ0 o) := by
  have e0 : (0 : Int32).toInt = 0 := by decide
  have e1 : (1 : Int32).toInt = 1 := by decide
  have e8 : (8 : Int32).toInt = 8 := by decide
  have e30 : (30 : Int32).toInt = 30 := by decide
  have stop : ∀ (fu : Nat) (a2 : Int32) (μ : Mem), Mg μ0 μ → ((∃ f, Mf t n f μ ∧ o = .inl f) ∨ (∃ p m s, MwT t n p μ ∧ Mp μ m s ∧ o = .inr (p, m, s))) → pk (p_X12_readPart_b4 fu a1 a2 0 μ) (Mq t n μ0 o) := by
    intro fu a2 μ hg h
    cases fu with
    | zero => intro r e; rw [p_X12_readPart_b4_z] at e; cases e
    | succ fu =>
      rw [p_X12_readPart_b4_s, if_pos rfl]
      rcases h with ⟨f, h1, h2⟩ | ⟨p, m, s, h1, h2, h3⟩
      · rw [if_neg (mf_bad h1), h2]
        exact pk_some ⟨hg, rfl, h1⟩
      · rw [if_pos h1.2.1, h3]
        exact pk_some ⟨hg, rfl, h1, h2⟩
  intro fu
  induction fu with
  | zero => intro K p m s a2 μ _ _ _ _ _ _ _ _ r e; rw [p_X12_readPart_b4_z] at e; cases e
  | succ fu ih =>
    intro K p m s a2 μ h2 hK h8 hg hw hP hC ho
    have hm30 := hP.2.1
    have b177 : ∀ (q : Mem) (p1 m1 s1 : Nat), Mg μ0 q → MwT t n p1 q → Mp q m1 s1 → ClT q K → K.length ≤ m1 → (sl = 8 → s1 ≤ 8) → o = ct t n sl K (.inr (p1, m1, s1)) → pk (p_X12_readPart_b177 (p_X12_readPart_b4 fu) a1 a2 q) (Mq t n μ0 o) := by
      intro q p1 m1 s1 hgq hwq hPq hCq hKq h8q hoq
      rw [p_X12_readPart_b177_eq, p_X12_closeAll_eq]
      refine pk_bd (q_Mclose (sl := sl) FUEL K p1 a2 q h2 hKq hwq hPq hCq) ?_
      rintro r20 μ19 ⟨hg19, hc⟩
      have hg19 : Mg q μ19 := hg19
      have b199 : ((∃ f, Mf t n f μ19 ∧ o = .inl f) ∨ (∃ p m s, MwT t n p μ19 ∧ Mp μ19 m s ∧ o = .inr (p, m, s))) → pk (p_X12_readPart_b199 (p_X12_readPart_b4 fu) a1 r20 μ19) (Mq t n μ0 o) := by
        intro h
        rw [p_X12_readPart_b199_eq, p_X12_readPart_b200_eq]
        exact stop fu r20 μ19 (hgq.tr hg19) h
      rcases hc with ⟨f, f1, f2⟩ | ⟨p2, f1, f2, f3, f4⟩ | ⟨p2, K2, f1, f2, f3, f4, f5, f6⟩
      · have f1 : Mf t n f μ19 := f1
        have hx : o = .inl f := by rw [hoq, f2]
        exact pk_ite (fun _ => b199 (Or.inl ⟨f, f1, hx⟩)) (fun _ => pk_ite (fun c => absurd c (mf_bad f1)) (fun _ => b199 (Or.inl ⟨f, f1, hx⟩)))
      · have f1 : r20.toInt = 0 := f1
        rw [if_pos (by rw [ti_le, e0, f1]; omega)]
        exact b199 (Or.inr ⟨p2, m1, s1, f2, f3, by rw [hoq, f4]⟩)
      · have f1 : r20.toInt = ((K2.length + 1 : Nat) : Int) := f1
        have f3 : MwT t n p2 μ19 := f3
        rw [if_neg (by rw [ti_le, e0, f1]; omega), if_pos f3.2.1, p_X12_readPart_b200_eq]
        exact ih (1 :: K2) p2 m1 s1 r20 μ19 (by rw [f1]; rfl) f2 h8q (hgq.tr hg19) f3 f4 f5 (by rw [hoq, f6])
    have hfail : rp t n sl 50 p m s = .inl p → pk (bd (p_X12_fails (μ.1 0 4) μ) (fun r9 μ8 => gd (isB r9) (some (r9, μ8)))) (Mq t n μ0 o) := by
      intro h
      rw [h, ct_l] at ho
      rw [ho]
      exact pk_mono (q_Mfailb hw) (fun r hr2 => ⟨hg.tr hr2.1.mg, hr2.2⟩)
    have hrp : rp t n sl 50 p m s = (if 30 ≤ m then .inl p
      else if hr t n p = 91 then
        (match rp t n sl 49 (p + 1) (m + 1) s with
        | .inl f => .inl f
        | .inr (p1, m1, s1) => if hr t n p1 = 44 then
            match rp t n sl 49 (p1 + 1) m1 s1 with
            | .inl f => .inl f
            | .inr (p2, m2, s2) => if hr t n p2 = 93 then .inr (p2 + 1, m2, s2) else .inl p2
          else .inl p1)
      else if hr t n p = 45 ∨ isD (hr t n p) = true then
        (match rn t n p with
        | .inl f => .inl f
        | .inr q => .inr (q, m + 1, s))
      else if hr t n p = 42 ∧ s < sl then .inr (p + 1, m + 1, s + 1)
      else .inl p) := by
      rw [show (50 : Nat) = 49 + 1 from rfl]
      unfold rp
      rfl
    have full : m = 30 → pk (bd (p_X12_fails (μ.1 0 4) μ) (fun r9 μ8 => gd (isB r9) (some (r9, μ8)))) (Mq t n μ0 o) := fun h => hfail (by rw [hrp, if_pos (by omega)])
    have is30 : (μ.1 0 36 = 30) ↔ m = 30 := by rw [ti_eq, hP.1, e30]; omega
    rw [p_X12_readPart_b4_s, if_neg (by decide)]
    refine pk_bd (q_Mhere hw) ?_
    rintro r4 μ3 ⟨e, hh⟩
    have e : μ3 = μ := e
    subst e
    have hh : r4 = hr t n p := hh
    have b51 : ∀ k0 : Int32, k0 = 0 → (hr t n p = 91 ∨ (hr t n p ≠ 91 ∧ (hr t n p = 45 ∨ isD (hr t n p) = true))) → pk (p_X12_readPart_b51 (p_X12_readPart_b4 fu) a1 a2 1 r4 k0 μ3) (Mq t n μ0 o) := by
      intro k0 hk hc
      rw [p_X12_readPart_b51_eq]
      refine pk_ite (fun c => full (is30.mp c)) (fun c => ?_)
      have hm : ¬ m = 30 := fun h => c (is30.mpr h)
      rw [if_pos hk, p_X12_readPart_b83_eq, hh]
      rcases hc with hc | ⟨hc, hc2⟩
      · rw [if_pos hc]
        refine pk_bvy (fun μ27 e27 => ?_)
        have hE27 : Me μ3 μ27 := by rw [e27]; exact Me.put (by omega) _
        have hw27 : MwT t n (p + 1) μ27 := by rw [e27]; exact mw_next hw (hr_lt (by rw [hc]; decide))
        refine pk_bw (q_Mlay (K := K) 2 0 hw27 (hP.me hE27) (by omega) (hC.me hE27)) ?_
        rintro μ28 ⟨g28, w28, p28, c28⟩
        refine pk_gd (fun _ => pk_bvy (fun μ30 e30' => pk_bvy (fun v31 e31 => ?_)))
        rw [tn_of h2] at e30'
        have g30 : ∀ i k, i ≠ 24 → μ30.1 i k = μ28.1 i k := fun i k hi => by rw [e30', sF_i hi]
        have w30 : MwT t n (p + 1) μ30 := ⟨⟨by rw [g30 _ _ (by decide)]; exact w28.1.1, w28.1.2.1, fun j hj => by rw [g30 _ _ (by decide)]; exact w28.1.2.2 j hj⟩, by rw [g30 _ _ (by decide)]; exact w28.2.1, by rw [g30 _ _ (by decide)]; exact w28.2.2.1, w28.2.2.2⟩
        refine ih (0 :: K) (p + 1) (m + 1) s v31 μ30 (by rw [e31, ti_add (by omega) (by omega), e1, h2]; rfl) (by simp only [List.length_cons]; omega) h8 ((hg.tr hE27.mg).tr (g28.tr (fun i k _ _ _ h24 => g30 i k h24))) w30 ⟨by rw [g30 _ _ (by decide)]; exact p28.1, p28.2.1, by rw [g30 _ _ (by decide)]; exact p28.2.2.1, p28.2.2.2⟩ ⟨Or.inl rfl, by rw [e30', sF_v]; exact e0, c28.cong (fun j hj => by rw [e30', sF_k (by omega)])⟩ ?_
        rw [ho, ct_open (by omega) hc]
      · rw [if_neg hc, if_pos hk]
        refine pk_bd (q_Mnumber hw) ?_
        rintro r15 μ14 ⟨hE14, hO14⟩
        have hE14 : Me μ3 μ14 := hE14
        cases hrn : rn t n p with
        | inl f =>
          rw [hrn] at hO14
          have hO14 : r15 = 0 ∧ Mf t n f μ14 := hO14
          rw [if_pos hO14.1]
          have hx : rp t n sl 50 p m s = .inl f := by rw [hrp, if_neg (by omega), if_neg hc, if_pos hc2, hrn]
          rw [hx, ct_l] at ho
          rw [ho]
          exact pk_some ⟨hg.tr hE14.mg, rfl, hO14.2⟩
        | inr q =>
          rw [hrn] at hO14
          have hO14 : r15 = 1 ∧ MwT t n q μ14 := hO14
          rw [if_neg (by rw [hO14.1]; decide)]
          refine pk_bw (q_Mlay (K := K) _ _ hO14.2 (hP.me hE14) (by omega) (hC.me hE14)) ?_
          rintro μ17 ⟨g17, w17, p17, c17⟩
          refine b177 μ17 q (m + 1) s ((hg.tr hE14.mg).tr g17) w17 p17 c17 (by omega) h8 ?_
          rw [ho, hrp, if_neg (by omega), if_neg hc, if_pos hc2, hrn]
    have b29 : (hr t n p ≠ 42 ∨ a1 = 0) → pk (p_X12_readPart_b29 (p_X12_readPart_b4 fu) a1 a2 1 r4 μ3) (Mq t n μ0 o) := by
      intro hns
      rw [p_X12_readPart_b29_eq, p_X12_readPart_b30_eq, if_pos rfl, hh]
      refine pk_ite (fun c => ?_) (fun c => ?_)
      · rw [← hh]; exact b51 0 rfl (Or.inl c)
      · refine pk_bd (q_Mbegins hw) ?_
        rintro r38 μ37 ⟨e, hb⟩
        have e : μ37 = μ3 := e
        subst e
        have hb : r38 = 0 ↔ ¬ (hr t n p = 45 ∨ isD (hr t n p) = true) := hb
        refine pk_ite (fun c2 => ?_) (fun c2 => ?_)
        · have c2 := hb.mp c2
          refine hfail ?_
          rw [hrp]
          by_cases c3 : 30 ≤ m
          · rw [if_pos c3]
          · rw [if_neg c3, if_neg c, if_neg c2, if_neg ?_]
            rintro ⟨x1, x2⟩
            rcases hns with hns | hns
            · exact hns x1
            · rcases ha with ⟨_, y⟩ | ⟨y, _⟩
              · omega
              · rw [hns] at y; exact absurd y (by decide)
        · have c2 : hr t n p = 45 ∨ isD (hr t n p) = true := Classical.byContradiction (fun h => c2 (hb.mpr h))
          rw [← hh]; exact b51 0 rfl (Or.inr ⟨c, c2⟩)
    refine pk_ite (fun c => pk_ite (fun c2 => b29 (Or.inr c2)) (fun c2 => ?_)) (fun c => b29 (Or.inl (by rw [← hh]; exact c)))
    rw [hh] at c
    have hsl : sl = 8 := by
      rcases ha with ⟨x, _⟩ | ⟨_, y⟩
      · exact absurd x c2
      · exact y
    have h8' := h8 hsl
    rw [p_X12_readPart_b30_eq, if_neg (by decide), p_X12_readPart_b51_eq]
    refine pk_ite (fun c3 => full (is30.mp c3)) (fun c3 => ?_)
    have hm : ¬ m = 30 := fun h => c3 (is30.mpr h)
    rw [if_neg (by decide)]
    have hn91 : ¬ hr t n p = 91 := by rw [c]; decide
    have hnum : ¬ (hr t n p = 45 ∨ isD (hr t n p) = true) := by rw [c]; decide
    refine pk_ite (fun c4 => hfail ?_) (fun c4 => ?_)
    · rw [ti_eq, hP.2.2.1, e8] at c4
      rw [hrp, if_neg (by omega), if_neg hn91, if_neg hnum, if_neg (by omega)]
    · rw [ti_eq, hP.2.2.1, e8] at c4
      rw [p_X12_readPart_b83_eq, hh, if_neg hn91, if_neg (by decide)]
      refine pk_bvy (fun μ23 e23 => pk_bvy (fun μ24 e24 => ?_))
      have hE23 : Me μ3 μ23 := by rw [e23]; exact Me.put (by omega) _
      have hw23 : MwT t n (p + 1) μ23 := by rw [e23]; exact mw_next hw (hr_lt (by rw [c]; decide))
      have g24 : ∀ i k, ¬ (i = 0 ∧ k = 37) → μ24.1 i k = μ23.1 i k := by
        intro i k h
        by_cases e : i = 0
        · subst e; rw [e24, sF_k (fun e => h ⟨rfl, e⟩)]
        · rw [e24, sF_i e]
      have hP23 := hP.me hE23
      have hw24 : MwT t n (p + 1) μ24 := ⟨⟨by rw [g24 _ _ (by decide)]; exact hw23.1.1, hw23.1.2.1, fun j hj => by rw [g24 _ _ (by omega)]; exact hw23.1.2.2 j hj⟩, by rw [g24 _ _ (by decide)]; exact hw23.2.1, by rw [g24 _ _ (by decide)]; exact hw23.2.2.1, hw23.2.2.2⟩
      have t37 : (μ24.1 0 37).toInt = (s : Int) + 1 := by rw [e24, sF_v, ti_add (by have := hP23.2.2.1; omega) (by have := hP23.2.2.1; omega), e1, hP23.2.2.1]
      have lay : pk (p_X12_layRead 3 0 μ24) (fun q => Mg μ24 q ∧ MwT t n (p + 1) q ∧ Mp q (m + 1) (s + 1) ∧ ClT q K) := by
        rw [p_X12_layRead_eq]
        refine pk_gd (fun _ => pk_bvy (fun μ1 m1 => pk_gd (fun _ => pk_bvy (fun μ2 m2 => pk_bvy (fun μ3 m3 => pk_some ?_)))))
        have g : ∀ i k, i ≠ 22 → i ≠ 23 → ¬ (i = 0 ∧ k = 36) → μ3.1 i k = μ24.1 i k := by
          intro i k h1 h2 h3
          by_cases e : i = 0
          · subst e
            rw [m3, sF_k (fun e => h3 ⟨rfl, e⟩), m2, sF_i h2, m1, sF_i h1]
          · rw [m3, sF_i e, m2, sF_i h2, m1, sF_i h1]
        have p36 : (μ24.1 0 36).toInt = (m : Int) := by rw [g24 _ _ (by decide)]; exact hP23.1
        have t36 : (μ3.1 0 36).toInt = (m : Int) + 1 := by
          rw [m3, sF_v, m2, sF_i (by decide), m1, sF_i (by decide), ti_add (by omega) (by omega), e1, p36]
        refine ⟨fun i k h1 h2 h3 _ => g i k h2 h3 (fun e => h1 ⟨e.1, by omega⟩), ⟨⟨by rw [g 0 3 (by decide) (by decide) (by decide)]; exact hw24.1.1, hw24.1.2.1, fun j hj => by rw [g 1 j (by decide) (by decide) (by omega)]; exact hw24.1.2.2 j hj⟩, by rw [g 0 5 (by decide) (by decide) (by decide)]; exact hw24.2.1, by rw [g 0 4 (by decide) (by decide) (by decide)]; exact hw24.2.2.1, hw24.2.2.2⟩, ⟨by rw [t36]; omega, by omega, by rw [g 0 37 (by decide) (by decide) (by decide), t37]; omega, by have := hP.2.2.2; omega⟩, (hC.me hE23).cong (fun j _ => by rw [g 24 j (by decide) (by decide) (by omega), g24 _ _ (by omega)])⟩
      refine pk_bw lay ?_
      rintro μ25 ⟨g25, w25, p25, c25⟩
      have hG24 : Mg μ23 μ24 := fun i k h1 _ _ _ => g24 i k (fun e => h1 ⟨e.1, by omega⟩)
      refine b177 μ25 (p + 1) (m + 1) (s + 1) ((hg.tr hE23.mg).tr (hG24.tr g25)) w25 p25 c25 (by omega) (fun _ => by omega) ?_
      rw [ho, hrp, if_neg (by omega), if_neg hn91, if_neg hnum, if_pos ⟨c, by omega⟩]
theorem q_Mreadpart {t : Nat → Int32} {n sl p m s : Nat} {a1 : Int32} (ha : (a1 = 0 ∧ sl = 0) ∨ (a1 = 1 ∧ sl = 8)) {μ : Mem} (h8 : sl = 8 → s ≤ 8) (hw : MwT t n p μ) (hP : Mp μ m s) : pk (p_X12_readPart a1 μ) (Mq t n μ (rp t n sl 50 p m s)) := by
  rw [p_X12_readPart_eq]
  exact q_Mpart ha FUEL [] p m s 0 μ (by decide) (Nat.zero_le _) h8 Mg.rf hw hP trivial rfl
