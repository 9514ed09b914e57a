theorem q_Mlay0 (s w k : Int32) (μ : Mem) : pk (p_X12_lay s w k μ) (fun r => r = (1, Ly μ s w k)) := pk_mono (q_lay s w k μ) (fun r hr => hr.1)
theorem rth_b86 {t : Nat → Int32} {n F b : Nat} {N0 : List Int32} {S : List Fw} {p c : Nat} {μ : Mem} (h : Mx4 t n F b N0 S (p, c) μ) (hb : bgs (hr t n p)) : pk (p_X12_readThing_b86 (hr t n p) (μ.1 0 4) 1 μ) (Rth t n F b N0 S (p, c) μ) := by
  have e80 : (80 : Int32).toInt = 80 := by decide
  have e20 : (20 : Int32).toInt = 20 := by decide
  have hw : MwT t n p μ := h.1
  obtain ⟨_, ⟨h1, h2, h3⟩, ⟨h4, h5⟩, h6, h7, h8, h9⟩ := h
  have h4 : (μ.1 0 28).toInt = ((b + c : Nat) : Int) := h4
  have h5 : c ≤ 80 := h5
  have h := (⟨hw, ⟨h1, h2, h3⟩, ⟨h4, h5⟩, h6, h7, h8, h9⟩ : Mx4 t n F b N0 S (p, c) μ)
  rw [p_X12_readThing_b86_eq, if_neg (by decide)]
  refine pk_gd (fun _ => ?_)
  rw [tn_of h1]
  have hd : (μ.1 0 28 - μ.1 14 F).toInt = (c : Int) := by rw [ti_sub (by omega) (by omega), h4, h2]; omega
  refine pk_ite (fun c8 => ?_) (fun c8 => ?_)
  · rw [ti_eq, hd, e80] at c8
    refine rth_fail Mh.rf hw ?_
    cases e : 20 - S.length with
    | zero => rfl
    | succ r =>
      show (if 80 ≤ c then _ else _) = _
      rw [if_pos (by omega)]
  rw [ti_eq, hd, e80] at c8
  have hc : c < 80 := by omega
  refine pk_ite (fun c20 => ?_) (fun c20 => ?_)
  · rw [ti_eq, h6, e20] at c20
    refine rth_fail Mh.rf hw ?_
    rw [show 20 - S.length = 0 by omega]; rfl
  rw [ti_eq, h6, e20] at c20
  have hS : S.length < 20 := by omega
  have er : 20 - S.length = (19 - S.length) + 1 := by omega
  have hne : hr t n p ≠ -1 := by
    intro e; rw [e] at hb; unfold bgs at hb; rw [s_X12_signOf_eq] at hb; exact absurd hb (by decide)
  have hp : p < n := hr_lt hne
  refine pk_bd (q_Mbegins hw) ?_
  rintro r17 μ16 ⟨e, hz⟩
  have hz : r17 = 0 ↔ ¬ (hr t n p = 45 ∨ isD (hr t n p) = true) := hz
  have e : μ16 = μ := e
  subst e
  refine pk_ite (fun cn => ?_) (fun cn => ?_)
  · have cn := hz.mp cn
    refine pk_ite (fun cv => ?_) (fun cv => ?_)
    · rw [isVa_M] at cv
      refine pk_ite (fun cs => ?_) (fun cs => ?_)
      · have hnl : isL (hr t n p) = true → ∀ x, isL x = false → hr t n p ≠ x := fun a x b e => by rw [e, b] at a; cases a
        refine pk_ite (fun c33 => ?_) (fun c33 => pk_ite (fun c38 => ?_) (fun c38 => pk_ite (fun c40 => ?_) (fun c40 => pk_ite (fun c58 => ?_) (fun c58 => pk_ite (fun c63 => ?_) (fun c63 => pk_ite (fun c91 => ?_) (fun c91 => pk_ite (fun c95 => ?_) (fun c95 => ?_)))))))
        · exact rth_open Mh.rf h hp hc hS (x := 0) (by unfold thk; decide) (fun _ => by decide) (fun e => absurd e (by decide)) (by rw [er, re_k hc c33 (by decide)]; rfl)
        · have hre : re t n (20 - S.length) (cur N0 S) (p, c) = bnd (tc t n isPl (.inr (p + 1, c + 1))) (re t n (19 - S.length) (cur N0 S)) := by rw [er, re_k hc c38 (by decide)]; rfl
          refine pk_bd (q_Mplace hw hp) ?_
          rintro r28 μ27 ⟨hE, ho⟩
          rcases ho with ⟨q1, q2, q3⟩ | ⟨q1, q2, q3⟩
          · have q2 : r28 = 1 := q2
            rw [if_neg (by rw [q2]; decide)]
            refine pk_bd (q_Mhere q3) ?_
            rintro r31 μ30 ⟨e, hh6⟩
            have hh6 : r31 = hr t n (p + 1) := hh6
            have e : μ30 = μ27 := e
            subst e
            rw [tc_y (v := (p + 1, c + 1)) q1] at hre
            refine pk_bd (mx_open (mx_me h hE q3) (hr_lt (cls_ne (by decide) q1)) hc hS (x := 0) (by unfold thk; decide) (fun _ => by decide) (fun e => absurd e (by decide))) ?_
            rintro r33 μ32 ⟨e33, hM, hX⟩
            have e33 : r33 = 1 := e33
            rw [if_neg (by rw [e33]; decide)]
            refine pk_some ⟨hE.mh.tr hM, Or.inr (Or.inr ⟨_, _, rfl, hX, ?_⟩)⟩
            rw [cur_new, hre]; rfl
          · have q2 : r28 = 0 := q2
            rw [if_pos q2]
            exact pk_some ⟨hE.mh, Or.inl ⟨p + 1, rfl, q3, by rw [hre, tc_n (v := (p + 1, c + 1)) q1]; rfl⟩⟩
        · exact rth_open Mh.rf h hp hc hS (x := 0) (by unfold thk; decide) (fun _ => by decide) (fun e => absurd e (by decide)) (by rw [er, re_k hc c40 (by decide)]; rfl)
        · exact pk_bd (rth_let h hp hc hS c58) (fun r q hq => pk_gd (fun _ => pk_some hq))
        · have hre : re t n (20 - S.length) (cur N0 S) (p, c) = tk t n 41 (bnd (tk t n 44 (bnd (tk t n 44 (bnd (tk t n 40 (.inr (p + 1, c + 1))) (re t n (19 - S.length) (cur N0 S)))) (re t n (19 - S.length) (cur N0 S)))) (re t n (19 - S.length) (cur N0 S))) := by rw [er, re_k hc c63 (by decide)]; rfl
          refine pk_bd (mx_open h hp hc hS (x := 0) (by unfold thk; decide) (fun _ => by decide) (fun e => absurd e (by decide))) ?_
          rintro r45 μ44 ⟨e45, hM, hX⟩
          have e45 : r45 = 1 := e45
          rw [if_neg (by rw [e45]; decide)]
          have hw44 : MwT t n (p + 1) μ44 := hX.1
          refine pk_bd (q_Mtakes (c := 40) (by decide) hw44) ?_
          rintro r48 μ47 ⟨hE, ho⟩
          by_cases c1 : hr t n (p + 1) = 40
          · rw [if_pos c1] at ho
            obtain ⟨o1, o2⟩ : r48 = 1 ∧ MwT t n (p + 2) μ47 := ho
            rw [if_neg (by rw [o1]; decide)]
            refine pk_some ⟨hM.tr hE.mh, Or.inr (Or.inr ⟨_, _, rfl, mx_me hX hE o2, ?_⟩)⟩
            rw [cur_new, hre]
            have : tk t n 40 (.inr (p + 1, c + 1)) = .inr (p + 2, c + 1) := by
              show (if hr t n (p + 1) = 40 then _ else _) = _
              rw [if_pos c1]
            rw [this]; rfl
          · rw [if_neg c1] at ho
            obtain ⟨o1, o2⟩ : r48 = 0 ∧ Mf t n (p + 1) μ47 := ho
            rw [if_pos o1]
            refine pk_some ⟨hM.tr hE.mh, Or.inl ⟨p + 1, rfl, o2, ?_⟩⟩
            rw [hre]
            have : tk t n 40 (.inr (p + 1, c + 1)) = .inl (p + 1) := by
              show (if hr t n (p + 1) = 40 then _ else _) = _
              rw [if_neg c1]
            rw [this]; rfl
        · exact rth_open Mh.rf h hp hc hS (x := 0) (by unfold thk; decide) (fun _ => by decide) (fun e => absurd e (by decide)) (by rw [er, re_k hc c91 (by decide)]; rfl)
        · have hre : re t n (20 - S.length) (cur N0 S) (p, c) = tc t n isPl (.inr (p + 1, c + 1)) := by rw [er, re_k hc c95 (by decide)]; rfl
          refine pk_bd (q_Mplace hw hp) ?_
          rintro r56 μ55 ⟨hE, ho⟩
          rcases ho with ⟨q1, q2, q3⟩ | ⟨q1, q2, q3⟩
          · have q2 : r56 = 1 := q2
            rw [if_neg (by rw [q2]; decide)]
            refine pk_bd (q_Mhere q3) ?_
            rintro r59 μ58 ⟨e, hh6⟩
            have e : μ58 = μ55 := e
            subst e
            rw [tc_y (v := (p + 1, c + 1)) q1] at hre
            obtain ⟨hX, hM, _⟩ := mx_ly 10 (r59 - 48) 0 (mx_me h hE q3) hc
            refine pk_bd (q_Mlay0 10 (r59 - 48) 0 μ58) ?_
            rintro r61 μ60 e60
            obtain ⟨e61, e60⟩ := pr_inj e60
            have e61 : 1 = r61 := e61
            have e60 : Ly μ58 10 (r59 - 48) 0 = μ60 := e60
            rw [e60] at hX hM
            rw [if_neg (by rw [← e61]; decide)]
            have hw60 : MwT t n (p + 1) μ60 := hX.1
            refine pk_bd (q_Mhere hw60) ?_
            rintro r64 μ63 ⟨e, hh64⟩
            have hh64 : r64 = hr t n (p + 1) := hh64
            have e : μ63 = μ60 := e
            subst e
            refine pk_bd (q_Mtakes (c := r64) (by rw [hh64]; exact cls_ne (by decide) q1) hw60) ?_
            rintro r66 μ65 ⟨hE65, ho⟩
            rw [if_pos hh64.symm] at ho
            obtain ⟨o1, o2⟩ : r66 = 1 ∧ MwT t n (p + 2) μ65 := ho
            rw [if_neg (by rw [o1]; decide)]
            exact pk_some ⟨(hE.mh.tr hM).tr hE65.mh, Or.inr (Or.inl ⟨_, rfl, mx_me hX hE65 o2, hre⟩)⟩
          · have q2 : r56 = 0 := q2
            rw [if_pos q2]
            exact pk_some ⟨hE.mh, Or.inl ⟨p + 1, rfl, q3, by rw [hre, tc_n (v := (p + 1, c + 1)) q1]⟩⟩
        · have hl : isL (hr t n p) = true := by
            unfold bgs at hb
            rcases hb with a | a | a | a | a | a | a | a | a | a | a
            · exact absurd a cn
            · rw [cv] at a; cases a
            · exact a
            · exact absurd cs a
            · exact absurd a c40
            · exact absurd a c91
            · exact absurd a c63
            · exact absurd a c33
            · exact absurd a c38
            · exact absurd a c95
            · exact absurd a c58
          exact pk_bd (rth_call h hp hc hS cn cv hl) (fun r q hq => pk_gd (fun _ => pk_some hq))
      · refine rth_open Mh.rf h hp hc hS (x := 0) (by unfold thk; decide) (fun _ => by decide) (fun e => absurd e (by decide)) ?_
        rw [er]
        rcases sgo cs with a | a | a | a | a <;> rw [re_k hc a (by decide)] <;> rfl
    · rw [isVa_M] at cv
      have cv : isVa (hr t n p) = true := by simpa using cv
      have hre : re t n (20 - S.length) (cur N0 S) (p, c) = if hr t n p ∈ cur N0 S then .inr (p + 1, c + 1) else .inl p := by rw [er]; exact re_v hc cn cv
      have hcount := h9 (hr t n p) cv
      refine pk_gd (fun _ => pk_ite (fun c0 => ?_) (fun c0 => ?_))
      · rw [c0] at hcount
        have hcount : (cur N0 S).count (hr t n p) = 0 := by
          have e0 : (0 : Int32).toInt = 0 := by decide
          omega
        have hn : ¬ hr t n p ∈ cur N0 S := List.count_eq_zero.mp hcount
        rw [if_neg hn] at hre
        exact rth_fail Mh.rf hw hre
      · have hm : hr t n p ∈ cur N0 S := by
          by_cases hm : hr t n p ∈ cur N0 S
          · exact hm
          · rw [List.count_eq_zero.mpr hm] at hcount
            exact absurd (ti_eq.mpr hcount) c0
        rw [if_pos hm] at hre
        refine pk_bvy (fun μ75 m75 => ?_)
        have hE : Me μ16 μ75 := by rw [m75]; exact Me.put (by omega) _
        have h75 := mx_me h hE (by rw [m75]; exact mw_next hw hp)
        obtain ⟨hX, hM, _⟩ := mx_ly 4 (hr t n p - 109) 0 h75 hc
        refine pk_bd (q_Mlay0 4 (hr t n p - 109) 0 μ75) ?_
        rintro r77 μ76 e76
        obtain ⟨e77, e76⟩ := pr_inj e76
        have e77 : 1 = r77 := e77
        have e76 : Ly μ75 4 (hr t n p - 109) 0 = μ76 := e76
        rw [e76] at hX hM
        exact pk_gd (fun _ => pk_some ⟨hE.mh.tr hM, Or.inr (Or.inl ⟨_, e77.symm, hX, hre⟩)⟩)
  · have cn : hr t n p = 45 ∨ isD (hr t n p) = true := by
      by_cases cc : hr t n p = 45 ∨ isD (hr t n p) = true
      · exact cc
      · exact absurd (hz.mpr cc) cn
    have hre : re t n (20 - S.length) (cur N0 S) (p, c) = bnd (rn t n p) (fun q => .inr (q, c + 1)) := by rw [er]; exact re_n hc cn
    refine pk_bd (q_Mnumber hw) ?_
    rintro r83 μ82 ⟨hE, ho⟩
    generalize rn t n p = o at ho hre
    cases o with
    | inl f =>
      obtain ⟨o1, o2⟩ : r83 = 0 ∧ Mf t n f μ82 := ho
      rw [if_pos o1]
      exact pk_some ⟨hE.mh, Or.inl ⟨f, rfl, o2, hre⟩⟩
    | inr q =>
      obtain ⟨o1, o2⟩ : r83 = 1 ∧ MwT t n q μ82 := ho
      rw [if_neg (by rw [o1]; decide)]
      obtain ⟨hX, hM, _⟩ := mx_ly (μ82.1 0 6) (μ82.1 0 7) 0 (mx_me h hE o2) hc
      refine pk_bd (q_Mlay0 _ _ _ μ82) ?_
      rintro r86 μ85 e85
      obtain ⟨e86, e85⟩ := pr_inj e85
      have e86 : 1 = r86 := e86
      have e85 : Ly μ82 (μ82.1 0 6) (μ82.1 0 7) 0 = μ85 := e85
      rw [e85] at hX hM
      rw [if_neg (by rw [← e86]; decide)]
      exact pk_some ⟨hE.mh.tr hM, Or.inr (Or.inl ⟨_, rfl, hX, hre⟩)⟩
theorem rth_thing {t : Nat → Int32} {n F b : Nat} {N0 : List Int32} {S : List Fw} {p c : Nat} {μ : Mem} (h : Mx4 t n F b N0 S (p, c) μ) : pk (p_X12_readThing μ) (Rth t n F b N0 S (p, c) μ) := by
  have hw : MwT t n p μ := h.1
  rw [p_X12_readThing_eq]
  refine pk_bd (q_Mhere hw) ?_
  rintro r2 μ1 ⟨e, hh⟩
  have hh : r2 = hr t n p := hh
  have e : μ1 = μ := e
  subst e
  subst hh
  refine pk_bvy (fun v3 e3 => pk_bd (q_Mbegins hw) ?_)
  rintro r5 μ4 ⟨e, hz⟩
  have hz : r5 = 0 ↔ ¬ (hr t n p = 45 ∨ isD (hr t n p) = true) := hz
  have e : μ4 = μ1 := e
  subst e
  rw [e3]
  have go : bgs (hr t n p) → pk (p_X12_readThing_b81 (hr t n p) (μ4.1 0 4) μ4) (Rth t n F b N0 S (p, c) μ4) := by
    intro hb; rw [p_X12_readThing_b81_eq]; exact rth_b86 h hb
  refine pk_ite (fun cn => ?_) (fun cn => ?_)
  · have cn := hz.mp cn
    refine pk_ite (fun cv => ?_) (fun cv => ?_)
    · rw [isVa_M] at cv
      refine pk_ite (fun cl => ?_) (fun cl => ?_)
      · rw [isL_M] at cl
        refine pk_ite (fun cs => ?_) (fun cs => go (Or.inr (Or.inr (Or.inr (Or.inl cs)))))
        refine pk_ite (fun c1 => go (by unfold bgs; simp [c1])) (fun c1 => pk_ite (fun c2 => go (by unfold bgs; simp [c2])) (fun c2 => pk_ite (fun c3 => go (by unfold bgs; simp [c3])) (fun c3 => pk_ite (fun c4 => go (by unfold bgs; simp [c4])) (fun c4 => pk_ite (fun c5 => go (by unfold bgs; simp [c5])) (fun c5 => pk_ite (fun c6 => go (by unfold bgs; simp [c6])) (fun c6 => pk_ite (fun c7 => go (by unfold bgs; simp [c7])) (fun c7 => ?_)))))))
        rw [p_X12_readThing_b86_eq, if_pos rfl]
        refine rth_fail Mh.rf hw (nbg ?_)
        unfold bgs
        rintro (a | a | a | a | a | a | a | a | a | a | a)
        · exact cn a
        · rw [cv] at a; cases a
        · rw [cl] at a; cases a
        · exact a cs
        · exact c1 a
        · exact c2 a
        · exact c3 a
        · exact c4 a
        · exact c5 a
        · exact c6 a
        · exact c7 a
      · rw [isL_M] at cl
        exact go (Or.inr (Or.inr (Or.inl (by simpa using cl))))
    · rw [isVa_M] at cv
      exact go (Or.inr (Or.inl (by simpa using cv)))
  · refine go (Or.inl ?_)
    by_cases cc : hr t n p = 45 ∨ isD (hr t n p) = true
    · exact cc
    · exact absurd (hz.mpr cc) cn
