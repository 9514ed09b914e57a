section
def Bq9 (v : Nat) (a1 : Int32) (q : Mem) : Prop := 0 ≤ a1.toInt ∧ a1.toInt + 2500 * (200 - (q.1 39 3).toInt) ≤ 500000 + 2600 * (v : Int) ∧ 0 ≤ (q.1 39 3).toInt ∧ (q.1 39 3).toInt ≤ 200
theorem mv_bad {α : Type} {F : Option α} {fu : Nat} {z : Mem} {aV : Int32} {Post : α → Mem → Prop} (h : z.1 0 68 ≠ 0) (hP : pk2 F (some z) Post) : pk2 F (bw (p_X12_goAll_b0 fu z) (MV9 aV)) Post := by
  have hM : MV9 aV z = some z := by unfold MV9; rw [if_neg h]
  cases fu with
  | zero => rw [p_X12_goAll_b0_z]; intro a b _ e; cases e
  | succ fu =>
    rw [p_X12_goAll_b0_s]
    by_cases c : z.1 0 65 ≤ 0
    · rw [if_pos c]
      show pk2 F (MV9 aV z) Post
      rw [hM]; exact hP
    · rw [if_neg c, if_neg h]
      show pk2 F (MV9 aV z) Post
      rw [hM]; exact hP
theorem vs_var {Post : Int32 × Mem → Mem → Prop} {P : Nat} {C : List Th3} {G : List Fn5} {v n : Nat} {It Bk : List Nat} {cl : Nat → Prop} {q z : Mem} {a1 aV : Int32} (h : VS9 P C G v It Bk cl q z) (hv : (v : Int) < (q.1 39 2).toInt) (h1 : aV = nI v) (hb : Bq9 v a1 q) (next : ∀ (q9 z28 : Mem) (It3 Bk3 : List Nat) (cl3 : Nat → Prop) (m : Nat) (a2 : Int32), VS9 P C G (v + 1) It3 Bk3 cl3 q9 z28 → Bq9 (v + 1) a2 q9 → pk2 (bw (p_X10_beginVariant (nI (v + 1)) q9) (fun r => p_X11_specialise_b17 m a2 r)) (some z28) Post) (bad : ∀ (q z : Mem) (a2 : Int32) (n : Nat) (cd : Int32), q.1 137 6 = cd → z.1 0 68 = cd → cd ≠ 0 → pk2 (p_X11_specialise_b17 n a2 q) (some z) Post) : pk2 (bw (p_X10_beginVariant aV q) (fun r => p_X11_specialise_b17 n a1 r)) (p_X12_makeVariant aV (sF z 0 56 0)) Post := by
  have e1 : (1 : Int32).toInt = 1 := by decide
  have hv24 : v < 24 := by
    obtain ⟨V, hV1, _, hV24, _⟩ := h.2.2.2.2.1
    omega
  refine vs_go h hv h1 (fun q' z' f G1 G2 B e2 hG hB W cd he2 hf80 hn5 hAw hpc vb vz h305 => ?_)
  have hFf : Fn9 G f.2.2.1 (tot G2) := ⟨f, G1, G2, hG, rfl, rfl⟩
  have hCl : C.length ≤ 2472 := W.2.1.2.2.2.1
  have he2l := lt_some he2
  obtain ⟨y1, y2, y3, y4⟩ := hb
  have k393 : q'.1 39 3 = q.1 39 3 := vb.2.1.2 3 (by decide)
  have hbu : Bu9 a1 q' (500000 + 2600 * (v : Int)) 16200 := by
    refine ⟨y1, by rw [k393]; exact y2, by rw [k393]; omega, by rw [k393]; exact y3, by rw [k393]; exact y4, h305.1⟩
  refine e9_fin (P := P) (G := G) 12 hFf cd (by omega) (MV9 aV) Post q' z' It Bk cl v B (z.1 0 87).toNatClampNeg 0 0 0 0 0 a1 n FUEL (500000 + 2600 * (v : Int)) 16200 W hAw hpc hbu (by omega) (by omega) ⟨by omega, by omega⟩ (by omega) (by omega) ?_ ?_
  · intro q5 z5 It5 Bk5 cl5 a5 n5 f5 W5 F5 hpc5 hbu5
    have hl5 := hbu5.lt
    have h05 := hbu5.1
    refine vs_ret h hv hB vb vz W5 F5 he2 hpc5 (by omega) h1 (fun q9 z28 It3 Bk3 cl3 m hS h3 => next q9 z28 It3 Bk3 cl3 m (a5 + 1) hS ?_) bad
    obtain ⟨u1, u2, u3, u4, u5, u6⟩ := hbu5
    have ta : (a5 + 1).toInt = a5.toInt + 1 := by rw [ti_add (by omega) (by omega), e1]
    refine ⟨by rw [ta]; omega, by rw [ta, h3]; omega, by rw [h3]; exact u4, by rw [h3]; exact u5⟩
  · intro q5 z5 a5 n5 fu5 cd5 x1 x2 x3 _
    exact mv_bad (by rw [x2]; exact x3) (bad q5 z5 a5 n5 cd5 x1 x2 x3)
theorem lx_stop {β : Type} {n : Nat} {a1 : Int32} {q : Mem} {g : Option β} {P : Int32 × Mem → β → Prop} (hs : ¬ (q.1 137 6 = 0 ∧ (q.1 137 7).toInt < (q.1 39 2).toInt)) (h : pk2 (p_X10_answer q) g P) : pk2 (p_X11_specialise_b17 n a1 q) g P := by
  have fin : pk2 (bd (p_X10_answer q) (fun r5 μ4 => some (r5, μ4))) g P := by
    intro a b e e2
    cases hA : p_X10_answer q with
    | none => rw [hA] at e; cases e
    | some r =>
      rw [hA] at e
      have e := Option.some.inj e
      rw [← e]
      exact h r b hA e2
  cases n with
  | zero => intro a b e; rw [p_X11_specialise_b17_z] at e; cases e
  | succ n =>
    rw [p_X11_specialise_b17_s]
    by_cases c : 1000000 ≤ a1
    · rw [if_pos c]; exact fin
    · rw [if_neg c]
      refine pk2_bdvl (r0 := 0) (μ0 := q) ?_ (by rw [if_pos rfl]; exact fin)
      rw [p_X10_isWorking_eq]
      refine pk_ite (fun c6 => pk_ite (fun c7 => pk_some ⟨rfl, rfl⟩) (fun c7 => absurd ⟨c6, ?_⟩ hs)) (fun _ => pk_some ⟨rfl, rfl⟩)
      rw [ti_le] at c7; omega
theorem vs_all {Post : Int32 × Mem → Int32 × Mem → Prop} {P : Nat} {C : List Th3} {G : List Fn5} {KK : Mem → Option (Int32 × Mem)} (fin : ∀ (v : Nat) (q z : Mem) (It Bk : List Nat) (cl : Nat → Prop), VS9 P C G v It Bk cl q z → (q.1 39 2).toInt ≤ (v : Int) → 0 < v → pk2 (p_X10_answer (sF q 137 7 (nI v))) (KK z) Post) (badK : ∀ (q z : Mem) (cd : Int32), q.1 137 6 = cd → z.1 0 68 = cd → cd ≠ 0 → pk2 (p_X10_answer q) (KK z) Post) : ∀ (d v : Nat) (q z : Mem) (It Bk : List Nat) (cl : Nat → Prop) (n fz : Nat) (a1 av az : Int32), v + d = 25 → (0 < v ∨ (v : Int) < (q.1 39 2).toInt) → VS9 P C G v It Bk cl q z → Bq9 v a1 q → av = nI v → az = nI v → pk2 (bw (p_X10_beginVariant av q) (fun r => p_X11_specialise_b17 n a1 r)) (bw (p_X12_specialiseNow_b92 fz az z) KK) Post := by
  intro d
  induction d with
  | zero =>
    intro v q z It Bk cl n fz a1 av az hd h0 h hb hav haz
    obtain ⟨V, hV1, hV2, hV24, _⟩ := h.2.2.2.2.1
    have h110 : (z.1 0 110).toInt = (V : Int) := by rw [sF_k (by decide)] at hV2; exact hV2
    cases fz with
    | zero => rw [p_X12_specialiseNow_b92_z]; intro a b _ e; cases e
    | succ fz =>
      rw [p_X12_specialiseNow_b92_s, if_pos (by rw [ti_le, h110, haz, ni_ti (by omega)]; omega)]
      show pk2 _ (KK z) Post
      refine pk2_bwl (A := fun r => r = sF q 137 7 av) ?_ (fun r hr => ?_)
      · rw [p_X10_beginVariant_eq]
        refine pk_bvs ?_
        rw [if_neg (by rw [ti_lt, sF_i (by decide), hav, ni_ti (by omega)]; omega)]
        exact pk_some rfl
      · rw [hr, hav]
        refine lx_stop (fun e => ?_) (fin v q z It Bk cl h (by omega) (by omega))
        have e := e.2
        rw [sF_v, sF_i (by decide), ni_ti (by omega)] at e; omega
  | succ d ih =>
    intro v q z It Bk cl n fz a1 av az hd h0 h hb hav haz
    obtain ⟨V, hV1, hV2, hV24, _⟩ := h.2.2.2.2.1
    have h110 : (z.1 0 110).toInt = (V : Int) := by rw [sF_k (by decide)] at hV2; exact hV2
    have k68 := h.2.2.1.2
    have e1 : (1 : Int32).toInt = 1 := by decide
    cases fz with
    | zero => rw [p_X12_specialiseNow_b92_z]; intro a b _ e; cases e
    | succ fz =>
    by_cases c : (v : Int) < (q.1 39 2).toInt
    · rw [p_X12_specialiseNow_b92_s, if_neg (by rw [ti_le, h110, haz, ni_ti (by omega)]; omega), if_pos k68]
      show pk2 _ (bw (bw (p_X12_makeVariant az (sF z 0 56 0)) (fun μ22 => bv (az + 1) (fun v24 => p_X12_specialiseNow_b92 fz v24 μ22))) KK) Post
      rw [bw_bw, haz, hav]
      have n1 : nI v + 1 = nI (v + 1) := ti_eq.mpr (by rw [ti_add (by rw [ni_ti (by omega), e1]; omega) (by rw [ni_ti (by omega), e1]; omega), ni_ti (by omega), ni_ti (by omega), e1]; omega)
      refine pk2_bwK (vs_var h c rfl hb (fun q9 z28 It3 Bk3 cl3 m a2 hS hb2 => pk2_someK ?_) (fun q2 z2 a2 n2 cd x1 x2 x3 => pk2_someK ?_))
      · show pk2 _ (bw (p_X12_specialiseNow_b92 fz (nI v + 1) z28) KK) Post
        rw [n1]
        exact ih (v + 1) q9 z28 It3 Bk3 cl3 m fz a2 (nI (v + 1)) (nI (v + 1)) (by omega) (Or.inl (by omega)) hS hb2 rfl rfl
      · show pk2 _ (bw (p_X12_specialiseNow_b92 fz (nI v + 1) z2) KK) Post
        refine lx_stop (fun e => x3 (by rw [← x1]; exact e.1)) ?_
        cases fz with
        | zero => rw [p_X12_specialiseNow_b92_z]; intro a b _ e; cases e
        | succ fz =>
          rw [p_X12_specialiseNow_b92_s]
          by_cases c2 : z2.1 0 110 ≤ nI v + 1
          · rw [if_pos c2]; exact badK q2 z2 cd x1 x2 x3
          · rw [if_neg c2, if_neg (by rw [x2]; exact x3)]; exact badK q2 z2 cd x1 x2 x3
    · rw [p_X12_specialiseNow_b92_s, if_pos (by rw [ti_le, h110, haz, ni_ti (by omega)]; omega)]
      show pk2 _ (KK z) Post
      refine pk2_bwl (A := fun r => r = sF q 137 7 av) ?_ (fun r hr => ?_)
      · rw [p_X10_beginVariant_eq]
        refine pk_bvs ?_
        rw [if_neg (by rw [ti_lt, sF_i (by decide), hav, ni_ti (by omega)]; omega)]
        exact pk_some rfl
      · rw [hr, hav]
        refine lx_stop (fun e => ?_) (fin v q z It Bk cl h (by omega) (by omega))
        have e := e.2
        rw [sF_v, sF_i (by decide), ni_ti (by omega)] at e; omega
end

section
theorem tkl_num {x : Tkn} (h : x.1 = 0 ∨ x.1 = 1) : tkl x = s_X0_make x.1 x.2 := by
  unfold tkl
  rw [if_neg (by rcases h with e | e <;> rw [e] <;> decide), if_neg (by rcases h with e | e <;> rw [e] <;> decide)]
theorem tkl_tk {x : Tkn} (h : Tv x) : Tk7 (tkl x) x.1 x.2 := by
  rcases h with h | h | h | h
  · exact Or.inr (Or.inr ⟨Or.inl h, tkl_num (Or.inl h)⟩)
  · exact Or.inr (Or.inr ⟨Or.inr h, tkl_num (Or.inr h)⟩)
  · subst h
    exact Or.inr (Or.inl ⟨rfl, rfl, by unfold tkl; rw [if_neg (by decide), if_pos rfl]; exact pt_mk.symm⟩)
  · subst h
    exact Or.inl ⟨rfl, rfl, by unfold tkl; rw [if_pos rfl]; exact st_mk.symm⟩
theorem nvl_01 (t : Nat → Int32) (n p : Nat) : (nvl t n p).1 = 0 ∨ (nvl t n p).1 = 1 := by
  unfold nvl
  split
  · exact Or.inr rfl
  · exact Or.inl rfl
theorem tkl_npt {x : Tkn} (h : Tv x) (h2 : x.1 ≠ 2) : tkl x ≠ 8589934592 := fun e => h2 ((tk_pt (tkl_tk h)).mp e)
theorem wf9_one {t : Int64} (h : t ≠ 8589934592) : Wf9 [t] 1 := wf9_1 h
theorem rpL_wf {t : Nat → Int32} {n sl : Nat} : ∀ {k p : Nat} {L : List Tkn} {p1 : Nat} {L1 : List Tkn}, rpL t n sl k p L = .inr (p1, L1) → ∃ Z, L1 = L ++ Z ∧ Wf9 (Z.map tkl) 1 := by
  intro k
  induction k with
  | zero => intro p L p1 L1 h; rw [rpL] at h; cases h
  | succ k ih =>
    intro p L p1 L1 h
    rw [rpL] at h
    by_cases c : 30 ≤ L.length
    · rw [if_pos c] at h; cases h
    rw [if_neg c] at h
    by_cases c2 : hr t n p = 91
    · rw [if_pos c2] at h
      cases h1 : rpL t n sl k (p + 1) (L ++ [(2, 0)]) with
      | inl f => rw [h1] at h; cases h
      | inr v =>
        obtain ⟨q1, M1⟩ := v
        rw [h1] at h
        have h : (if hr t n q1 = 44 then (match rpL t n sl k (q1 + 1) M1 with | .inl f => .inl f | .inr (p2, L2) => if hr t n p2 = 93 then .inr (p2 + 1, L2) else .inl p2) else .inl q1) = (.inr (p1, L1) : Rd (Nat × List Tkn)) := h
        by_cases c3 : hr t n q1 = 44
        · rw [if_pos c3] at h
          cases h2 : rpL t n sl k (q1 + 1) M1 with
          | inl f => rw [h2] at h; cases h
          | inr v2 =>
            obtain ⟨q2, M2⟩ := v2
            rw [h2] at h
            have h : (if hr t n q2 = 93 then .inr (q2 + 1, M2) else .inl q2) = (.inr (p1, L1) : Rd (Nat × List Tkn)) := h
            by_cases c4 : hr t n q2 = 93
            · rw [if_pos c4] at h
              have h := Sum.inr.inj h
              have hM : M2 = L1 := congrArg Prod.snd h
              obtain ⟨Z1, e1, w1⟩ := ih h1
              obtain ⟨Z2, e2, w2⟩ := ih h2
              refine ⟨(2, 0) :: (Z1 ++ Z2), by rw [← hM, e2, e1]; simp, ?_⟩
              show Wf9 (tkl (2, 0) :: (Z1 ++ Z2).map tkl) 1
              have ht : tkl (2, 0) = 8589934592 := by unfold tkl; rw [if_neg (by decide), if_pos rfl]
              refine ⟨by omega, ?_⟩
              rw [if_pos ht, List.map_append]
              exact wf9_app w1 w2
            · rw [if_neg c4] at h; cases h
        · rw [if_neg c3] at h; cases h
    rw [if_neg c2] at h
    by_cases c3 : hr t n p = 45 ∨ isD (hr t n p) = true
    · rw [if_pos c3] at h
      cases h1 : rn t n p with
      | inl f => rw [h1] at h; cases h
      | inr q =>
        rw [h1] at h
        have h := Sum.inr.inj h
        have hM : L ++ [nvl t n p] = L1 := congrArg Prod.snd h
        refine ⟨[nvl t n p], hM.symm, wf9_one (tkl_npt (nvl_tv t n p) ?_)⟩
        rcases nvl_01 t n p with e | e <;> rw [e] <;> decide
    rw [if_neg c3] at h
    by_cases c4 : hr t n p = 42 ∧ stc L < sl
    · rw [if_pos c4] at h
      have h := Sum.inr.inj h
      have hM : L ++ [(3, 0)] = L1 := congrArg Prod.snd h
      exact ⟨[(3, 0)], hM.symm, wf9_one (tkl_npt (Or.inr (Or.inr (Or.inr rfl))) (by decide))⟩
    · rw [if_neg c4] at h; cases h
theorem rarL_wf {t : Nat → Int32} {n : Nat} : ∀ {k j p : Nat} {L : List Tkn} {p1 j1 : Nat} {L1 : List Tkn}, Wf9 (L.map tkl) j → stc L ≤ 8 → rarL t n k j p L = .inr (p1, j1, L1) → Wf9 (L1.map tkl) j1 ∧ stc L1 ≤ 8 ∧ j1 ≤ j + k := by
  intro k
  induction k with
  | zero =>
    intro j p L p1 j1 L1 hw hs h
    rw [rarL] at h
    have h := Sum.inr.inj h
    have h1 : j = j1 := congrArg (fun x => x.2.1) h
    have h2 : L = L1 := congrArg (fun x => x.2.2) h
    rw [← h1, ← h2]; exact ⟨hw, hs, Nat.le_refl _⟩
  | succ k ih =>
    intro j p L p1 j1 L1 hw hs h
    rw [rarL] at h
    by_cases c : hr t n p = 44
    · rw [if_pos c] at h
      cases h1 : rpL t n 8 50 (p + 1) L with
      | inl f => rw [h1] at h; cases h
      | inr v =>
        obtain ⟨q1, M1⟩ := v
        rw [h1] at h
        obtain ⟨Z, e, w⟩ := rpL_wf h1
        have hw1 : Wf9 (M1.map tkl) (j + 1) := by rw [e, List.map_append]; exact wf9_app hw w
        obtain ⟨r1, r2, r3⟩ := ih hw1 (rpL_s8 hs h1) h
        exact ⟨r1, r2, by omega⟩
    · rw [if_neg c] at h
      have h := Sum.inr.inj h
      have h1 : j = j1 := congrArg (fun x => x.2.1) h
      have h2 : L = L1 := congrArg (fun x => x.2.2) h
      rw [← h1, ← h2]; exact ⟨hw, hs, by omega⟩
theorem rtL_wf {t : Nat → Int32} {n j : Nat} {L : List Tkn} (h : rtL t n = .inr (j, L)) : isL (hr t n 0) = true ∧ Wf9 (L.map tkl) j ∧ stc L ≤ 8 ∧ j ≤ 5 := by
  unfold rtL at h
  by_cases c : isL (hr t n 0) = true
  · rw [if_pos c] at h
    refine ⟨c, ?_⟩
    by_cases c1 : hr t n 1 = 40
    · rw [if_pos c1] at h
      cases hs : rasL t n with
      | inl f => rw [hs] at h; cases h
      | inr v =>
        obtain ⟨p, j', L'⟩ := v
        rw [hs] at h
        have h : (if hr t n p = 41 then (if p + 1 < n then .inl (p + 1) else .inr (j', L')) else .inl p) = (.inr (j, L) : Rd (Nat × List Tkn)) := h
        have he : j' = j ∧ L' = L := by
          by_cases c2 : hr t n p = 41
          · rw [if_pos c2] at h
            by_cases c3 : p + 1 < n
            · rw [if_pos c3] at h; cases h
            · rw [if_neg c3] at h
              have h := Sum.inr.inj h
              exact ⟨congrArg Prod.fst h, congrArg Prod.snd h⟩
          · rw [if_neg c2] at h; cases h
        obtain ⟨e1, e2⟩ := he
        subst e1; subst e2
        unfold rasL at hs
        by_cases c4 : hr t n 2 = 41
        · rw [if_pos c4] at hs
          have hs := Sum.inr.inj hs
          have h1 : 0 = j' := congrArg (fun x => x.2.1) hs
          have h2 : [] = L' := congrArg (fun x => x.2.2) hs
          rw [← h1, ← h2]
          exact ⟨rfl, Nat.zero_le _, Nat.zero_le _⟩
        · rw [if_neg c4] at hs
          cases h1 : rpL t n 8 50 2 [] with
          | inl f => rw [h1] at hs; cases hs
          | inr v =>
            obtain ⟨q1, M1⟩ := v
            rw [h1] at hs
            obtain ⟨Z, e, w⟩ := rpL_wf h1
            have hw1 : Wf9 (M1.map tkl) 1 := by rw [e, List.nil_append]; exact w
            obtain ⟨r1, r2, r3⟩ := rarL_wf hw1 (rpL_s8 (Nat.zero_le _) h1) hs
            exact ⟨r1, r2, by omega⟩
    · rw [if_neg c1] at h; cases h
  · rw [if_neg c] at h; cases h
theorem stc_ns8 {L : List Tkn} (h : ∀ x, x ∈ L → Tv x) : ns8 (L.map tkl) = stc L := by
  unfold ns8 stc
  rw [List.filter_map, List.length_map]
  refine congrArg List.length (List.filter_congr (fun x hx => ?_))
  exact decide_eq_decide.mpr (tk_st (tkl_tk (h x hx)))
end

section
noncomputable def Vn9 (z : Mem) (x : Nat) : Int64 := if z.1 30 x = 2 then s_X0_make (nI 2) (nI x) else s_X0_make (z.1 30 x) (z.1 31 x)
noncomputable def gst (z : Mem) : Mem := (fun i k => if i = 30 then z.1 0 56 else if i = 33 then z.1 33 k else z.1 34 k, fun i k => if i = 31 then Vn9 z (z.1 31 k).toNatClampNeg else Vn9 z (z.1 32 k).toNatClampNeg, fun _ _ => 0)
def Lf9 (z : Mem) (x : Nat) (T : List Int64) (d : Nat) : Prop := x < (z.1 0 56).toNatClampNeg ∧ (∃ (m : Nat) (b : Int32), (m = 0 ∨ m = 1 ∨ m = 3) ∧ z.1 30 x = nI m ∧ z.1 31 x = b ∧ T = [if m = 3 then 17179869184 else s_X0_make (nI m) b]) ∧ z.1 33 x = 1 ∧ z.1 34 x = 0 ∧ d = 0
def Tn9 (z : Mem) : Nat → Nat → List Int64 → Nat → Prop
  | 0, x, T, d => Lf9 z x T d
  | g + 1, x, T, d => Lf9 z x T d ∨ ∃ (y w d1 d2 : Nat) (T1 T2 : List Int64), (x < (z.1 0 56).toNatClampNeg ∧ z.1 30 x = 2) ∧ ((z.1 31 x).toInt = (y : Int) ∧ (z.1 32 x).toInt = (w : Int)) ∧ ((z.1 33 x).toInt = ((1 + T1.length + T2.length : Nat) : Int) ∧ (z.1 34 x).toInt = ((1 + max d1 d2 : Nat) : Int)) ∧ T = 8589934592 :: (T1 ++ T2) ∧ d = 1 + max d1 d2 ∧ Tn9 z g y T1 d1 ∧ Tn9 z g w T2 d2
theorem Lf9.gr {z z2 : Mem} {x d : Nat} {T : List Int64} (h : Lf9 z x T d) (g : Gh7 z z2) : Lf9 z2 x T d := by
  obtain ⟨h1, ⟨m, b, hm, h2, h3, h4⟩, h5, h6, h7⟩ := h
  obtain ⟨c1, c2, _, c4, c5⟩ := g.2 x h1
  exact ⟨Nat.lt_of_lt_of_le h1 g.1, ⟨m, b, hm, by rw [c1]; exact h2, by rw [c2]; exact h3, h4⟩, by rw [c4]; exact h5, by rw [c5]; exact h6, h7⟩
theorem Tn9.gr {z z2 : Mem} (g : Gh7 z z2) : ∀ {n x : Nat} {T : List Int64} {d : Nat}, Tn9 z n x T d → Tn9 z2 n x T d := by
  intro n
  induction n with
  | zero => intro x T d h; exact Lf9.gr h g
  | succ n ih =>
    intro x T d h
    rcases h with h | ⟨y, w, d1, d2, T1, T2, ⟨a1, a2⟩, ⟨a3, a4⟩, ⟨a5, a6⟩, a7, a8, a9, b1⟩
    · exact Or.inl (h.gr g)
    · obtain ⟨c1, c2, c3, c4, c5⟩ := g.2 x a1
      exact Or.inr ⟨y, w, d1, d2, T1, T2, ⟨Nat.lt_of_lt_of_le a1 g.1, by rw [c1]; exact a2⟩, ⟨by rw [c2]; exact a3, by rw [c3]; exact a4⟩, ⟨by rw [c4]; exact a5, by rw [c5]; exact a6⟩, a7, a8, ih a9, ih b1⟩
theorem Tn9.up {z : Mem} : ∀ {n x : Nat} {T : List Int64} {d : Nat}, Tn9 z n x T d → Tn9 z (n + 1) x T d := by
  intro n
  induction n with
  | zero => intro x T d h; exact Or.inl h
  | succ n ih =>
    intro x T d h
    rcases h with h | ⟨y, w, d1, d2, T1, T2, a1, a3, a5, a7, a8, a9, b1⟩
    · exact Or.inl h
    · exact Or.inr ⟨y, w, d1, d2, T1, T2, a1, a3, a5, a7, a8, ih a9, ih b1⟩
theorem Tn9.le {z : Mem} {n m x : Nat} {T : List Int64} {d : Nat} (h : Tn9 z n x T d) (hl : n ≤ m) : Tn9 z m x T d := by
  induction m with
  | zero => have : n = 0 := by omega
            subst this; exact h
  | succ m ih =>
    by_cases e : n = m + 1
    · subst e; exact h
    · exact (ih (by omega)).up
theorem tok_mk {m : Nat} {b : Int32} (hm : m = 0 ∨ m = 1 ∨ m = 3) : tok (s_X0_make (nI m) b) = if m = 3 then 17179869184 else s_X0_make (nI m) b := by
  unfold tok
  rw [mk_kind m (by omega)]
  rcases hm with e | e | e <;> subst e
  · rw [if_neg (by decide), if_neg (by decide), if_neg (by decide)]
  · rw [if_neg (by decide), if_neg (by decide), if_neg (by decide)]
  · rw [if_neg (by decide), if_pos (by decide), if_pos rfl]
theorem tok_pr9 (b : Int32) : tok (s_X0_make (nI 2) b) = 8589934592 := by
  unfold tok
  rw [mk_kind 2 (by omega), if_pos (by decide)]
theorem Lf9.va {z : Mem} {x d : Nat} {T : List Int64} (h : Lf9 z x T d) : Va7 (gst z) z (Vn9 z x) x T.length d ∧ z.1 30 x ≠ 2 ∧ tks (zr9 [(Vn9 z x, x)]) = T := by
  obtain ⟨h1, ⟨m, b, hm, h2, h3, h4⟩, h5, h6, h7⟩ := h
  have n2 : z.1 30 x ≠ 2 := by rw [h2]; rcases hm with e | e | e <;> subst e <;> decide
  have e : Vn9 z x = s_X0_make (nI m) b := by unfold Vn9; rw [if_neg n2, h2, h3]
  refine ⟨?_, n2, ?_⟩
  · rw [e, h4, h7]
    exact Vt7.leaf h1 ⟨h2, h3⟩ hm ⟨h5, h6⟩
  · show [tok (Vn9 z x)] = T
    rw [e, tok_mk hm, h4]
theorem tn_va {z : Mem} : ∀ {n x : Nat} {T : List Int64} {d : Nat}, Tn9 z n x T d → Va7 (gst z) z (Vn9 z x) x T.length d ∧ ∃ Z, Pre9 (gst z) z n (Vn9 z x) x Z ∧ tks (zr9 Z) = T := by
  intro n
  induction n with
  | zero =>
    intro x T d h
    obtain ⟨a, b, c⟩ := Lf9.va h
    exact ⟨a, [(Vn9 z x, x)], ⟨b, rfl⟩, c⟩
  | succ n ih =>
    intro x T d h
    rcases h with h | ⟨y, w, d1, d2, T1, T2, ⟨a1, a2⟩, ⟨a3, a4⟩, ⟨a5, a6⟩, a7, a8, a9, b1⟩
    · obtain ⟨a, b, c⟩ := h.va
      exact ⟨a, [(Vn9 z x, x)], Or.inl ⟨b, rfl⟩, c⟩
    · obtain ⟨v1, Z1, p1, t1⟩ := ih a9
      obtain ⟨v2, Z2, p2, t2⟩ := ih b1
      have e : Vn9 z x = s_X0_make (nI 2) (nI x) := by unfold Vn9; rw [if_pos a2]
      have g1 : (gst z).2.1 31 x = Vn9 z y := by
        show Vn9 z (z.1 31 x).toNatClampNeg = _
        rw [tn_of a3]
      have g2 : (gst z).2.1 32 x = Vn9 z w := by
        show Vn9 z (z.1 32 x).toNatClampNeg = _
        rw [tn_of a4]
      have hl : T.length = 1 + T1.length + T2.length := by rw [a7, List.length_cons, List.length_append]; omega
      refine ⟨?_, (Vn9 z x, x) :: (Z1 ++ Z2), Or.inr ⟨x, y, w, Z1, Z2, e, a1, a2, a3, a4, rfl, by rw [g1]; exact p1, by rw [g2]; exact p2⟩, ?_⟩
      · rw [e, hl, a8]
        refine Vt7.node (y := y) (z := w) ⟨a1, a1⟩ ⟨a2, a3, a4⟩ ⟨⟨a5, a6⟩, a5, a6⟩ ?_ ?_
        · rw [g1]; exact v1
        · rw [g2]; exact v2
      · show tok (Vn9 z x) :: tks (zr9 (Z1 ++ Z2)) = T
        rw [e, tok_pr9, zr9_app, tks_app, t1, t2, a7]
def prt (S : List Int64) (j : Nat) : List Int64 := (S.drop (bh9 S j)).take (bh9 (S.drop (bh9 S j)) 1)
def Bt9 (S : List Int64) (m : Nat) (z : Mem) : Prop := ∀ j, j < m → ∃ x g d, (z.1 35 (m - 1 - j)).toInt = ((x : Nat) : Int) ∧ Tn9 z g x (prt S j) d
theorem prt_0 {t : Int64} {S : List Int64} (ht : t ≠ 8589934592) : prt (t :: S) 0 = [t] := by
  unfold prt
  rw [bh9_0]
  show (t :: S).take (bh9 (t :: S) 1) = [t]
  rw [bh9_cons ht]; rfl
theorem prt_s {t : Int64} {S : List Int64} (ht : t ≠ 8589934592) (j : Nat) : prt (t :: S) (j + 1) = prt S j := by
  unfold prt
  rw [Nat.add_comm j 1, bh9_add, bh9_cons ht]
  show ((t :: S).drop (1 + bh9 S j)).take (bh9 ((t :: S).drop (1 + bh9 S j)) 1) = _
  rw [Nat.add_comm 1, List.drop_succ_cons]
theorem bh9_p {S : List Int64} (k : Nat) : bh9 (8589934592 :: S) (k + 1) = bh9 S (k + 2) + 1 := by
  show (if k + 1 = 0 then 0 else 1 + bh9 S (if (8589934592 : Int64) = 8589934592 then k + 1 + 1 else _)) = _
  rw [if_neg (by omega), if_pos rfl]
  show 1 + bh9 S (k + 2) = _
  omega
theorem prt_p0 {S : List Int64} : prt (8589934592 :: S) 0 = 8589934592 :: (prt S 0 ++ prt S 1) := by
  unfold prt
  rw [bh9_0]
  show (8589934592 :: S).take (bh9 (8589934592 :: S) (0 + 1)) = _
  rw [bh9_p, List.take_succ_cons, bh9_0]
  show _ :: S.take (bh9 S (1 + 1)) = _ :: (S.take (bh9 S 1) ++ _)
  rw [bh9_add, List.take_add]
theorem prt_ps {S : List Int64} (j : Nat) : prt (8589934592 :: S) (j + 1) = prt S (j + 2) := by
  unfold prt
  rw [bh9_p, List.drop_succ_cons]
theorem bt_leaf {S : List Int64} {m x g d : Nat} {z z2 : Mem} {t : Int64} (h : Bt9 S m z) (ht : t ≠ 8589934592) (gz : Gh7 z z2) (hz : ∀ k, k < m → z2.1 35 k = z.1 35 k) (hx : (z2.1 35 m).toInt = (x : Int)) (hv : Tn9 z2 g x [t] d) : Bt9 (t :: S) (m + 1) z2 := by
  intro j hj
  cases j with
  | zero => exact ⟨x, g, d, hx, by rw [prt_0 ht]; exact hv⟩
  | succ j =>
    obtain ⟨y, g2, e, h1, h2⟩ := h j (by omega)
    have e1 : m + 1 - 1 - (j + 1) = m - 1 - j := by omega
    exact ⟨y, g2, e, by rw [e1, hz _ (by omega)]; exact h1, by rw [prt_s ht]; exact h2.gr gz⟩
theorem bt_pair {S : List Int64} {m x g d : Nat} {z z2 : Mem} (h : Bt9 S (m + 2) z) (gz : Gh7 z z2) (hz : ∀ k, k < m → z2.1 35 k = z.1 35 k) (hx : (z2.1 35 m).toInt = (x : Int)) (hv : Tn9 z2 g x (8589934592 :: (prt S 0 ++ prt S 1)) d) : Bt9 (8589934592 :: S) (m + 1) z2 := by
  intro j hj
  cases j with
  | zero => exact ⟨x, g, d, hx, by rw [prt_p0]; exact hv⟩
  | succ j =>
    obtain ⟨y, g2, e, h1, h2⟩ := h (j + 2) (by omega)
    have e0 : m + 2 - 1 - (j + 2) = m - 1 - j := by omega
    rw [e0] at h1
    have e1 : m + 1 - 1 - (j + 1) = m - 1 - j := by omega
    exact ⟨y, g2, e, by rw [e1, hz _ (by omega)]; exact h1, by rw [prt_ps]; exact h2.gr gz⟩
theorem prt_len {S : List Int64} {j : Nat} : (prt S j).length ≤ S.length := by
  unfold prt
  rw [List.length_take, List.length_drop]
  omega
theorem b73_one {K : Int32 → Int32 → Int32 → Mem → Option Mem} {a1 v a3 : Int32} {μ : Mem} : bd (p_X12_node 3 v μ) (fun r14 μ13 => p_X12_buildTask_b73 K a1 v a3 r14 μ13) = bw (p_X12_buildOne 3 v μ) (fun μ15 => p_X12_buildTask_b76 K a1 v a3 μ15) := by
  rw [p_X12_buildOne_eq, if_neg (by decide)]
  cases p_X12_node 3 v μ with
  | none => rfl
  | some r =>
    show p_X12_buildTask_b73 K a1 v a3 r.1 r.2 = bw (bw (p_X12_build r.1 r.2) (fun μ12 => some μ12)) _
    rw [p_X12_buildTask_b73_eq, bw_id]
theorem m_bt {T : List Tkn} {n : Nat} {z0 : Mem} {Q : Mem → Prop} (h30 : T.length ≤ 30) (hTv : ∀ x, x ∈ T → Tv x) (hw : Wf9 (T.map tkl) n) (hL : Lr5 z0 25 T) (fin : ∀ z, Bt9 (T.map tkl) n z → Zb9 z0 z → (z.1 0 58).toInt = (n : Int) → pk (p_X12_buildTask_b84 FUEL 0 z) Q) : ∀ (i f : Nat) (a2 a3 : Int32) (m : Nat) (z : Mem), i ≤ T.length → a3.toInt = (i : Int) - 1 → (z.1 0 58).toInt = (m : Int) → Wf9 ((T.map tkl).drop i) m → Bt9 ((T.map tkl).drop i) m z → Zb9 z0 z → pk (p_X12_buildTask_b17 f 0 a2 a3 z) Q := by
  intro i
  induction i with
  | zero =>
    intro f a2 a3 m z _ h3 h58 hm hB fz
    cases f with
    | zero => intro r e; rw [p_X12_buildTask_b17_z] at e; cases e
    | succ f =>
      rw [p_X12_buildTask_b17_s, if_pos (lt0 h3)]
      have : m = n := wf9_det hm hw
      subst this
      exact fin z hB fz h58
  | succ i ih =>
    intro f a2 a3 m z hi h3 h58 hm hB fz
    cases f with
    | zero => intro r e; rw [p_X12_buildTask_b17_z] at e; cases e
    | succ f =>
    have h3' : a3.toInt = (i : Int) := by omega
    have hT : T[i]? = some T[i] := List.getElem?_eq_getElem (by omega)
    have hMl : i < (T.map tkl).length := by rw [List.length_map]; omega
    have hd : (T.map tkl).drop i = tkl T[i] :: (T.map tkl).drop (i + 1) := by
      rw [List.drop_eq_getElem_cons (l := T.map tkl) (i := i) hMl, List.getElem_map]
    have hmem : T[i] ∈ T := List.getElem_mem _
    generalize T[i] = x at hT hd hmem
    have hv := hTv x hmem
    have tk := tkl_tk hv
    obtain ⟨m', hm'⟩ := wf9_drop i hw (by omega)
    rw [hd] at hm'
    obtain ⟨w0, w1⟩ := hm'
    have hmm := wf9_det w1 hm
    have hml := wf9_len hm
    rw [List.length_drop, List.length_map] at hml
    obtain ⟨r25, r26⟩ := hL i x hT
    have k25 : z.1 25 i = x.1 := by rw [fz.2.1 25 i (by decide) (by omega)]; exact r25
    have k26 : z.1 26 i = x.2 := by rw [fz.2.1 26 i (by decide) (by omega)]; exact r26
    have n3 := dec1 h3'
    have nx : ∀ (m2 : Nat) (z2 : Mem) (a2' : Int32), Wf9 (tkl x :: (T.map tkl).drop (i + 1)) m2 → Bt9 (tkl x :: (T.map tkl).drop (i + 1)) m2 z2 → Zb9 z0 z2 → (z2.1 0 58).toInt = (m2 : Int) → pk (p_X12_buildTask_b76 (p_X12_buildTask_b17 f) 0 a2' a3 z2) Q := by
      intro m2 z2 a2' e1 e2 e3 e4
      rw [p_X12_buildTask_b76_eq]
      exact pk_bvs (ih f a2' (a3 + (-1)) m2 z2 (by omega) n3 e4 (by rw [hd]; exact e1) (by rw [hd]; exact e2) e3)
    rw [p_X12_buildTask_b17_s, if_neg (nlt0 h3'), tn_of h3', k25, k26]
    refine pk_gd (fun _ => ?_)
    by_cases c3 : x.1 = 3
    · rw [if_pos c3]
      have ht : tkl x = 17179869184 := (tk_st tk).mpr c3
      have htp : tkl x ≠ 8589934592 := by rw [ht]; decide
      rw [if_neg htp] at hmm
      refine pk_bvs ?_
      rw [if_pos rfl, b73_one]
      refine pk_bw (m_oneL (h := m) (by decide) h58) (fun z2 hz2 => ?_)
      obtain ⟨y, z1, hN, fz2, g12, x1, x2, x3, x4, x5⟩ := hz2
      refine nx (m + 1) z2 _ ⟨by omega, by rw [if_neg htp]; exact hm⟩ (bt_leaf (g := 0) (d := 0) hB htp fz2.2.2.2 (fun k hk => x2 k (by omega)) x1 ?_) (fz.tr fz2) x3
      have hl : Lf9 z1 y [tkl x] 0 := ⟨by rw [tn_of hN.2.2.1]; omega, ⟨3, _, Or.inr (Or.inr rfl), hN.2.2.2.1, hN.2.2.2.2.1, by rw [if_pos rfl, ht]⟩, hN.2.2.2.2.2.1, hN.2.2.2.2.2.2.1, rfl⟩
      exact hl.gr g12
    · rw [if_neg c3]
      refine pk_gd (fun _ => pk_gd (fun _ => ?_))
      by_cases c2 : x.1 = 2
      · have ht : tkl x = 8589934592 := (tk_pt tk).mpr c2
        rw [if_pos ht] at hmm
        obtain ⟨l, rfl⟩ : ∃ l, m = l + 2 := ⟨m - 2, by omega⟩
        rw [c2]
        obtain ⟨y1, g1, d1, hx1, t1⟩ := hB 0 (by omega)
        obtain ⟨y2, g2, d2, hx2, t2⟩ := hB 1 (by omega)
        have i0 : l + 2 - 1 - 0 = l + 1 := by omega
        have i1 : l + 2 - 1 - 1 = l := by omega
        rw [i0] at hx1
        rw [i1] at hx2
        have l1 := prt_len (S := (T.map tkl).drop (i + 1)) (j := 0)
        have l2 := prt_len (S := (T.map tkl).drop (i + 1)) (j := 1)
        rw [List.length_drop, List.length_map] at l1 l2
        refine pk_bw (m_oneP (h := l) h58 hx1 hx2 (tn_va t1).1 (tn_va t2).1 (by omega)) (fun z2 hz2 => ?_)
        obtain ⟨p, z1, ⟨k1, k2, k3, k4, k5, k6⟩, gz1, gz2, fz2, x1, x2, x3⟩ := hz2
        rw [ht] at nx
        refine nx (l + 1) z2 _ ⟨by omega, by rw [if_pos rfl]; exact hm⟩ (bt_pair (g := max g1 g2 + 1) (d := 1 + max d1 d2) hB fz2.2.2.2 (fun k hk => x2 k (by omega)) x1 (Tn9.gr gz2 ?_)) (fz.tr fz2) x3
        refine Or.inr ⟨y1, y2, d1, d2, _, _, ⟨by rw [tn_of k1]; omega, k2⟩, ⟨by rw [k3]; exact hx1, by rw [k4]; exact hx2⟩, ⟨k5, k6⟩, rfl, rfl, ((t1.gr gz1).le (by omega)), ((t2.gr gz1).le (by omega))⟩
      · have htp : tkl x ≠ 8589934592 := tkl_npt hv c2
        rw [if_neg htp] at hmm
        have h01 : x.1 = 0 ∨ x.1 = 1 := by
          rcases hv with h | h | h | h
          · exact Or.inl h
          · exact Or.inr h
          · exact absurd (by rw [h]) c2
          · exact absurd (by rw [h]) c3
        refine pk_bw (m_oneL (h := m) c2 h58) (fun z2 hz2 => ?_)
        obtain ⟨y, z1, hN, fz2, g12, x1, x2, x3, x4, x5⟩ := hz2
        refine nx (m + 1) z2 _ ⟨by omega, by rw [if_neg htp]; exact hm⟩ (bt_leaf (g := 0) (d := 0) hB htp fz2.2.2.2 (fun k hk => x2 k (by omega)) x1 ?_) (fz.tr fz2) x3
        obtain ⟨mm, hmm2, e⟩ : ∃ mm : Nat, (mm = 0 ∨ mm = 1) ∧ x.1 = nI mm := by
          rcases h01 with h | h
          · exact ⟨0, Or.inl rfl, h⟩
          · exact ⟨1, Or.inr rfl, h⟩
        have hl : Lf9 z1 y [tkl x] 0 := ⟨by rw [tn_of hN.2.2.1]; omega, ⟨mm, x.2, by omega, by rw [hN.2.2.2.1, e], hN.2.2.2.2.1, by rw [if_neg (by omega), tkl_num h01, e]⟩, hN.2.2.2.2.2.1, hN.2.2.2.2.2.2.1, rfl⟩
        exact hl.gr g12
end

section
theorem as_of {z : Mem} {T : List Int64} : ∀ n, (∀ k, k < n → ∃ x g d, (z.1 45 k).toInt = ((x : Nat) : Int) ∧ Tn9 z g x (prt T k) d) → ∃ As : List (Int64 × Nat × List (Int64 × Nat)), As.length = n ∧ (∀ k p, As[k]? = some p → (z.1 45 k).toInt = (p.2.1 : Int)) ∧ (∀ p, p ∈ As → Wt9 (gst z) z p) ∧ tks (zr9 (fl9 As)) = T.take (bh9 T n) := by
  intro n
  induction n with
  | zero => intro _; exact ⟨[], rfl, fun k p hk => (by cases hk), fun p hp => (by cases hp), by rw [bh9_0]; rfl⟩
  | succ n ih =>
    intro h
    obtain ⟨As, a1, a2, a3, a4⟩ := ih (fun k hk => h k (by omega))
    obtain ⟨x, g, d, hx, ht⟩ := h n (by omega)
    obtain ⟨hv, Z, hp, hz⟩ := tn_va ht
    refine ⟨As ++ [(Vn9 z x, x, Z)], by rw [List.length_append, a1]; rfl, fun k p hk => ?_, fun p hp2 => ?_, ?_⟩
    · rcases Nat.lt_or_ge k n with c | c
      · rw [List.getElem?_append_left (by omega)] at hk; exact a2 k p hk
      · rw [List.getElem?_append_right (by omega), a1] at hk
        have hl := lt_some hk
        have : k = n := by
          have : k - n < 1 := hl
          omega
        subst this
        rw [Nat.sub_self] at hk
        have : (Vn9 z x, x, Z) = p := Option.some.inj hk
        rw [← this]; exact hx
    · rcases List.mem_append.mp hp2 with e | e
      · exact a3 p e
      · rw [List.mem_singleton.mp e]
        exact ⟨⟨g, hp⟩, _, d, hv⟩
    · have e : fl9 (As ++ [(Vn9 z x, x, Z)]) = fl9 As ++ Z := by unfold fl9; simp
      rw [e, zr9_app, tks_app, a4, hz, bh9_add, List.take_add]
      rfl
theorem m_b84 {n : Nat} {z0 : Mem} (hn5 : n ≤ 5) (h43 : (z0.1 0 43).toInt = (n : Int)) : ∀ (l j f : Nat) (a3 : Int32) (y : Mem), j + l = n → a3.toInt = (j : Int) → y.2 = z0.2 → (∀ i k, i ≠ 45 → ¬ (i = 0 ∧ k = 58) → y.1 i k = z0.1 i k) → (y.1 0 58).toInt = ((n - j : Nat) : Int) → (∀ k, k < j → y.1 45 k = z0.1 35 (n - 1 - k)) → pk (p_X12_buildTask_b84 f a3 y) (fun r => r.2 = z0.2 ∧ (∀ i k, i ≠ 45 → ¬ (i = 0 ∧ k = 58) → r.1 i k = z0.1 i k) ∧ ∀ k, k < n → r.1 45 k = z0.1 35 (n - 1 - k)) := by
  have e1 : (1 : Int32).toInt = 1 := by decide
  intro l
  induction l with
  | zero =>
    intro j f a3 y hj h3 y1 y2 y3 y4
    cases f with
    | zero => intro r e; rw [p_X12_buildTask_b84_z] at e; cases e
    | succ f =>
      rw [p_X12_buildTask_b84_s, if_pos (by rw [ti_le, y2 0 43 (by decide) (by omega), h43, h3]; omega)]
      exact pk_some ⟨y1, y2, fun k hk => y4 k (by omega)⟩
  | succ l ih =>
    intro j f a3 y hj h3 y1 y2 y3 y4
    cases f with
    | zero => intro r e; rw [p_X12_buildTask_b84_z] at e; cases e
    | succ f =>
      have hy := ti_hi (y.1 0 58)
      rw [p_X12_buildTask_b84_s, if_neg (by rw [ti_le, y2 0 43 (by decide) (by omega), h43, h3]; omega)]
      refine pk_bdv (m_unbuild (h := n - 1 - j) (by rw [y3]; congr 1; omega)) (pk_gd (fun _ => pk_bvs (pk_bvs ?_)))
      rw [tn_of h3]
      refine ih (j + 1) f _ _ (by omega) (inc1 h3 (by omega)) y1 (fun i k c1 c2 => by rw [sF_i c1, sF_at, if_neg c2]; exact y2 i k c1 c2) ?_ (fun k hk => ?_)
      · rw [sF_i (by decide), sF_v, ti_sub (by omega) (by omega), y3, e1]; omega
      · by_cases c : k = j
        · rw [c, sF_v]; exact y2 35 _ (by decide) (by omega)
        · rw [sF_k c, sF_i (by decide)]; exact y4 k (by omega)
theorem m_taskRow {T : List Tkn} {n : Nat} {z0 : Mem} {K : Mem → Option Mem} {Q : Mem → Prop} (h30 : T.length ≤ 30) (hTv : ∀ x, x ∈ T → Tv x) (hw : Wf9 (T.map tkl) n) (hn5 : n ≤ 5) (hL : Lr5 z0 25 T) (h43 : (z0.1 0 43).toInt = (n : Int)) (h44 : (z0.1 0 44).toInt = (T.length : Int)) (hK : ∀ (z : Mem) (R : Rw9), Pm9 R z → tks R = T.map tkl → z.2 = z0.2 → (∀ k, k ≠ 56 → k ≠ 58 → k ≠ 118 → z.1 0 k = z0.1 0 k) → (∀ i k, i ≠ 0 → ¬ (30 ≤ i ∧ i ≤ 35) → i ≠ 45 → i ≠ 55 → ¬ (67 ≤ i ∧ i ≤ 69) → z.1 i k = z0.1 i k) → pk (K z) Q) : pk (bw (p_X12_buildTask 0 z0) (fun μ13 => bw (p_X12_layMade (μ13.1 0 43) μ13) K)) Q := by
  have e0 : (0 : Int32).toInt = ((0 : Nat) : Int) := by decide
  have e1 : (1 : Int32).toInt = 1 := by decide
  refine pk_bw (P := fun r => ∃ z, Bt9 (T.map tkl) n z ∧ Zb9 z0 z ∧ r.2 = z.2 ∧ (∀ i k, i ≠ 45 → ¬ (i = 0 ∧ k = 58) → r.1 i k = z.1 i k) ∧ ∀ k, k < n → r.1 45 k = z.1 35 (n - 1 - k)) ?_ ?_
  · rw [p_X12_buildTask_eq]
    refine pk_bvs (pk_bvs (pk_bvs ?_))
    have k44 : (sF z0 0 58 0).1 0 44 = z0.1 0 44 := sF_k (by decide)
    refine m_bt (z0 := z0) h30 hTv hw hL (fun z hB fz h58 => ?_) T.length FUEL _ _ 0 _ (Nat.le_refl _) ?_ ?_ ?_ ?_ zb9_un
    · exact pk_mono (m_b84 (z0 := z) hn5 (by rw [fz.2.2.1 43 (by decide) (by decide)]; exact h43) n 0 FUEL 0 z (by omega) e0 rfl (fun _ _ _ _ => rfl) (by rw [h58]; rfl) (fun k hk => absurd hk (by omega))) (fun r hr => ⟨z, hB, fz, hr⟩)
    · rw [k44, ti_sub (by rw [h44, e1]; omega) (by rw [h44, e1]; omega), h44, e1]
    · rw [sF_v]; exact e0
    · rw [List.drop_eq_nil_of_le (by rw [List.length_map]; exact Nat.le_refl _)]; rfl
    · intro j hj; exact absurd hj (by omega)
  · rintro r ⟨z, hB, fz, y1, y2, y3⟩
    have gzr : Gh7 z r := gh_same (y2 0 56 (by decide) (by omega)) (fun i k a b => y2 i k (by omega) (by omega))
    have r43 : r.1 0 43 = z0.1 0 43 := by rw [y2 0 43 (by decide) (by omega), fz.2.2.1 43 (by decide) (by decide)]
    obtain ⟨As, hl, h45, hW, htk⟩ := as_of (z := r) (T := T.map tkl) n (fun k hk => by
      obtain ⟨x, g, d, hx, ht⟩ := hB k hk
      exact ⟨x, g, d, by rw [y3 k hk]; exact hx, ht.gr gzr⟩)
    have hbl : bh9 (T.map tkl) n = (T.map tkl).length := by
      have := bh9_app (S := []) hw
      rw [List.append_nil] at this; exact this
    rw [hbl, List.take_length] at htk
    have hfl : (fl9 As).length ≤ 200 := by
      have := congrArg List.length htk
      rw [tks_len, zr9_len, List.length_map] at this
      omega
    rw [r43, p_X12_layMade_eq]
    have i1 : ∀ i k, ¬ (i = 0 ∧ k = 118) → (sF r 0 118 0).1 i k = r.1 i k := fun i k hk => by rw [sF_at, if_neg hk]
    have key : pk (bv (sF r 0 118 0) (fun μ1 => bv (z0.1 0 43 - 1) (fun v2 => p_X12_layMade_b11 FUEL 0 v2 μ1))) (fun w => Pm9 (zr9 (fl9 As)) w ∧ w.2 = r.2 ∧ ∀ i k, i ≠ 55 → ¬ (i = 0 ∧ k = 118) → ¬ (67 ≤ i ∧ i ≤ 69) → w.1 i k = r.1 i k) := by
      refine pk_bvs (pk_bvs ?_)
      refine m_lay (μx := gst r) (μ0 := r) As (by omega) hW hfl n FUEL 0 (z0.1 0 43 - 1) (sF r 0 118 0) (by omega) (by rw [ti_sub (by rw [h43, e1]; omega) (by rw [h43, e1]; omega), h43, e1]) (by rw [hl, Nat.sub_self]; exact e0) (by rw [sF_v]; decide) (fun j p hj => by rw [i1 45 j (by omega)]; exact h45 j p hj) (by rw [← hl, List.drop_length]; trivial) (fun i k a b => i1 i k (by omega)) (i1 0 56 (by omega)) (fun μ' w a1 a2 hb => ?_)
      obtain ⟨b1, b2, b3, b4⟩ := hb
      refine ⟨⟨by rw [b2, zr9_len]; congr 1; omega, fun k p hk => ?_⟩, by rw [b1, a2]; rfl, fun i k c1 c2 c3 => by rw [b3 i k c1 c2 (by omega), a1 i k c1, i1 i k c2]⟩
      unfold zr9 at hk
      rw [List.getElem?_map] at hk
      cases hf : (fl9 As)[k]? with
      | none => rw [hf] at hk; cases hk
      | some x =>
        rw [hf] at hk
        have : (tok x.1, x.1, x.2) = p := Option.some.inj hk
        subst this
        have := b4 k x hf
        rw [Nat.zero_add] at this
        exact this
    refine pk_bw key (fun w hw2 => ?_)
    obtain ⟨p1, p2, p3⟩ := hw2
    refine hK w _ p1 htk (by rw [p2, y1, fz.1]) (fun k c1 c2 c3 => by rw [p3 0 k (by decide) (by omega) (by omega), y2 0 k (by decide) (by omega), fz.2.2.1 k c1 c2]) (fun i k c1 c2 c3 c4 c5 => by rw [p3 i k c4 (by omega) c5, y2 i k c3 (by omega), fz.2.1 i k c1 c2])
end

section
theorem c_clear9 (μ : Mem) : pk (p_X5_clear μ) (fun q => q.2 = μ.2 ∧ (∀ i k, ¬ (i = 39 ∧ k ≤ 6) → q.1 i k = μ.1 i k) ∧ ∀ k, k ≤ 6 → q.1 39 k = 0) := by
  rw [p_X5_clear_eq]
  refine pk_bvs (pk_bvs (pk_bvs (pk_bvs (pk_bvs (pk_bvs (pk_bvs (pk_some ⟨rfl, fun i k hk => ?_, fun k hk => ?_⟩)))))))
  · rw [sF_at, if_neg (by omega), sF_at, if_neg (by omega), sF_at, if_neg (by omega), sF_at, if_neg (by omega), sF_at, if_neg (by omega), sF_at, if_neg (by omega), sF_at, if_neg (by omega)]
  · rw [sF_at, sF_at, sF_at, sF_at, sF_at, sF_at, sF_at]
    have : k = 0 ∨ k = 1 ∨ k = 2 ∨ k = 3 ∨ k = 4 ∨ k = 5 ∨ k = 6 := by omega
    rcases this with e | e | e | e | e | e | e <;> subst e <;> simp
theorem ask_wf {μx μm : Mem} (h : Ask5 μx μm) : ∃ (L : List Tkn) (l : Int32) (j : Nat), isL l = true ∧ j ≤ 5 ∧ μm.1 0 42 = l - 97 + 1 ∧ (μm.1 0 43).toInt = (j : Int) ∧ (μx.1 (sel 1 (μx.2.2 0 6)) 3).toInt = (ky (l, j) : Int) ∧ PL μx (sel 1 (μx.2.2 0 6)) L ∧ (μm.1 0 44).toInt = (L.length : Int) ∧ Lr5 μm 25 L ∧ Wf9 (L.map tkl) j ∧ stc L ≤ 8 := by
  obtain ⟨L, h1, h2, h3, h4, h5, h6⟩ := h
  obtain ⟨l, j, a1, a2, a3, a4, a5, a6⟩ : ∃ (l : Int32) (j : Nat), isL l = true ∧ j ≤ 5 ∧ μm.1 0 42 = l - 97 + 1 ∧ (μm.1 0 43).toInt = (j : Int) ∧ Wf9 (L.map tkl) j ∧ stc L ≤ 8 := by
    rcases h6 with ⟨e1, e2, e3⟩ | ⟨t, n, j, e1, e2, e3⟩
    · subst e1
      exact ⟨97, 0, by decide, by omega, by rw [e2]; decide, by rw [e3]; decide, rfl, Nat.zero_le _⟩
    · obtain ⟨b1, b2, b3, b4⟩ := rtL_wf e1
      exact ⟨hr t n 0, j, b1, b4, e2, e3, b2, b3⟩
  refine ⟨L, l, j, a1, a2, a3, a4, ?_, h1, h3, h4, a5, a6⟩
  have hrr := isL_r a1
  have d0 : (97 : Int32).toInt = 97 := by decide
  have e1 : (1 : Int32).toInt = 1 := by decide
  have d1 : (l - 97).toInt = l.toInt - 97 := by rw [ti_sub (by omega) (by omega), d0]
  have d2 : (l - 97 + 1).toInt = l.toInt - 97 + 1 := by rw [ti_add (by omega) (by omega), d1, e1]
  have d3 : (l - 97 + 1 - 1).toInt = l.toInt - 97 := by rw [ti_sub (by omega) (by omega), d2, e1]; omega
  have d4 : ((l - 97 + 1 - 1) * 6).toInt = (l.toInt - 97) * 6 := by rw [ti_mulc (n := 6) (by decide) (by omega) (by omega), d3]
  rw [h2, a3, ti_add (by omega) (by omega), d4, a4]
  unfold ky
  show _ = (((l.toInt - 97).toNat * 6 + j : Nat) : Int)
  omega
theorem rw_sym : ∀ (R : Rw9) (f : Nat → Int64), ∃ R' : Rw9, R'.length = R.length ∧ (∀ k p, R[k]? = some p → R'[k]? = some (p.1, f k, p.2.2)) ∧ tks R' = tks R := by
  intro R
  induction R with
  | nil => intro f; exact ⟨[], rfl, fun k p hk => (by cases hk), rfl⟩
  | cons a R ih =>
    intro f
    obtain ⟨R', h1, h2, h3⟩ := ih (fun k => f (k + 1))
    refine ⟨(a.1, f 0, a.2.2) :: R', by rw [List.length_cons, List.length_cons, h1], fun k p hk => ?_, ?_⟩
    · cases k with
      | zero =>
        have : a = p := by simpa using hk
        rw [← this]; rfl
      | succ k => exact h2 k p (by simpa using hk)
    · show a.1 :: tks R' = a.1 :: tks R
      rw [h3]
theorem ns9_ns8 {R : Rw9} : ns9 R = ns8 (tks R) := by
  unfold ns9 ns8 tks
  rw [List.filter_map, List.length_map]
  rfl
theorem hv9_short {T : List Int64} {n : Nat} (h : T.length ≤ 40) : Hv9 T n := by
  intro j _
  have := bh9_le (T := T.drop (bh9 T j)) (n := 1)
  rw [List.length_drop] at this
  omega
theorem vs_zero {P : Nat} {C : List Th3} {G G1 G2 : List Fn5} {f : Fn5} {q5 z9 z15 μ9 z17 : Mem} {tp n : Nat} {R : Rw9} {T : List Int64} {key fi : Int32} (hT : tks R = T) (h40 : T.length ≤ 40) (hTk : ∀ t, t ∈ T → Tk8 t) (hw : Wf9 T n) (h8 : ns8 T ≤ 8) (hP : Pm9 R z15) (hpx : Px9 tp R q5) (hPr : Pr8 q5 z9 P C G) (hL : Lim9 q5 z9) (hsu : Su5 q5) (hlv : Lv9 q5) (hG : G = G1 ++ f :: G2) (hfi : fi.toInt = (G2.length : Int)) (hn : f.2.1.length = n) (hkey : key.toInt = (ky (fkey f) : Int)) (q39 : ∀ k, k ≤ 6 → q5.1 39 k = 0) (q6 : q5.1 137 6 = 0) (z0 : ∀ k, k = 68 ∨ k = 87 ∨ k = 88 ∨ k = 89 ∨ k = 91 ∨ k = 96 ∨ k = 97 ∨ k = 110 → z9.1 0 k = 0) (f0 : ∀ k, k ≠ 56 → k ≠ 58 → k ≠ 118 → z15.1 0 k = z9.1 0 k) (fi' : ∀ i k, i ≠ 0 → ¬ (30 ≤ i ∧ i ≤ 35) → i ≠ 45 → i ≠ 55 → ¬ (67 ≤ i ∧ i ≤ 69) → z15.1 i k = z9.1 i k) (hx : Nv9 0 (tks R) key (-1) (cn9 (fun k => decide (s_X0_kind (q5.2.1 (tp + 1) k) = 4)) 0 R.length 0) q5 μ9) (hm : Nm9 0 R.length fi (-1) z15 z17) : VS9 P C G 0 [] [] (fun _ => False) μ9 z17 := by
  have e0 : (0 : Int32).toInt = ((0 : Nat) : Int) := by decide
  have e0' : (0 : Int32).toInt = 0 := by decide
  have hlen : R.length = T.length := by rw [← hT, tks_len]
  have hKw : Kw (G.map fkey) := hPr.2.2.2.2.1
  have hPn : Pn5 z9 G := hPr.2.2.2.2.2.2.2.1
  have hfG : f ∈ G := by rw [hG]; simp
  have kf : Kv (fkey f) := hKw.2 _ (List.mem_map.mpr ⟨f, hfG, rfl⟩)
  have hfl : G2.length < G.length := by rw [hG, List.length_append, List.length_cons]; omega
  obtain ⟨c1, c2⟩ : z9.1 2 G2.length = f.1 - 97 + 1 ∧ (z9.1 3 G2.length).toInt = (f.2.1.length : Int) := by
    obtain ⟨_, _, hk6⟩ := hPn
    rw [hG] at hk6
    obtain ⟨⟨c1, c2, _⟩, _⟩ := hk6.tail
    exact ⟨c1, c2⟩
  have k2 : z15.1 2 G2.length = z9.1 2 G2.length := fi' 2 _ (by decide) (by omega) (by decide) (by decide) (by omega)
  have k3 : z15.1 3 G2.length = z9.1 3 G2.length := fi' 3 _ (by decide) (by omega) (by decide) (by decide) (by omega)
  have hpa0 : Pa7 q5 z15 G := ⟨0, by rw [q39 2 (by decide)]; exact e0, by rw [f0 110 (by decide) (by decide) (by decide), z0 110 (by omega)]; exact e0, by omega, fun u hu => absurd hu (by omega)⟩
  have hst : ∀ k, k < R.length → (fun k => decide (s_X0_kind (q5.2.1 (tp + 1) k) = 4)) k = decide (z15.1 67 k = 3) := fun k hk => by
    have := kind4 hpx hP k _ (List.getElem?_eq_getElem hk)
    exact this.1.trans this.2.symm
  have hcn : (cn9 (fun k => decide (s_X0_kind (q5.2.1 (tp + 1) k) = 4)) 0 R.length 0).toInt ≤ 8 := by
    rw [cn9_ns (by omega) (fun k p hk => (kind4 hpx hP k p hk).1), ns9_ns8, hT]; omega
  have hPa : Pa7 μ9 z17 G := Pa7.new (n := n) (f := G2.length) hpa0 (by rw [q39 2 (by decide)]; exact e0) (by omega) (by omega) hP ⟨by rw [hT]; exact hw, by rw [hT]; exact hv9_short h40⟩ hfi hfl (by rw [k2, k3, hkey, ky_w kf c1 c2]) (by rw [k3, c2, hn]) (Or.inl rfl) hst hcn hx hm
  obtain ⟨x1, ⟨x2, x2'⟩, x3, ⟨x4, x5, x6, x7⟩, x8, ⟨x9, x10, x11⟩, x12⟩ := hx
  obtain ⟨m1, m2, m3, ⟨m4, m5, m6, m7⟩, m8⟩ := hm
  have o : ∀ i k, i ≠ 39 → i ≠ 45 → i ≠ 47 → μ9.1 i k = q5.1 i k := fun i k a b c => x3 i k a b (by omega)
  have w0 : ∀ k, k ≠ 56 → k ≠ 58 → k ≠ 118 → k ≠ 110 → z17.1 0 k = z9.1 0 k := fun k a b c d => by rw [m3 0 k (by omega) (by omega) (by omega), f0 k a b c]
  have wi : ∀ i k, i ≠ 0 → ¬ (30 ≤ i ∧ i ≤ 35) → i ≠ 45 → i ≠ 55 → ¬ (67 ≤ i ∧ i ≤ 69) → ¬ (57 ≤ i ∧ i ≤ 61) → i ≠ 66 → z17.1 i k = z9.1 i k := fun i k a b c d e g h => by rw [m3 i k (by omega) (by omega) (by omega), fi' i k a b c d e]
  have hP9 : P = 2 ∨ P = 9 := hPr.1
  refine ⟨⟨by rw [x2' 1 (by decide), q39 1 (by decide)]; exact e0, by rw [w0 89 (by decide) (by decide) (by decide) (by decide), z0 89 (by omega)]; exact e0, Nat.zero_le _, 0, 0, by rw [w0 87 (by decide) (by decide) (by decide) (by decide), z0 87 (by omega)]; exact e0, by rw [w0 88 (by decide) (by decide) (by decide) (by decide), z0 88 (by omega)]; exact e0, fun i p hi => by cases hi⟩, ⟨rfl, fun b hb => ?_, fun x hx => (by cases hx), fun x hx => hx.elim, by rw [x2' 6 (by decide), q39 6 (by decide)]; decide, by rw [x2]; omega⟩, ⟨by rw [o 137 6 (by decide) (by decide) (by decide)]; exact q6, by rw [w0 68 (by decide) (by decide) (by decide) (by decide), z0 68 (by omega)]⟩, ?_, ?_, ?_, hsu.of x1, fun u hu => ?_, ⟨?_, ?_, ?_⟩, fun k hk => ?_, fun u hu => absurd hu (by omega), ⟨List.nodup_nil, fun p hp => (by cases hp), fun p hp => ?_⟩, fun k hk => ?_, fun h => absurd h (by omega), fun u hu => absurd hu (by omega), fun h => absurd h (by omega), fun _ => ?_⟩
  · rw [x2' 6 (by decide), q39 6 (by decide), e0'] at hb; omega
  · exact hPr.of (by rw [x1]) (fun i k a b => o i k (by omega) (by omega) (by omega)) (fun k hk => w0 k (by omega) (by omega) (by omega) (by omega)) (fun i k a b => wi i k (by omega) (by omega) (by omega) (by omega) (by omega) (by omega) (by omega)) (bh_cong hPr.2.2.2.2.2.2.2.2.2 (w0 18 (by decide) (by decide) (by decide) (by decide)) (fun k => wi 9 k (by decide) (by omega) (by decide) (by decide) (by omega) (by omega) (by decide)) (fun k => wi 10 k (by decide) (by omega) (by decide) (by decide) (by omega) (by omega) (by decide)))
  · obtain ⟨V, h1, h2, h3, h4⟩ := hPa
    have hV1 : V = 1 := by omega
    refine ⟨V, h1, by rw [sF_k (by decide)]; exact h2, h3, fun u hu => ?_⟩
    obtain ⟨⟨f', L, a1, a2, a3, a4, a5, a6, a8, a9, a7⟩, b, bp, bw', br⟩ := h4 u hu
    have s : ∀ i k, i ≠ 0 → (sF z17 0 111 (nI 0 - 1)).1 i k = z17.1 i k := fun i k hi => sF_i hi
    refine ⟨⟨f', L, by rw [s 57 u (by decide)]; exact a1, a2, by rw [s 2 f' (by decide), s 3 f' (by decide)]; exact a3, by rw [s 58 u (by decide)]; exact a4, a5, a6, by rw [s 59 u (by decide)]; exact a8, ?_, fun k hk => by rw [s 60 _ (by decide), s 61 _ (by decide)]; exact a7 k hk⟩, by rw [s 66 u (by decide)]; exact b, by rw [s 66 u (by decide)]; exact bp, fun f2 L2 n2 e1 e2 e3 => ?_, fun _ => ?_⟩
    · rw [s 59 u (by decide), a9]
      refine congrArg (fun (L : List Nat) => (L.length : Int)) (List.filter_congr (fun k _ => ?_))
      rw [s 60 _ (by decide)]
    · rw [s 57 u (by decide)] at e1
      rw [s 58 u (by decide)] at e2
      rw [s 3 f2 (by decide)] at e3
      exact bw' f2 L2 n2 e1 e2 e3
    · have hu0 : u = 0 := by omega
      subst hu0
      rw [s 59 0 (by decide), x6, m7]
      exact cn9_cong _ _ _ (fun k _ hk => hst k (by omega))
  · rw [x2, x2' 6 (by decide), q39 6 (by decide), e0']
    show (0 : Int) + ((0 + 1 : Nat) : Int) ≤ ((0 : Nat) : Int) + 1 + 2 * ((0 : Nat) : Int)
    omega
  · have ct : Ct9 z17 [] u = 0 := rfl
    rw [ct]
    by_cases c : (u : Int) < (μ9.1 39 2).toInt
    · rw [if_pos c]
      rw [x2] at c
      have : u = 0 := by omega
      subst this
      rw [x5]; exact e0
    · rw [if_neg c]; rfl
  · rw [x2' 3 (by decide), q39 3 (by decide), w0 91 (by decide) (by decide) (by decide) (by decide), z0 91 (by omega)]
  · rw [x2' 4 (by decide), q39 4 (by decide), w0 96 (by decide) (by decide) (by decide) (by decide), z0 96 (by omega)]
  · rw [x2' 5 (by decide), q39 5 (by decide), w0 97 (by decide) (by decide) (by decide) (by decide), z0 97 (by omega)]
  · rw [o 137 k (by decide) (by decide) (by decide), wi 29 k (by decide) (by omega) (by decide) (by decide) (by omega) (by omega) (by decide)]
    exact hL k hk
  · rw [w0 87 (by decide) (by decide) (by decide) (by decide), z0 87 (by omega)] at hp
    exact absurd hp (by have a : (0 : Int32).toNatClampNeg = 0 := by decide
                        omega)
  · rw [x12 140 k (by omega) (by omega)]; exact hlv k hk
  · rw [w0 87 (by decide) (by decide) (by decide) (by decide), z0 87 (by omega)]
end

section
noncomputable def KK9 : Mem → Option (Int32 × Mem) := fun μ1 => (if (μ1.1 0 68) = 0 then p_X12_specialise_b17 1 μ1 else p_X12_specialise_b17 0 μ1)
def RS9 (q z : Mem) : Prop := (q.1 39 0 = 0 ∧ z.1 0 95 = 0) ∨ ∃ (P : Nat) (C : List Th3) (G : List Fn5) (v : Nat) (It Bk : List Nat) (cl : Nat → Prop) (q1 z1 : Mem), VS9 P C G v It Bk cl q1 z1 ∧ (q1.1 39 2).toInt ≤ (v : Int) ∧ 0 < v ∧ q = sF (sF q1 137 7 (nI v)) 39 0 1 ∧ z = sF z1 0 95 1
def PS9 (r s : Int32 × Mem) : Prop := r.1 = s.1 ∧ RS9 r.2 s.2
theorem pk2_bwbv {α β δ : Type} {x : δ} {f : δ → Option Mem} {K : Mem → Option α} {g : Option β} {P : α → β → Prop} (h : pk2 (bw (f x) K) g P) : pk2 (bw (bv x f) K) g P := h
theorem pk2_bwbvr {α β δ : Type} {x : δ} {f : δ → Option Mem} {K : Mem → Option β} {g : Option α} {P : α → β → Prop} (h : pk2 g (bw (f x) K) P) : pk2 g (bw (bv x f) K) P := h
theorem pk2_unK {α β : Type} {F : Option α} {g : Option Mem} {K : Mem → Option β} {Post : α → β → Prop} (h : pk2 F (bw g K) Post) : pk g (fun m => pk F (fun a => pk (K m) (fun s => Post a s))) := fun m e a ea s es => h a s ea (by rw [e]; exact es)
theorem sp_bad (q z : Mem) (cd : Int32) (h1 : q.1 137 6 = cd) (h2 : z.1 0 68 = cd) (h3 : cd ≠ 0) : pk2 (p_X10_answer q) (KK9 z) PS9 := by
  rw [p_X10_answer_eq, if_neg (by rw [h1]; exact h3)]
  refine pk2_bwl (c_clear9 q) (fun μ3 hc => ?_)
  obtain ⟨c1, c2, c3⟩ := hc
  unfold KK9
  rw [if_neg (by rw [h2]; exact h3), p_X12_specialise_b17_eq]
  refine pk2_gdr (fun _ => pk2_bvr ?_)
  rw [sF_v, if_pos rfl, sF_k (by decide)]
  refine pk2_some ⟨?_, Or.inl ⟨c3 0 (by omega), sF_v⟩⟩
  show μ3.1 137 6 = z.1 0 68
  rw [c2 137 6 (by omega), h1, h2]
theorem sp_fin {P : Nat} {C : List Th3} {G : List Fn5} {v : Nat} {It Bk : List Nat} {cl : Nat → Prop} {q z : Mem} (h : VS9 P C G v It Bk cl q z) (hv : (q.1 39 2).toInt ≤ (v : Int)) (h0 : 0 < v) : pk2 (p_X10_answer (sF q 137 7 (nI v))) (KK9 z) PS9 := by
  have h6 := h.2.2.1.1
  have h68 := h.2.2.1.2
  obtain ⟨V, hV1, hV2, _⟩ := h.2.2.2.2.1
  rw [sF_k (by decide)] at hV2
  rw [p_X10_answer_eq, if_pos (by rw [sF_k (by decide)]; exact h6)]
  unfold KK9
  rw [if_pos h68, p_X12_specialise_b17_eq]
  refine pk2_gdr (fun _ => pk2_bvr ?_)
  have e : ¬ (sF z 0 95 1).1 0 95 = 0 := by rw [sF_v]; decide
  rw [if_neg e]
  show pk2 (some ((sF (sF q 137 7 (nI v)) 39 0 1).1 39 2, sF (sF q 137 7 (nI v)) 39 0 1)) _ PS9
  refine pk2_some ⟨?_, Or.inr ⟨P, C, G, v, It, Bk, cl, q, z, h, hv, h0, rfl, rfl⟩⟩
  show (sF (sF q 137 7 (nI v)) 39 0 1).1 39 2 = (sF z 0 95 1).1 0 110
  rw [sF_k (by decide), sF_i (by decide), sF_k (by decide)]
  exact ti_eq.mpr (by rw [hV1, hV2])
theorem sp_joint {μx μm : Mem} (h : Rq5 μx μm) (hsu : Su5 μx) (hlv : Lv9 μx) : pk2 (p_X11_specialise μx) (p_X12_specialise μm) PS9 := by
  have e0 : (0 : Int32).toInt = ((0 : Nat) : Int) := by decide
  obtain ⟨⟨⟨hIX, hIW, _⟩, _, hRfi⟩, hUg, hSw, _, hAsk, _, hPrg, hLim⟩ := h
  obtain ⟨_, ⟨_, hBh⟩, _, _, ⟨_, h12⟩, _, _⟩ := hIW
  obtain ⟨G, C, hPc, hPn, hFc⟩ := hPrg.cd
  obtain ⟨hKw, hKt, hFs, hLc, _, _, hCl⟩ := hPc
  obtain ⟨L, l, j, a1, a2, a3, a4, a5, a6, a7, a8, a9, b1⟩ := ask_wf hAsk
  obtain ⟨P, hPd, hP29, hPP⟩ : ∃ P, sel 2 (μx.2.2 0 4) = P ∧ P29 P ∧ sel 2 P = P := by
    rcases hSw with ⟨a, _⟩ | ⟨a, _⟩
    · exact ⟨2, by rw [a]; exact sel_22, by unfold P29; omega, sel_22⟩
    · exact ⟨9, by rw [a]; exact sel_29, by unfold P29; omega, sel_29⟩
  rw [hPd] at hKt hFs hLc
  obtain ⟨tp, htp, htr⟩ : ∃ tp, sel 1 (μx.2.2 0 6) = tp ∧ (tp = 18 ∨ tp = 21) := by
    rcases hRfi.1 with ⟨a, _⟩ | ⟨a, _⟩
    · exact ⟨18, by rw [a]; exact sel_18, Or.inl rfl⟩
    · exact ⟨21, by rw [a]; exact sel_21, Or.inr rfl⟩
  rw [htp] at a5 a6
  have hP9 : P = 2 ∨ P = 9 := hP29
  rw [p_X11_specialise_eq, hPd, htp, p_X10_begin_eq]
  refine pk2_bwbv ?_
  rw [bw_bw]
  refine pk2_bwl (c_clear9 _) (fun μ2 hc => pk2_bwbv (pk2_bwbv ?_))
  obtain ⟨d1, d2, d3⟩ := hc
  have r5 : ∀ i k, (sF (sF μ2 137 6 0) 137 9 (-1)).2.2 i k = if i = 137 ∧ k = 5 then P else μx.2.2 i k := fun i k => by
    show μ2.2.2 i k = _
    rw [d1, sR_3]
    by_cases c : i = 137
    · subst c
      rw [if_pos rfl]
      by_cases c2 : k = 5
      · rw [if_pos c2, if_pos ⟨rfl, c2⟩]
      · rw [if_neg c2, if_neg (by omega)]
    · rw [if_neg c, if_neg (by omega)]
  have l5 : (sF (sF μ2 137 6 0) 137 9 (-1)).2.1 = μx.2.1 := by
    show μ2.2.1 = _
    rw [d1]; rfl
  have i5 : ∀ i k, ¬ (i = 39 ∧ k ≤ 6) → ¬ (i = 137 ∧ (k = 6 ∨ k = 9)) → (sF (sF μ2 137 6 0) 137 9 (-1)).1 i k = μx.1 i k := fun i k c1 c2 => by
    rw [sF_at, if_neg (by omega), sF_at, if_neg (by omega), d2 i k c1]; rfl
  have q39 : ∀ k, k ≤ 6 → (sF (sF μ2 137 6 0) 137 9 (-1)).1 39 k = 0 := fun k hk => by rw [sF_i (by decide), sF_i (by decide)]; exact d3 k hk
  have q6 : (sF (sF μ2 137 6 0) 137 9 (-1)).1 137 6 = 0 := by rw [sF_k (by decide), sF_v]
  generalize sF (sF μ2 137 6 0) 137 9 (-1) = q5 at r5 l5 i5 q39 q6
  have s5 : sel 2 (q5.2.2 137 5) = P := by rw [r5, if_pos ⟨rfl, rfl⟩]; exact hPP
  have hKt5 : Kt P (G.map fkey) q5 := Kt.of hKt (fun i k _ => i5 i k (by omega) (by omega))
  have hFs5 : Fs5 P G q5 := hFs.cong (fun k _ => i5 _ k (by omega) (by omega)) (fun k _ => i5 _ k (by omega) (by omega)) (fun g _ => i5 _ _ (by omega) (by omega))
  have hLc5 : Lc P C q5 := hLc.cong (i5 _ _ (by omega) (by omega)) (fun k => i5 _ _ (by omega) (by omega)) (fun k => i5 _ _ (by omega) (by omega)) (fun k => i5 _ _ (by omega) (by omega))
  have k3 : q5.1 tp 3 = μx.1 tp 3 := i5 tp 3 (by omega) (by omega)
  have hsu5 : Su5 q5 := by
    unfold Su5
    rw [r5 137 14, r5 137 15, if_neg (by omega), if_neg (by omega)]; exact hsu
  have hlv5 : Lv9 q5 := fun k hk => by rw [l5]; exact hlv k hk
  rw [s5, bw_bd9]
  rw [p_X12_specialise_eq, p_X12_specialiseNow_eq]
  show pk2 _ (bw _ KK9) _
  refine pk2_bwbvr (pk2_bwbvr (pk2_bwbvr (pk2_bwbvr (pk2_bwbvr (pk2_bwbvr (pk2_bwbvr (pk2_bwbvr (pk2_bwbvr ?_))))))))
  have w1 : ∀ i k, ¬ (i = 0 ∧ (k = 56 ∨ k = 68 ∨ k = 87 ∨ k = 88 ∨ k = 89 ∨ k = 91 ∨ k = 110 ∨ k = 96 ∨ k = 97)) → (sF (sF (sF (sF (sF (sF (sF (sF (sF μm 0 56 0) 0 68 0) 0 87 0) 0 88 0) 0 89 0) 0 91 0) 0 110 0) 0 96 0) 0 97 0).1 i k = μm.1 i k := fun i k hk => by
    rw [sF_at, if_neg (by omega), sF_at, if_neg (by omega), sF_at, if_neg (by omega), sF_at, if_neg (by omega), sF_at, if_neg (by omega), sF_at, if_neg (by omega), sF_at, if_neg (by omega), sF_at, if_neg (by omega), sF_at, if_neg (by omega)]
  have w2 : ∀ k, k = 56 ∨ k = 68 ∨ k = 87 ∨ k = 88 ∨ k = 89 ∨ k = 91 ∨ k = 110 ∨ k = 96 ∨ k = 97 → (sF (sF (sF (sF (sF (sF (sF (sF (sF μm 0 56 0) 0 68 0) 0 87 0) 0 88 0) 0 89 0) 0 91 0) 0 110 0) 0 96 0) 0 97 0).1 0 k = 0 := fun k hk => by
    rcases hk with e | e | e | e | e | e | e | e | e <;> subst e <;> simp [sF_at]
  generalize sF (sF (sF (sF (sF (sF (sF (sF (sF μm 0 56 0) 0 68 0) 0 87 0) 0 88 0) 0 89 0) 0 91 0) 0 110 0) 0 96 0) 0 97 0 = z9 at w1 w2
  have wi : ∀ i k, i ≠ 0 → z9.1 i k = μm.1 i k := fun i k hi => w1 i k (by omega)
  have w0 : ∀ k, k < 56 → z9.1 0 k = μm.1 0 k := fun k hk => w1 0 k (by omega)
  have wz : ∀ k, k = 68 ∨ k = 87 ∨ k = 88 ∨ k = 89 ∨ k = 91 ∨ k = 96 ∨ k = 97 ∨ k = 110 → z9.1 0 k = 0 := fun k hk => w2 k (by omega)
  have hPn9 : Pn5 z9 G := hPn.of (fun k hk => w0 k (by omega)) (fun i k _ _ => wi i k (by omega))
  have h42 : z9.1 0 42 = l - 97 + 1 := by rw [w0 42 (by omega)]; exact a3
  have h43 : (z9.1 0 43).toInt = (j : Int) := by rw [w0 43 (by omega)]; exact a4
  have hPr : Pr8 q5 z9 P C G := ⟨hP29, s5, hLc5, hCl, hKw, hKt5, hFs5, hPn9, hFc, bh_cong hBh (w0 18 (by omega)) (fun k => wi 9 k (by decide)) (fun k => wi 10 k (by decide))⟩
  rw [bw_bd9]
  refine pk2_bdl (q_start (x := (l, j)) hKw hKt5 (show Kv (l, j) from ⟨a1, a2⟩) (by rw [k3]; exact a5)) ?_
  rintro r7 μ6 ⟨e1, e2⟩
  have e1 : μ6 = q5 := e1
  have e2 : r7 = -1 ↔ ¬ (l, j) ∈ G.map fkey := e2
  refine pk2_bdr (m_fn hPn9) ?_
  rintro r11 μ10 ⟨e3, e4⟩
  have e3 : μ10 = z9 := e3
  rw [e1, e3]
  by_cases no : (l, j) ∈ G.map fkey
  · rw [if_neg (fun x => (e2.mp x) no)]
    rcases e4 with ⟨_, e6⟩ | ⟨f, G1, G2, hG, e6, e7, e8⟩
    · exfalso
      obtain ⟨f, hf, hk⟩ := List.mem_map.mp no
      refine e6 f hf ⟨?_, ?_⟩
      · have : f.1 = l := congrArg Prod.fst hk
        rw [this, h42]
      · have : f.2.1.length = j := congrArg Prod.snd hk
        rw [this, h43]
    have e6 : r11.toInt = (G2.length : Int) := e6
    have em : (-1 : Int32).toInt = -1 := by decide
    rw [if_neg (fun x => by rw [x, em] at e6; omega)]
    have hfG : f ∈ G := by rw [hG]; simp
    have hfl : f.1 = l := let_eq a1 (hKw.2 _ (List.mem_map.mpr ⟨f, hfG, rfl⟩)).1 (by rw [e7, h42])
    have hfn : f.2.1.length = j := by rw [h43] at e8; omega
    have hky : fkey f = (l, j) := by unfold fkey; rw [hfl, hfn]
    have tl : (L.map tkl).length = L.length := List.length_map _
    have hL30 : L.length ≤ 30 := a6.2.1
    refine pk2_bwK (pk2_sw (pk2_ofpk (m_taskRow (T := L) (n := j) hL30 a6.2.2 a9 a2 (a8.of (fun k => ⟨wi 25 k (by decide), wi 26 k (by decide)⟩)) h43 (by rw [w0 44 (by omega)]; exact a7) (fun z15 R hPm hR f2 f0 fi => ?_))))
    obtain ⟨R', g1, g2, g3⟩ := rw_sym R (fun k => q5.2.1 (tp + 2) k)
    have hRl : R.length = L.length := by rw [← tks_len (R := R), hR, tl]
    have inv : ∀ k p, R'[k]? = some p → ∃ p0, R[k]? = some p0 ∧ p = (p0.1, q5.2.1 (tp + 2) k, p0.2.2) := fun k p hk => by
      have hkl := lt_some hk
      have hp0 : R[k]? = some R[k] := List.getElem?_eq_getElem (by omega)
      have := g2 k _ hp0
      rw [hk] at this
      exact ⟨R[k], hp0, Option.some.inj this⟩
    have hPm' : Pm9 R' z15 := ⟨by rw [g1]; exact hPm.1, fun k p hk => by
      obtain ⟨p0, h0, e⟩ := inv k p hk
      rw [e]; exact hPm.2 k p0 h0⟩
    have hpx : Px9 tp R' q5 := by
      refine ⟨?_, fun k p hk => ?_⟩
      · rw [i5 tp 2 (by omega) (by omega), a6.len, g1, hRl]
      · obtain ⟨p0, h0, e⟩ := inv k p hk
        rw [e]
        refine ⟨?_, rfl⟩
        rw [l5]
        have ht : (L.map tkl)[k]? = some p0.1 := by rw [← hR]; exact tks_get h0
        exact a6.1.2 k p0.1 ht
    have hR' : tks R' = L.map tkl := g3.trans hR
    have hR200 : R'.length ≤ 200 := by rw [g1, hRl]; omega
    refine pk_bd (m_newV (V := 0) (L := R'.length) (f := r11) (parent := -1) (by rw [f0 110 (by decide) (by decide) (by decide), wz 110 (by omega)]; exact e0) (by omega) hPm'.1 hR200) ?_
    rintro r18 μ17 (⟨n1, _⟩ | ⟨_, _, hNm⟩)
    · omega
    have hNm : Nm9 0 R'.length r11 (-1) z15 μ17 := hNm
    refine pk2_unK ?_
    rw [bw_bd9]
    refine pk2_bdl (c_addVariant (R := R') (V := 0) (key := q5.1 tp 3) (parent := -1) (Or.inr (by omega)) hpx rfl hR200 (by rw [q39 2 (by omega)]; exact e0) (by omega)) ?_
    rintro r10 μ9 (⟨n1, _⟩ | ⟨_, _, hNv⟩)
    · omega
    have hNv : Nv9 0 (tks R') (q5.1 tp 3) (-1) (cn9 (fun k => decide (s_X0_kind (q5.2.1 (tp + 1) k) = 4)) 0 R'.length 0) q5 μ9 := hNv
    have hVS := vs_zero (f := f) hR' (by rw [tl]; omega) (fun t ht => by
      obtain ⟨x, hx, e⟩ := List.mem_map.mp ht
      rw [← e]; exact ⟨_, _, tkl_tk (a6.2.2 x hx)⟩) a9 (by rw [stc_ns8 a6.2.2]; exact b1) hPm' hpx hPr (fun k hk => ⟨by rw [i5 137 k (by omega) (by omega), wi 29 k (by decide)]; exact hLim k hk, fun e => by rw [wi 29 k (by decide), e]; exact h12⟩) hsu5 hlv5 hG e6 hfn (by rw [k3, hky]; exact a5) q39 q6 wz f0 fi hNv hNm
    rw [bw_id]
    have h392 : (μ9.1 39 2).toInt = ((0 + 1 : Nat) : Int) := hNv.2.1.1
    have h393 : μ9.1 39 3 = 0 := by rw [hNv.2.1.2 3 (by decide)]; exact q39 3 (by omega)
    exact vs_all (Post := PS9) (KK := KK9) (fun v q z It Bk cl hS hv h0 => sp_fin hS hv h0) (fun q z cd x1 x2 x3 => sp_bad q z cd x1 x2 x3) 25 0 μ9 μ17 [] [] _ FUEL FUEL 0 0 0 (by omega) (Or.inr (by omega)) hVS ⟨by decide, by rw [h393]; decide, by rw [h393]; decide, by rw [h393]; decide⟩ rfl rfl
  · rw [if_pos (e2.mpr no)]
    rcases e4 with ⟨e6, _⟩ | ⟨f, G1, G2, hG, _, e7, e8⟩
    · have e6 : r11 = -1 := e6
      rw [if_pos e6]
      refine pk2_bwbv (pk2_bwbvr ?_)
      show pk2 (p_X11_specialise_b17 FUEL 0 (sF q5 137 6 (-6))) (KK9 (sF z9 0 68 (-6))) PS9
      refine lx_stop (fun e => ?_) (sp_bad _ _ (-6) sF_v sF_v (by decide))
      have e := e.1
      rw [sF_v] at e
      exact absurd e (by decide)
    · exfalso
      have hfG : f ∈ G := by rw [hG]; simp
      refine no (List.mem_map.mpr ⟨f, hfG, ?_⟩)
      have hfl : f.1 = l := let_eq a1 (hKw.2 _ (List.mem_map.mpr ⟨f, hfG, rfl⟩)).1 (by rw [e7, h42])
      have hfn : f.2.1.length = j := by rw [h43] at e8; omega
      unfold fkey
      rw [hfl, hfn]
end

section
def Rq9 (μx μm : Mem) : Prop := Rq5 μx μm ∧ Lv9 μx
theorem Uz.lv {μ q : Mem} (h : Uz μ q) (hl : Lv9 μ) : Lv9 q := fun k hk => by rw [h.2.2.1 140 k (Or.inr rfl)]; exact hl k hk
theorem r9_of {f g : Option (Int32 × Mem)} (hc : ok f (fun q => ok g (fun z => Rq5 q.2 z.2))) (hx : pk f (fun q => Lv9 q.2)) : ok f (fun q => ok g (fun z => Rq9 q.2 z.2)) := ok_imp (fun q h => ok_imp (fun z hz => ⟨hz, h.2⟩) h.1) (ok_pk hc hx)
theorem lv_9 : Lv9 μX0 := by
  intro k hk
  have e : μX0.2.1 140 = fl_reg 8 := rfl
  rw [e, lx_make]
  show (if k < 8 then x_make 3 (nI k) else 0) = _
  rw [if_pos hk]; rfl
theorem r9_0 : Rq9 μX0 μM0 := ⟨rd_0, lv_9⟩
theorem lv_program {μ : Mem} (hS : Sw5 μ) (hl : Lv9 μ) : pk (p_X11_program μ) (fun r => Lv9 r.2) := by
  rw [p_X11_program_eq]
  refine pk_bw (q_take11F μ) ?_
  rintro μ1 ⟨f1, g1⟩
  obtain ⟨P, hP, s5, sP⟩ : ∃ P, P29 P ∧ μ.2.2 0 5 = P ∧ sel 2 P = P := by
    rcases hS with ⟨a, b⟩ | ⟨a, b⟩
    · exact ⟨9, by unfold P29; omega, b, sel_29⟩
    · exact ⟨2, by unfold P29; omega, b, sel_22⟩
  rw [show μ1.2.2 0 5 = P by rw [f1]; exact s5, sP, p_X4_readProgram_eq]
  refine pk_bw (P := fun q => Vz5 P (sR μ1 16 4 P) q) ?_ ?_
  · refine pk_bvy (fun μ2 e2 => ?_)
    have r2 : μ2.2.2 16 4 = P := by rw [e2, sR_3, if_pos rfl, if_pos rfl]
    have V2 : Vg5 P μ2 := ⟨hP, by rw [r2]; exact sP⟩
    rw [r2, sP, ← e2]
    exact pk_bw (v_X3_clear P μ2 rfl V2) (fun μ3 z3 => pk_mono (v_X4_readProgram_b14 FUEL 0 μ3 z3.1) (fun q hq => z3.tr hq))
  rintro μ3 ⟨_, z3, f3⟩
  refine pk_bd (P := fun r => r.2 = μ3) (by rw [p_X4_badPlace_eq]; exact pk_some rfl) ?_
  rintro r6 μ5 e
  have e : μ5 = μ3 := e
  subst e
  refine pk_bvy (fun μ7 m7 => ?_)
  have l7 : μ7.2.1 = μ.2.1 := by rw [m7]; show μ5.2.1 = _; rw [f3, sR_2, f1]
  refine pk_ite (fun c => ?_) (fun c => ?_)
  · refine pk_bvy (fun μ9 m9 => pk_bvy (fun μ10 m10 => pk_bw (q_clear5 μ10) ?_))
    rintro μ11 ⟨k1, k2⟩
    have l11 : μ11.2.1 = μ7.2.1 := by rw [k1, m10, sR_2, m9, sR_2]
    exact pk_some (fun k hk => by show μ11.2.1 140 k = _; rw [l11, l7]; exact hl k hk)
  · exact pk_some (fun k hk => by show μ7.2.1 140 k = _; rw [l7]; exact hl k hk)
theorem r9q_of {f g : Option (Int32 × Mem)} (hc : ok f (fun q => ok g (fun z => Rq5 q.2 z.2 ∧ q.1 = z.1))) (hx : pk f (fun q => Lv9 q.2)) : ok f (fun q => ok g (fun z => Rq9 q.2 z.2 ∧ q.1 = z.1)) := ok_imp (fun q h => ok_imp (fun z hz => ⟨⟨hz.1, h.2⟩, hz.2⟩) h.1) (ok_pk hc hx)
theorem lv_task {T : Nat} {μ : Mem} (hT : (μ.1 0 1).toInt = (T : Int)) (h8 : T ≤ 800) (hR : Rfi μ) (hl : Lv9 μ) : pk (p_X11_task μ) (fun r => Lv9 r.2) := by
  have main : ∀ a : Nat, (a = 18 ∨ a = 21) → μ.2.2 0 7 = a → pk (p_X11_task μ) (fun r => Lv9 r.2) := by
    intro a ha h7
    have sa : sel 1 a = a := by rcases ha with rfl | rfl; exact sel_18; exact sel_21
    have hs : sh 0 a = (0, 1) := by rcases ha with rfl | rfl; exact shx_18; exact shx_21
    rw [p_X11_task_eq]
    refine pk_bw (pk_both (q_take11 hT h8) (q_take11F μ)) ?_
    rintro μ1 ⟨⟨f1, w1⟩, _, g1⟩
    rw [show μ1.2.2 0 7 = a by rw [f1]; exact h7, sa]
    refine pk_bw (q_XtaskL hs ⟨by omega, by omega⟩ w1) ?_
    rintro μ3 ⟨⟨f3, g3, l3⟩, o3⟩
    refine pk_bd (P := fun r => r.2 = μ3) (by rw [p_X4_badPlace_eq]; exact pk_some rfl) ?_
    rintro r6 μ5 e
    have e : μ5 = μ3 := e
    subst e
    refine pk_bvy (fun μ7 m7 => ?_)
    have l7 : ∀ k, μ7.2.1 140 k = μ.2.1 140 k := fun k => by
      rw [m7]
      show μ5.2.1 140 k = _
      rw [l3 140 k (by omega) (by omega), f1]
    refine pk_ite (fun _ => ?_) (fun _ => pk_some (fun k hk => by show μ7.2.1 140 k = _; rw [l7]; exact hl k hk))
    refine pk_bvy (fun μ9 m9 => pk_bvy (fun μ10 m10 => pk_bvy (fun μ11 m11 => ?_)))
    have l11 : μ11.2.1 = μ7.2.1 := by rw [m11, sF_2, m10, sR_2, m9, sR_2]
    refine pk_bw (q_begin2 _ 0 μ11) ?_
    rintro μ12 ⟨f12, g12⟩
    refine pk_bw (q_clear5 μ12) ?_
    rintro μ14 ⟨f14, g14⟩
    refine pk_bd (kb_stars _ μ14) ?_
    rintro r17 μ16 e
    have e : μ16 = μ14 := e
    rw [e]
    exact pk_some (fun k hk => by show μ14.2.1 140 k = _; rw [f14, f12, l11, l7]; exact hl k hk)
  rcases hR.1 with ⟨_, b⟩ | ⟨_, b⟩
  · exact main 21 (Or.inr rfl) b
  · exact main 18 (Or.inl rfl) b
theorem lv_values {T : Nat} {μ : Mem} {L : List Tkn} (hT : (μ.1 0 1).toInt = (T : Int)) (h8 : T ≤ 800) (hR : Rfi μ) (hP : PL μ (sel 1 (μ.2.2 0 6)) L) (hl : Lv9 μ) : pk (p_X11_values μ) (fun r => Lv9 r.2) := by
  have main : ∀ a d : Nat, (a = 24 ∨ a = 27) → (d = 18 ∨ d = 21) → μ.2.2 0 9 = a → μ.2.2 0 6 = d → pk (p_X11_values μ) (fun r => Lv9 r.2) := by
    intro a d ha hd h9 h6
    have sa : sel 1 a = a := by rcases ha with rfl | rfl; exact sel_24; exact sel_27
    have sd : sel 1 d = d := by rcases hd with rfl | rfl; exact sel_18; exact sel_21
    have hs : sh 0 a = (0, 1) := by rcases ha with rfl | rfl; exact shx_24; exact shx_27
    rw [h6, sd] at hP
    rw [p_X11_values_eq]
    refine pk_bw (pk_both (q_take11 hT h8) (q_take11F μ)) ?_
    rintro μ1 ⟨⟨f1, w1⟩, _, g1⟩
    have P1 : PL μ1 d L := hP.of (g1 d 2 (by omega) (by omega)) (fun i => by rw [f1])
    rw [show μ1.2.2 0 6 = d by rw [f1]; exact h6, sd]
    refine pk_bd (q_stars P1.pm) ?_
    rintro r4 μ2 ⟨e, h4⟩
    have e : μ2 = μ1 := e
    subst e
    have h4 : r4.toInt = (stc L : Int) := h4
    have hm : stc L ≤ 30 := Nat.le_trans (stc_le L) hP.2.1
    rw [show μ2.2.2 0 9 = a by rw [f1]; exact h9, sa]
    refine pk_bw (q_XvaluesL hs ⟨by omega, by omega⟩ h4 hm w1) ?_
    rintro μ3 ⟨⟨f3, g3, l3⟩, o3⟩
    refine pk_bd (P := fun r => r.2 = μ3) (by rw [p_X4_badPlace_eq]; exact pk_some rfl) ?_
    rintro r6 μ5 e
    have e : μ5 = μ3 := e
    subst e
    refine pk_bvy (fun μ9 m9 => ?_)
    have l9 : ∀ k, μ9.2.1 140 k = μ.2.1 140 k := fun k => by
      rw [m9]
      show μ5.2.1 140 k = _
      rw [l3 140 k (by omega) (by omega), f1]
    refine pk_ite (fun _ => ?_) (fun _ => pk_some (fun k hk => by show μ9.2.1 140 k = _; rw [l9]; exact hl k hk))
    refine pk_bvy (fun μ11 m11 => pk_bvy (fun μ12 m12 => pk_bvy (fun μ13 m13 => pk_some (fun k hk => ?_))))
    show μ13.2.1 140 k = _
    rw [m13, sF_2, m12, sR_2, m11, sR_2, l9]; exact hl k hk
  rcases hR.2 with ⟨_, b⟩ | ⟨_, b⟩ <;> rcases hR.1 with ⟨c, _⟩ | ⟨c, _⟩
  · exact main 27 18 (Or.inr rfl) (Or.inl rfl) b c
  · exact main 27 21 (Or.inr rfl) (Or.inr rfl) b c
  · exact main 24 18 (Or.inl rfl) (Or.inl rfl) b c
  · exact main 24 21 (Or.inl rfl) (Or.inr rfl) b c
theorem lv9_set {a1 a2 : Int32} {μ : Mem} (hl : Lv9 μ) : pk (p_X11_set a1 a2 μ) (fun r => Lv9 r.2) := by
  have b46 : pk (p_X10_setLimit_b46 a1 a2 μ) (fun r => r.2.2 = μ.2) := by
    rw [p_X10_setLimit_b46_eq]
    exact pk_ite (fun _ => pk_ite (fun _ => pk_some rfl) (fun _ => pk_ite (fun _ => pk_some rfl) (fun _ => pk_bvs (pk_some rfl)))) (fun _ => pk_some rfl)
  have b22 : pk (p_X10_setLimit_b22 a1 a2 μ) (fun r => r.2.2 = μ.2) := by
    rw [p_X10_setLimit_b22_eq]
    exact pk_ite (fun _ => pk_ite (fun _ => b46) (fun _ => pk_ite (fun _ => b46) (fun _ => pk_bvs (pk_some rfl)))) (fun _ => b46)
  have lim : pk (p_X10_setLimit a1 a2 μ) (fun r => r.2.2 = μ.2) := by
    rw [p_X10_setLimit_eq]
    exact pk_ite (fun _ => pk_ite (fun _ => b22) (fun _ => pk_ite (fun _ => b22) (fun _ => pk_bvs (pk_some rfl)))) (fun _ => b22)
  rw [p_X11_set_eq]
  refine pk_bd lim (fun r2 μ1 h1 => ?_)
  have h1 : μ1.2 = μ.2 := h1
  refine pk_ite (fun _ => pk_some (fun k hk => by show μ1.2.1 140 k = _; rw [h1]; exact hl k hk)) (fun _ => pk_bw (q_clear5 μ1) ?_)
  rintro μ4 ⟨f4, _⟩
  exact pk_some (fun k hk => by show μ4.2.1 140 k = _; rw [f4, h1]; exact hl k hk)
theorem r9_feed (a1 a2 a3 a4 a5 : Int32) (μx μm : Mem) (h : Rq9 μx μm) : ok (p_X11_feed a1 a2 a3 a4 a5 μx) (fun q => ok (p_X12_feed a1 a2 a3 a4 a5 μm) (fun z => Rq9 q.2 z.2)) := r9_of (rdf (rdq_feed a1 a2 a3 a4 a5 μx μm h.1)) (pk_mono (u_X11_feed a1 a2 a3 a4 a5 μx h.1.2.1) (fun q hq => hq.lv h.2))
theorem r9q_feed (a1 a2 a3 a4 a5 : Int32) (μx μm : Mem) (h : Rq9 μx μm) : ok (p_X11_feed a1 a2 a3 a4 a5 μx) (fun q => ok (p_X12_feed a1 a2 a3 a4 a5 μm) (fun z => Rq9 q.2 z.2 ∧ q.1 = z.1)) := r9q_of (rdq_feed a1 a2 a3 a4 a5 μx μm h.1) (pk_mono (u_X11_feed a1 a2 a3 a4 a5 μx h.1.2.1) (fun q hq => hq.lv h.2))
theorem r9_end (a1 : Int32) (μx μm : Mem) (h : Rq9 μx μm) : ok (p_X11_end a1 μx) (fun q => ok (p_X12_end a1 μm) (fun z => Rq9 q.2 z.2)) := r9_of (rd_end a1 μx μm h.1) (pk_mono (u_X11_end a1 μx h.1.2.1) (fun q hq => hq.lv h.2))
theorem r9_program (μx μm : Mem) (h : Rq9 μx μm) : ok (p_X11_program μx) (fun q => ok (p_X12_program μm) (fun z => Rq9 q.2 z.2)) := r9_of (rdf (rdq_program μx μm h.1)) (lv_program h.1.2.2.1 h.2)
theorem r9q_program (μx μm : Mem) (h : Rq9 μx μm) : ok (p_X11_program μx) (fun q => ok (p_X12_program μm) (fun z => Rq9 q.2 z.2 ∧ q.1 = z.1)) := r9q_of (rdq_program μx μm h.1) (lv_program h.1.2.2.1 h.2)
theorem r9_task (μx μm : Mem) (h : Rq9 μx μm) : ok (p_X11_task μx) (fun q => ok (p_X12_task μm) (fun z => Rq9 q.2 z.2)) := r9_of (rdf (rdq_task μx μm h.1)) (by
  obtain ⟨T, t1, t2, t3⟩ := h.1.1.T
  exact lv_task t1 t3 h.1.1.2.2 h.2)
theorem r9q_task (μx μm : Mem) (h : Rq9 μx μm) : ok (p_X11_task μx) (fun q => ok (p_X12_task μm) (fun z => Rq9 q.2 z.2 ∧ q.1 = z.1)) := r9q_of (rdq_task μx μm h.1) (by
  obtain ⟨T, t1, t2, t3⟩ := h.1.1.T
  exact lv_task t1 t3 h.1.1.2.2 h.2)
theorem r9_values (μx μm : Mem) (h : Rq9 μx μm) : ok (p_X11_values μx) (fun q => ok (p_X12_values μm) (fun z => Rq9 q.2 z.2)) := r9_of (rdf (rdq_values μx μm h.1)) (by
  obtain ⟨T, t1, t2, t3⟩ := h.1.1.T
  obtain ⟨L, p1, _⟩ := h.1.2.2.2.2.1
  exact lv_values t1 t3 h.1.1.2.2 p1 h.2)
theorem r9q_values (μx μm : Mem) (h : Rq9 μx μm) : ok (p_X11_values μx) (fun q => ok (p_X12_values μm) (fun z => Rq9 q.2 z.2 ∧ q.1 = z.1)) := r9q_of (rdq_values μx μm h.1) (by
  obtain ⟨T, t1, t2, t3⟩ := h.1.1.T
  obtain ⟨L, p1, _⟩ := h.1.2.2.2.2.1
  exact lv_values t1 t3 h.1.1.2.2 p1 h.2)
theorem r9_fault (μx μm : Mem) (h : Rq9 μx μm) : ok (p_X11_fault μx) (fun q => ok (p_X12_fault μm) (fun z => Rq9 q.2 z.2)) := r9_of (rd_fault μx μm h.1) (pk_mono (u_X11_fault μx h.1.2.1) (fun q hq => hq.lv h.2))
theorem r9q_fault (μx μm : Mem) (h : Rq9 μx μm) : ok (p_X11_fault μx) (fun q => ok (p_X12_fault μm) (fun z => Rq9 q.2 z.2 ∧ q.1 = z.1)) := r9q_of (rdq_fault μx μm h.1) (pk_mono (u_X11_fault μx h.1.2.1) (fun q hq => hq.lv h.2))
theorem r9_set (a1 a2 : Int32) (μx μm : Mem) (h : Rq9 μx μm) : ok (p_X11_set a1 a2 μx) (fun q => ok (p_X12_set a1 a2 μm) (fun z => Rq9 q.2 z.2)) := r9_of (rdf (rdq_set a1 a2 μx μm h.1)) (lv9_set h.2)
theorem r9q_set (a1 a2 : Int32) (μx μm : Mem) (h : Rq9 μx μm) : ok (p_X11_set a1 a2 μx) (fun q => ok (p_X12_set a1 a2 μm) (fun z => Rq9 q.2 z.2 ∧ q.1 = z.1)) := r9q_of (rdq_set a1 a2 μx μm h.1) (lv9_set h.2)
theorem r9_is (a1 : Int32) (μx μm : Mem) (h : Rq9 μx μm) : ok (p_X11_is a1 μx) (fun q => ok (p_X12_is a1 μm) (fun z => Rq9 q.2 z.2)) := r9_of (rd_is a1 μx μm h.1) (pk_mono (u_X11_is a1 μx h.1.2.1) (fun q hq => hq.lv h.2))
theorem r9q_is (a1 : Int32) (μx μm : Mem) (h : Rq9 μx μm) : ok (p_X11_is a1 μx) (fun q => ok (p_X12_is a1 μm) (fun z => Rq9 q.2 z.2 ∧ q.1 = z.1)) := r9q_of (rdq_is a1 μx μm h.1) (pk_mono (u_X11_is a1 μx h.1.2.1) (fun q hq => hq.lv h.2))
theorem r9_function (a1 a2 : Int32) (μx μm : Mem) (h : Rq9 μx μm) : ok (p_X11_function a1 a2 μx) (fun q => ok (p_X12_function a1 a2 μm) (fun z => Rq9 q.2 z.2)) := r9_of (rd_function a1 a2 μx μm h.1) (pk_mono (u_X11_function a1 a2 μx h.1.2.1) (fun q hq => hq.lv h.2))
theorem r9q_function (a1 a2 : Int32) (μx μm : Mem) (h : Rq9 μx μm) : ok (p_X11_function a1 a2 μx) (fun q => ok (p_X12_function a1 a2 μm) (fun z => Rq9 q.2 z.2 ∧ q.1 = z.1)) := r9q_of (rdq_function a1 a2 μx μm h.1) (pk_mono (u_X11_function a1 a2 μx h.1.2.1) (fun q hq => hq.lv h.2))
theorem r9_specialise (μx μm : Mem) (h : Rq9 μx μm) : ok (p_X11_specialise μx) (fun q => ok (p_X12_specialise μm) (fun z => Rq9 q.2 z.2)) := r9_of (rd_specialise μx μm h.1) (pk_mono (u_X11_specialise μx h.1.2.1) (fun q hq => hq.lv h.2))
theorem r9_residue (a1 : Int32) (μx μm : Mem) (h : Rq9 μx μm) : ok (p_X11_residue a1 μx) (fun q => ok (p_X12_residue a1 μm) (fun z => Rq9 q.2 z.2)) := r9_of (rd_residue a1 μx μm h.1) (pk_mono (u_X11_residue a1 μx h.1.2.1) (fun q hq => hq.lv h.2))
theorem r9_variant (a1 a2 : Int32) (μx μm : Mem) (h : Rq9 μx μm) : ok (p_X11_variant a1 a2 μx) (fun q => ok (p_X12_variant a1 a2 μm) (fun z => Rq9 q.2 z.2)) := r9_of (rd_variant a1 a2 μx μm h.1) (pk_mono (u_X11_variant a1 a2 μx h.1.2.1) (fun q hq => hq.lv h.2))
theorem r9_kinds (a1 a2 : Int32) (μx μm : Mem) (h : Rq9 μx μm) : ok (p_X11_kinds a1 a2 μx) (fun q => ok (p_X12_kinds a1 a2 μm) (fun z => Rq9 q.2 z.2)) := r9_of (rd_kinds a1 a2 μx μm h.1) (pk_mono (u_X11_kinds a1 a2 μx h.1.2.1) (fun q hq => hq.lv h.2))
theorem r9_run (a1 a2 : Int32) (μx μm : Mem) (h : Rq9 μx μm) : ok (p_X11_run a1 a2 μx) (fun q => ok (p_X12_run a1 a2 μm) (fun z => Rq9 q.2 z.2)) := r9_of (rd_run a1 a2 μx μm h.1) (pk_mono (u_X11_run a1 a2 μx h.1.2.1) (fun q hq => hq.lv h.2))
theorem r9_output (a1 a2 : Int32) (μx μm : Mem) (h : Rq9 μx μm) : ok (p_X11_output a1 a2 μx) (fun q => ok (p_X12_output a1 a2 μm) (fun z => Rq9 q.2 z.2)) := r9_of (rd_output a1 a2 μx μm h.1) (pk_mono (u_X11_output a1 a2 μx h.1.2.1) (fun q hq => hq.lv h.2))
theorem r9_place (a1 : Int32) (μx μm : Mem) (h : Rq9 μx μm) : ok (p_X11_place a1 μx) (fun q => ok (p_X12_place a1 μm) (fun z => Rq9 q.2 z.2)) := r9_of (rd_place a1 μx μm h.1) (pk_mono (u_X11_place a1 μx h.1.2.1) (fun q hq => hq.lv h.2))
theorem r9_value (μx μm : Mem) (h : Rq9 μx μm) : ok (p_X11_value μx) (fun q => ok (p_X12_value μm) (fun z => Rq9 q.2 z.2)) := r9_of (rd_value μx μm h.1) (pk_mono (u_X11_value μx h.1.2.1) (fun q hq => hq.lv h.2))
theorem r9_write (a1 : Int32) (μx μm : Mem) (h : Rq9 μx μm) : ok (p_X11_write a1 μx) (fun q => ok (p_X12_write a1 μm) (fun z => Rq9 q.2 z.2)) := r9_of (rd_write a1 μx μm h.1) (pk_mono (u_X11_write a1 μx h.1.2.1) (fun q hq => hq.lv h.2))
theorem r9_octet (a1 : Int32) (μx μm : Mem) (h : Rq9 μx μm) : ok (p_X11_octet a1 μx) (fun q => ok (p_X12_octet a1 μm) (fun z => Rq9 q.2 z.2)) := r9_of (rd_octet a1 μx μm h.1) (pk_mono (u_X11_octet a1 μx h.1.2.1) (fun q hq => hq.lv h.2))
theorem r9_agree (μx μm : Mem) (h : Rq9 μx μm) : ok (p_X11_agree μx) (fun q => ok (p_X12_agree μm) (fun z => Rq9 q.2 z.2)) := r9_of (rd_agree μx μm h.1) (pk_mono (u_X11_agree μx h.1.2.1) (fun q hq => hq.lv h.2))
theorem r9_saved (μx μm : Mem) (h : Rq9 μx μm) : ok (p_X11_saved μx) (fun q => ok (p_X12_saved μm) (fun z => Rq9 q.2 z.2)) := r9_of (rd_saved μx μm h.1) (pk_mono (u_X11_saved μx h.1.2.1) (fun q hq => hq.lv h.2))
theorem r9_op (a1 a2 a3 : Int32) (μx μm : Mem) (h : Rq9 μx μm) : ok (p_X11_op a1 a2 a3 μx) (fun q => ok (p_X12_op a1 a2 a3 μm) (fun z => Rq9 q.2 z.2)) := r9_of (rd_op a1 a2 a3 μx μm h.1) (pk_mono (u_X11_op a1 a2 a3 μx h.1.2.1) (fun q hq => hq.lv h.2))
theorem r9q_specialise (μx μm : Mem) (h : Rq9 μx μm) : ok (p_X11_specialise μx) (fun q => ok (p_X12_specialise μm) (fun z => Rq9 q.2 z.2 ∧ q.1 = z.1)) := by
  obtain ⟨q, e1, z, e2, hz⟩ := rd_specialise μx μm h.1
  have hj := sp_joint h.1 h.1.2.1 h.2 q z e1 e2
  exact ⟨q, e1, z, e2, ⟨hz, (u_X11_specialise μx h.1.2.1 q e1).lv h.2⟩, hj.1⟩
end

section
def Pc9 (i : Nat) : Prop := (39 ≤ i ∧ i ≤ 45) ∨ (47 ≤ i ∧ i ≤ 118)
def Gcx9 (a : Nat) : Prop := a ≤ 32 ∨ 119 ≤ a
theorem gc_go {a : Nat} (h : Go a) : Gcx9 a := by unfold Go at h; unfold Gcx9; omega
theorem gc_3 {a : Nat} (h : Go a) : Gcx9 (a + 3) := by unfold Go at h; unfold Gcx9; omega
theorem pc_go {a : Nat} (h : Go a) : ¬ Pc9 a := by unfold Go at h; unfold Pc9; omega
def Uc9 (μ : Mem) : Prop := μ = μ
def Zc9 (μ q : Mem) : Prop := Uc9 q ∧ (∀ i k, Pc9 i → q.1 i k = μ.1 i k) ∧ ∀ i k, Pc9 i → q.2.1 i k = μ.2.1 i k
theorem Zc9.rf {μ : Mem} (h : Uc9 μ) : Zc9 μ μ := ⟨h, fun _ _ _ => rfl, fun _ _ _ => rfl⟩
theorem Zc9.tr {μ q z : Mem} (h : Zc9 μ q) (h2 : Zc9 q z) : Zc9 μ z := ⟨h2.1, fun i k hp => (h2.2.1 i k hp).trans (h.2.1 i k hp), fun i k hp => (h2.2.2 i k hp).trans (h.2.2 i k hp)⟩
theorem Zc9.sF {μ q : Mem} {i k : Nat} {v : Int32} (h : Zc9 μ q) (hn : ¬ Pc9 i) : Zc9 μ (sF q i k v) := by
  refine ⟨rfl, fun j l hp => ?_, h.2.2⟩
  rw [sF_1]
  by_cases e : j = i
  · rw [e] at hp; exact absurd hp hn
  · rw [if_neg e]; exact h.2.1 j l hp
theorem Zc9.sL {μ q : Mem} {i k : Nat} {v : Int64} (h : Zc9 μ q) (hn : ¬ Pc9 i) : Zc9 μ (sL q i k v) := by
  refine ⟨rfl, h.2.1, fun j l hp => ?_⟩
  rw [sL_2]
  by_cases e : j = i
  · rw [e] at hp; exact absurd hp hn
  · rw [if_neg e]; exact h.2.2 j l hp
theorem Zc9.sR {μ q : Mem} {i k j : Nat} (h : Zc9 μ q) : Zc9 μ (sR q i k j) := ⟨rfl, h.2.1, h.2.2⟩
theorem x_X11_feedFour_b3 : ∀ (n : Nat) (a1 : Int32) (a2 : Int32) (μ : Mem), Uc9 μ → pk (p_X11_feedFour_b3  n a1 a2 μ) (fun q => Zc9 μ q) := by
  intro n
  induction n with
  | zero => intro a1 a2 μ  hU r e; rw [p_X11_feedFour_b3_z] at e; cases e
  | succ n ih =>
    intro a1 a2 μ  hU
    have z0 : Zc9 μ μ := Zc9.rf hU
    rw [p_X11_feedFour_b3_s]
    refine pk_ite (fun _ => ?_) (fun _ => ?_)
    · exact pk_some z0
    · refine pk_ite (fun _ => ?_) (fun _ => ?_)
      · exact pk_some z0
      · refine pk_bvy (fun v3 _ => ?_)
        refine pk_gd (fun _ => ?_)
        refine pk_bvy (fun μ4 ez1 => ?_)
        have z1 : Zc9 μ μ4 := by rw [ez1]; exact z0.sF (by unfold Pc9; omega)
        refine pk_bvy (fun μ5 ez2 => ?_)
        have z2 : Zc9 μ μ5 := by rw [ez2]; exact z1.sF (by unfold Pc9; omega)
        refine pk_bvy (fun v6 _ => ?_)
        exact pk_mono (ih a1 v6 μ5  z2.1) (fun _ hq => z2.tr hq)
theorem x_X11_feedFour (a1 : Int32) (μ : Mem)  (hU : Uc9 μ) : pk (p_X11_feedFour a1 μ) (fun q => Zc9 μ q) := by
  have z0 : Zc9 μ μ := Zc9.rf hU
  rw [p_X11_feedFour_eq]
  exact pk_mono (x_X11_feedFour_b3 FUEL a1 (24 : Int32) μ  z0.1) (fun _ hq => z0.tr hq)
theorem x_X11_feed (a1 : Int32) (a2 : Int32) (a3 : Int32) (a4 : Int32) (a5 : Int32) (μ : Mem)  (hU : Uc9 μ) : pk (p_X11_feed a1 a2 a3 a4 a5 μ) (fun q => Zc9 μ q.2) := by
  have z0 : Zc9 μ μ := Zc9.rf hU
  rw [p_X11_feed_eq]
  refine pk_ite (fun _ => ?_) (fun _ => ?_)
  · refine pk_bw (x_X11_feedFour a1 μ  z0.1) (fun μ2 ez1 => ?_)
    have z1 : Zc9 μ μ2 := z0.tr ez1
    refine pk_bw (x_X11_feedFour a2 μ2  z1.1) (fun μ4 ez2 => ?_)
    have z2 : Zc9 μ μ4 := z1.tr ez2
    refine pk_bw (x_X11_feedFour a3 μ4  z2.1) (fun μ6 ez3 => ?_)
    have z3 : Zc9 μ μ6 := z2.tr ez3
    refine pk_bw (x_X11_feedFour a4 μ6  z3.1) (fun μ8 ez4 => ?_)
    have z4 : Zc9 μ μ8 := z3.tr ez4
    refine pk_bw (x_X11_feedFour a5 μ8  z4.1) (fun μ10 ez5 => ?_)
    have z5 : Zc9 μ μ10 := z4.tr ez5
    exact pk_some z5
  · exact pk_some z0
theorem x_X11_end (a1 : Int32) (μ : Mem)  (hU : Uc9 μ) : pk (p_X11_end a1 μ) (fun q => Zc9 μ q.2) := by
  have z0 : Zc9 μ μ := Zc9.rf hU
  rw [p_X11_end_eq]
  refine pk_ite (fun _ => ?_) (fun _ => ?_)
  · exact pk_some z0
  · refine pk_ite (fun _ => ?_) (fun _ => ?_)
    · refine pk_bvy (fun μ3 ez1 => ?_)
      have z1 : Zc9 μ μ3 := by rw [ez1]; exact z0.sF (by unfold Pc9; omega)
      exact pk_some z1
    · exact pk_some z0
theorem x_X4_begin (a1 : Int32) (μ : Mem)  (hU : Uc9 μ) : pk (p_X4_begin a1 μ) (fun q => Zc9 μ q) := by
  have z0 : Zc9 μ μ := Zc9.rf hU
  rw [p_X4_begin_eq]
  refine pk_bvy (fun μ1 ez1 => ?_)
  have z1 : Zc9 μ μ1 := by rw [ez1]; exact z0.sF (by unfold Pc9; omega)
  refine pk_bvy (fun μ2 ez2 => ?_)
  have z2 : Zc9 μ μ2 := by rw [ez2]; exact z1.sF (by unfold Pc9; omega)
  refine pk_bvy (fun μ3 ez3 => ?_)
  have z3 : Zc9 μ μ3 := by rw [ez3]; exact z2.sF (by unfold Pc9; omega)
  exact pk_some z3
theorem x_X11_takeTape (μ : Mem)  (hU : Uc9 μ) : pk (p_X11_takeTape μ) (fun q => Zc9 μ q) := by
  have z0 : Zc9 μ μ := Zc9.rf hU
  rw [p_X11_takeTape_eq]
  refine pk_bw (x_X4_begin (μ.1 0 1) μ  z0.1) (fun μ1 ez1 => ?_)
  have z1 : Zc9 μ μ1 := z0.tr ez1
  refine pk_bvy (fun μ3 ez2 => ?_)
  have z2 : Zc9 μ μ3 := by rw [ez2]; exact z1.sF (by unfold Pc9; omega)
  exact pk_some z2
theorem x_X4_isWell (μ : Mem)  (hU : Uc9 μ) : pk (p_X4_isWell μ) (fun q => Zc9 μ q.2) := by
  have z0 : Zc9 μ μ := Zc9.rf hU
  rw [p_X4_isWell_eq]
  refine pk_ite (fun _ => ?_) (fun _ => ?_)
  · exact pk_some z0
  · exact pk_some z0
theorem x_X4_here (μ : Mem)  (hU : Uc9 μ) : pk (p_X4_here μ) (fun q => Zc9 μ q.2) := by
  have z0 : Zc9 μ μ := Zc9.rf hU
  rw [p_X4_here_eq]
  refine pk_ite (fun _ => ?_) (fun _ => ?_)
  · exact pk_some z0
  · refine pk_ite (fun _ => ?_) (fun _ => ?_)
    · exact pk_some z0
    · refine pk_gd (fun _ => ?_)
      exact pk_some z0
theorem x_X4_fail (a1 : Int32) (μ : Mem)  (hU : Uc9 μ) : pk (p_X4_fail a1 μ) (fun q => Zc9 μ q) := by
  have z0 : Zc9 μ μ := Zc9.rf hU
  rw [p_X4_fail_eq]
  refine pk_ite (fun _ => ?_) (fun _ => ?_)
  · refine pk_bvy (fun μ2 ez1 => ?_)
    have z1 : Zc9 μ μ2 := by rw [ez1]; exact z0.sF (by unfold Pc9; omega)
    exact pk_some z1
  · exact pk_some z0
theorem x_X4_take (a1 : Int32) (μ : Mem)  (hU : Uc9 μ) : pk (p_X4_take a1 μ) (fun q => Zc9 μ q.2) := by
  have z0 : Zc9 μ μ := Zc9.rf hU
  rw [p_X4_take_eq]
  refine pk_bd (x_X4_isWell μ  z0.1) (fun r2 μ1 ez1 => ?_)
  have z1 : Zc9 μ μ1 := z0.tr ez1
  refine pk_ite (fun _ => ?_) (fun _ => ?_)
  · exact pk_some z1
  · refine pk_bd (x_X4_here μ1  z1.1) (fun r5 μ4 ez2 => ?_)
    have z2 : Zc9 μ μ4 := z1.tr ez2
    refine pk_ite (fun _ => ?_) (fun _ => ?_)
    · refine pk_bvy (fun μ7 ez3 => ?_)
      have z3 : Zc9 μ μ7 := by rw [ez3]; exact z2.sF (by unfold Pc9; omega)
      exact pk_some z3
    · refine pk_bw (x_X4_fail (μ4.1 16 2) μ4  z2.1) (fun μ8 ez4 => ?_)
      have z4 : Zc9 μ μ8 := z2.tr ez4
      exact pk_some z4
theorem x_X3_startOf (a0 : Nat) (a1 : Int32) (μ : Mem)  (hU : Uc9 μ) : pk (p_X3_startOf a0 a1 μ) (fun q => Zc9 μ q.2) := by
  have z0 : Zc9 μ μ := Zc9.rf hU
  rw [p_X3_startOf_eq]
  refine pk_ite (fun _ => ?_) (fun _ => ?_)
  · exact pk_some z0
  · refine pk_ite (fun _ => ?_) (fun _ => ?_)
    · exact pk_some z0
    · refine pk_gd (fun _ => ?_)
      refine pk_ite (fun _ => ?_) (fun _ => ?_)
      · exact pk_some z0
      · refine pk_gd (fun _ => ?_)
        refine pk_ite (fun _ => ?_) (fun _ => ?_)
        · refine pk_gd (fun _ => ?_)
          refine pk_gd (fun _ => ?_)
          exact pk_some z0
        · exact pk_some z0
theorem x_X4_readDigits_b50 (a3 : Int32) (a4 : Int32) (μ : Mem)  (hU : Uc9 μ) : pk (p_X4_readDigits_b50 a3 a4 μ) (fun q => Zc9 μ q.2) := by
  have z0 : Zc9 μ μ := Zc9.rf hU
  rw [p_X4_readDigits_b50_eq]
  refine pk_ite (fun _ => ?_) (fun _ => ?_)
  · refine pk_bw (x_X4_fail (μ.1 16 2) μ  z0.1) (fun μ3 ez1 => ?_)
    have z1 : Zc9 μ μ3 := z0.tr ez1
    exact pk_some z1
  · exact pk_some z0
theorem x_X4_readDigits_b5 : ∀ (n : Nat) (a2 : Int32) (a3 : Int32) (a4 : Int32) (μ : Mem), Uc9 μ → pk (p_X4_readDigits_b5  n a2 a3 a4 μ) (fun q => Zc9 μ q.2) := by
  intro n
  induction n with
  | zero => intro a2 a3 a4 μ  hU r e; rw [p_X4_readDigits_b5_z] at e; cases e
  | succ n ih =>
    intro a2 a3 a4 μ  hU
    have z0 : Zc9 μ μ := Zc9.rf hU
    rw [p_X4_readDigits_b5_s]
    refine pk_ite (fun _ => ?_) (fun _ => ?_)
    · exact pk_mono (x_X4_readDigits_b50 a3 a4 μ  z0.1) (fun _ hq => z0.tr hq)
    · refine pk_bd (x_X4_here μ  z0.1) (fun r6 μ5 ez1 => ?_)
      have z1 : Zc9 μ μ5 := z0.tr ez1
      refine pk_ite (fun _ => ?_) (fun _ => ?_)
      · exact pk_mono (x_X4_readDigits_b50 a3 a4 μ5  z1.1) (fun _ hq => z1.tr hq)
      · refine pk_bd (x_X4_here μ5  z1.1) (fun r9 μ8 ez2 => ?_)
        have z2 : Zc9 μ μ8 := z1.tr ez2
        refine pk_bvy (fun v10 _ => ?_)
        refine pk_bvy (fun μ11 ez3 => ?_)
        have z3 : Zc9 μ μ11 := by rw [ez3]; exact z2.sF (by unfold Pc9; omega)
        refine pk_bvy (fun v12 _ => ?_)
        exact pk_mono (ih a2 v10 v12 μ11  z3.1) (fun _ hq => z3.tr hq)
theorem x_X4_readDigits (a1 : Int32) (a2 : Int32) (μ : Mem)  (hU : Uc9 μ) : pk (p_X4_readDigits a1 a2 μ) (fun q => Zc9 μ q.2) := by
  have z0 : Zc9 μ μ := Zc9.rf hU
  rw [p_X4_readDigits_eq]
  exact pk_mono (x_X4_readDigits_b5 FUEL a2 a1 (0 : Int32) μ  z0.1) (fun _ hq => z0.tr hq)
theorem x_X4_readNumber_b52 (a1 : Int32) (a2 : Int32) (μ : Mem)  (hU : Uc9 μ) : pk (p_X4_readNumber_b52 a1 a2 μ) (fun q => Zc9 μ q.2) := by
  have z0 : Zc9 μ μ := Zc9.rf hU
  rw [p_X4_readNumber_b52_eq]
  refine pk_ite (fun _ => ?_) (fun _ => ?_)
  · exact pk_some z0
  · exact pk_some z0
theorem x_X4_readNumber_b128 (a4 : Int32) (k0 : Int32) (k1 : Int32) (μ : Mem)  (hU : Uc9 μ) : pk (p_X4_readNumber_b128 a4 k0 k1 μ) (fun q => Zc9 μ q.2) := by
  have z0 : Zc9 μ μ := Zc9.rf hU
  rw [p_X4_readNumber_b128_eq]
  refine pk_bvy (fun v20 _ => ?_)
  refine pk_bvy (fun v21 _ => ?_)
  exact pk_some z0
theorem x_X4_readNumber_b95 : ∀ (n : Nat) (a1 : Int32) (a2 : Int32) (a4 : Int32) (a5 : Int32) (μ : Mem), Uc9 μ → pk (p_X4_readNumber_b95  n a1 a2 a4 a5 μ) (fun q => Zc9 μ q.2) := by
  intro n
  induction n with
  | zero => intro a1 a2 a4 a5 μ  hU r e; rw [p_X4_readNumber_b95_z] at e; cases e
  | succ n ih =>
    intro a1 a2 a4 a5 μ  hU
    have z0 : Zc9 μ μ := Zc9.rf hU
    rw [p_X4_readNumber_b95_s]
    refine pk_ite (fun _ => ?_) (fun _ => ?_)
    · refine pk_ite (fun _ => ?_) (fun _ => ?_)
      · exact pk_mono (x_X4_readNumber_b128 a4 a2 (0 : Int32) μ  z0.1) (fun _ hq => z0.tr hq)
      · exact pk_mono (x_X4_readNumber_b128 a4 (-a2) (0 : Int32) μ  z0.1) (fun _ hq => z0.tr hq)
    · refine pk_bvy (fun v22 _ => ?_)
      refine pk_bvy (fun v23 _ => ?_)
      exact pk_mono (ih a1 a2 v22 v23 μ  z0.1) (fun _ hq => z0.tr hq)
theorem x_X4_readNumber_b29 (a1 : Int32) (μ : Mem)  (hU : Uc9 μ) : pk (p_X4_readNumber_b29 a1 μ) (fun q => Zc9 μ q.2) := by
  have z0 : Zc9 μ μ := Zc9.rf hU
  rw [p_X4_readNumber_b29_eq]
  refine pk_bd (x_X4_readDigits (0 : Int32) (5 : Int32) μ  z0.1) (fun r6 μ5 ez1 => ?_)
  have z1 : Zc9 μ μ5 := z0.tr ez1
  refine pk_bd (x_X4_isWell μ5  z1.1) (fun r8 μ7 ez2 => ?_)
  have z2 : Zc9 μ μ7 := z1.tr ez2
  refine pk_ite (fun _ => ?_) (fun _ => ?_)
  · exact pk_mono (x_X4_readNumber_b52 a1 r6 μ7  z2.1) (fun _ hq => z2.tr hq)
  · refine pk_bd (x_X4_here μ7  z2.1) (fun r12 μ11 ez3 => ?_)
    have z3 : Zc9 μ μ11 := z2.tr ez3
    refine pk_ite (fun _ => ?_) (fun _ => ?_)
    · refine pk_bvy (fun μ14 ez4 => ?_)
      have z4 : Zc9 μ μ14 := by rw [ez4]; exact z3.sF (by unfold Pc9; omega)
      refine pk_bvy (fun v15 _ => ?_)
      refine pk_bd (x_X4_readDigits r6 (3 : Int32) μ14  z4.1) (fun r17 μ16 ez5 => ?_)
      have z5 : Zc9 μ μ16 := z4.tr ez5
      exact pk_mono (x_X4_readNumber_b95 FUEL a1 r17 (1 : Int32) v15 μ16  z5.1) (fun _ hq => z5.tr hq)
    · exact pk_mono (x_X4_readNumber_b52 a1 r6 μ11  z3.1) (fun _ hq => z3.tr hq)
theorem x_X4_readNumber_b14 (k0 : Int32) (μ : Mem)  (hU : Uc9 μ) : pk (p_X4_readNumber_b14 k0 μ) (fun q => Zc9 μ q.2) := by
  have z0 : Zc9 μ μ := Zc9.rf hU
  rw [p_X4_readNumber_b14_eq]
  refine pk_ite (fun _ => ?_) (fun _ => ?_)
  · exact pk_mono (x_X4_readNumber_b29 k0 μ  z0.1) (fun _ hq => z0.tr hq)
  · refine pk_bvy (fun μ24 ez1 => ?_)
    have z1 : Zc9 μ μ24 := by rw [ez1]; exact z0.sF (by unfold Pc9; omega)
    exact pk_mono (x_X4_readNumber_b29 k0 μ24  z1.1) (fun _ hq => z1.tr hq)
theorem x_X4_readNumber (μ : Mem)  (hU : Uc9 μ) : pk (p_X4_readNumber μ) (fun q => Zc9 μ q.2) := by
  have z0 : Zc9 μ μ := Zc9.rf hU
  rw [p_X4_readNumber_eq]
  refine pk_bd (x_X4_here μ  z0.1) (fun r2 μ1 ez1 => ?_)
  have z1 : Zc9 μ μ1 := z0.tr ez1
  refine pk_ite (fun _ => ?_) (fun _ => ?_)
  · exact pk_mono (x_X4_readNumber_b14 (1 : Int32) μ1  z1.1) (fun _ hq => z1.tr hq)
  · exact pk_mono (x_X4_readNumber_b14 (0 : Int32) μ1  z1.1) (fun _ hq => z1.tr hq)
theorem x_X2_begin (a0 : Nat) (a1 : Int32) (μ : Mem) (g_a0 : Gcx9 a0) (hU : Uc9 μ) : pk (p_X2_begin a0 a1 μ) (fun q => Zc9 μ q) := by
  have z0 : Zc9 μ μ := Zc9.rf hU
  rw [p_X2_begin_eq]
  refine pk_bvy (fun μ1 ez1 => ?_)
  have z1 : Zc9 μ μ1 := by rw [ez1]; exact z0.sF (by have h0 := g_a0; unfold Gcx9 at h0; unfold Pc9; omega)
  refine pk_bvy (fun μ2 ez2 => ?_)
  have z2 : Zc9 μ μ2 := by rw [ez2]; exact z1.sF (by have h0 := g_a0; unfold Gcx9 at h0; unfold Pc9; omega)
  exact pk_some z2
theorem x_X2_add (a0 : Nat) (a1 : Int64) (a3 : Int64) (μ : Mem) (g_a0 : Gcx9 a0) (hU : Uc9 μ) : pk (p_X2_add a0 a1 a3 μ) (fun q => Zc9 μ q) := by
  have z0 : Zc9 μ μ := Zc9.rf hU
  rw [p_X2_add_eq]
  refine pk_ite (fun _ => ?_) (fun _ => ?_)
  · exact pk_some z0
  · refine pk_gd (fun _ => ?_)
    refine pk_bvy (fun μ2 ez1 => ?_)
    have z1 : Zc9 μ μ2 := by rw [ez1]; exact z0.sL (by have h0 := g_a0; unfold Gcx9 at h0; unfold Pc9; omega)
    refine pk_gd (fun _ => ?_)
    refine pk_bvy (fun μ3 ez2 => ?_)
    have z2 : Zc9 μ μ3 := by rw [ez2]; exact z1.sL (by have h0 := g_a0; unfold Gcx9 at h0; unfold Pc9; omega)
    refine pk_bvy (fun μ4 ez3 => ?_)
    have z3 : Zc9 μ μ4 := by rw [ez3]; exact z2.sF (by have h0 := g_a0; unfold Gcx9 at h0; unfold Pc9; omega)
    exact pk_some z3
theorem x_X2_stars_b28 (K4 : Nat → Int32 → Int32 → Mem → Option (Int32 × Mem)) (hK4 : ∀ (y0 : Nat) (y1 : Int32) (y2 : Int32) (y3 : Mem), Uc9 y3 → pk (K4 y0 y1 y2 y3) (fun q => Zc9 y3 q.2)) (a0 : Nat) (a1 : Int32) (a2 : Int32) (μ : Mem)  (hU : Uc9 μ) : pk (p_X2_stars_b28 K4 a0 a1 a2 μ) (fun q => Zc9 μ q.2) := by
  have z0 : Zc9 μ μ := Zc9.rf hU
  rw [p_X2_stars_b28_eq]
  refine pk_bvy (fun v3 _ => ?_)
  exact pk_mono (hK4 a0 a1 v3 μ  z0.1) (fun _ hq => z0.tr hq)
theorem x_X2_stars_b4 : ∀ (n : Nat) (a0 : Nat) (a1 : Int32) (a2 : Int32) (μ : Mem), Uc9 μ → pk (p_X2_stars_b4  n a0 a1 a2 μ) (fun q => Zc9 μ q.2) := by
  intro n
  induction n with
  | zero => intro a0 a1 a2 μ  hU r e; rw [p_X2_stars_b4_z] at e; cases e
  | succ n ih =>
    intro a0 a1 a2 μ  hU
    have z0 : Zc9 μ μ := Zc9.rf hU
    rw [p_X2_stars_b4_s]
    refine pk_ite (fun _ => ?_) (fun _ => ?_)
    · exact pk_some z0
    · refine pk_gd (fun _ => ?_)
      refine pk_ite (fun _ => ?_) (fun _ => ?_)
      · refine pk_bvy (fun v4 _ => ?_)
        exact pk_mono (x_X2_stars_b28 (p_X2_stars_b4  n) ih a0 v4 a2 μ  z0.1) (fun _ hq => z0.tr hq)
      · exact pk_mono (x_X2_stars_b28 (p_X2_stars_b4  n) ih a0 a1 a2 μ  z0.1) (fun _ hq => z0.tr hq)
theorem x_X2_stars (a0 : Nat) (μ : Mem)  (hU : Uc9 μ) : pk (p_X2_stars a0 μ) (fun q => Zc9 μ q.2) := by
  have z0 : Zc9 μ μ := Zc9.rf hU
  rw [p_X2_stars_eq]
  exact pk_mono (x_X2_stars_b4 FUEL a0 (0 : Int32) (0 : Int32) μ  z0.1) (fun _ hq => z0.tr hq)
theorem x_X4_readPart (RE : Nat → Int32 → Int32 → Mem → Option Mem) (hRE : ∀ (y0 : Nat) (y1 : Int32) (y2 : Int32) (y3 : Mem), Gcx9 y0 → Uc9 y3 → pk (RE y0 y1 y2 y3) (fun q => Zc9 y3 q)) (a1 : Nat) (a2 : Int32) (a3 : Int32) (μ : Mem) (g_a1 : Gcx9 a1) (hU : Uc9 μ) : pk (p_X4_readPart RE a1 a2 a3 μ) (fun q => Zc9 μ q) := by
  have z0 : Zc9 μ μ := Zc9.rf hU
  rw [p_X4_readPart_eq]
  refine pk_bd (x_X4_isWell μ  z0.1) (fun r2 μ1 ez1 => ?_)
  have z1 : Zc9 μ μ1 := z0.tr ez1
  refine pk_ite (fun _ => ?_) (fun _ => ?_)
  · exact pk_some z1
  · refine pk_bd (x_X4_here μ1  z1.1) (fun r5 μ4 ez2 => ?_)
    have z2 : Zc9 μ μ4 := z1.tr ez2
    refine pk_ite (fun _ => ?_) (fun _ => ?_)
    · refine pk_bw (x_X4_fail (μ4.1 16 2) μ4  z2.1) (fun μ7 ez3 => ?_)
      have z3 : Zc9 μ μ7 := z2.tr ez3
      exact pk_some z3
    · refine pk_ite (fun _ => ?_) (fun _ => ?_)
      · refine pk_ite (fun _ => ?_) (fun _ => ?_)
        · refine pk_bvy (fun μ27 ez4 => ?_)
          have z4 : Zc9 μ μ27 := by rw [ez4]; exact z2.sF (by unfold Pc9; omega)
          refine pk_bw (x_X2_add a1 (8589934592 : Int64) (0 : Int64) μ27 g_a1 z4.1) (fun μ28 ez5 => ?_)
          have z5 : Zc9 μ μ28 := z4.tr ez5
          refine pk_bw (hRE a1 a2 (a3 + (1 : Int32)) μ28 g_a1 z5.1) (fun μ30 ez6 => ?_)
          have z6 : Zc9 μ μ30 := z5.tr ez6
          refine pk_bd (x_X4_take (44 : Int32) μ30  z6.1) (fun r33 μ32 ez7 => ?_)
          have z7 : Zc9 μ μ32 := z6.tr ez7
          refine pk_bw (hRE a1 a2 (a3 + (1 : Int32)) μ32 g_a1 z7.1) (fun μ34 ez8 => ?_)
          have z8 : Zc9 μ μ34 := z7.tr ez8
          refine pk_bd (x_X4_take (93 : Int32) μ34  z8.1) (fun r37 μ36 ez9 => ?_)
          have z9 : Zc9 μ μ36 := z8.tr ez9
          exact pk_some z9
        · refine pk_ite (fun _ => ?_) (fun _ => ?_)
          · refine pk_ite (fun _ => ?_) (fun _ => ?_)
            · refine pk_bd (x_X2_stars a1 μ4  z2.1) (fun r16 μ15 ez10 => ?_)
              have z10 : Zc9 μ μ15 := z2.tr ez10
              refine pk_ite (fun _ => ?_) (fun _ => ?_)
              · refine pk_bw (x_X4_fail (μ15.1 16 2) μ15  z10.1) (fun μ18 ez11 => ?_)
                have z11 : Zc9 μ μ18 := z10.tr ez11
                exact pk_some z11
              · refine pk_bvy (fun μ20 ez12 => ?_)
                have z12 : Zc9 μ μ20 := by rw [ez12]; exact z10.sF (by unfold Pc9; omega)
                refine pk_bw (x_X2_add a1 (17179869184 : Int64) (0 : Int64) μ20 g_a1 z12.1) (fun μ21 ez13 => ?_)
                have z13 : Zc9 μ μ21 := z12.tr ez13
                exact pk_some z13
            · refine pk_bw (x_X4_fail (μ4.1 16 2) μ4  z2.1) (fun μ13 ez14 => ?_)
              have z14 : Zc9 μ μ13 := z2.tr ez14
              exact pk_some z14
          · refine pk_bd (x_X4_readNumber μ4  z2.1) (fun r24 μ23 ez15 => ?_)
            have z15 : Zc9 μ μ23 := z2.tr ez15
            refine pk_bw (x_X2_add a1 r24 (0 : Int64) μ23 g_a1 z15.1) (fun μ25 ez16 => ?_)
            have z16 : Zc9 μ μ25 := z15.tr ez16
            exact pk_some z16
      · refine pk_bw (x_X4_fail (μ4.1 16 2) μ4  z2.1) (fun μ38 ez17 => ?_)
        have z17 : Zc9 μ μ38 := z2.tr ez17
        exact pk_some z17
theorem xr_X4_readPart : ∀ (n : Nat) (a1 : Nat) (a2 : Int32) (a3 : Int32) (μ : Mem), Gcx9 a1 → Uc9 μ → pk (pr_X4_readPart n a1 a2 a3 μ) (fun q => Zc9 μ q) := by
  intro n
  induction n with
  | zero => intro a1 a2 a3 μ g_a1 hU r e; rw [pr_X4_readPart_z] at e; cases e
  | succ n ih =>
    intro a1 a2 a3 μ g_a1 hU
    rw [pr_X4_readPart_s]
    exact x_X4_readPart _ ih a1 a2 a3 μ g_a1 hU
theorem x_X4_takeEnd (μ : Mem)  (hU : Uc9 μ) : pk (p_X4_takeEnd μ) (fun q => Zc9 μ q) := by
  have z0 : Zc9 μ μ := Zc9.rf hU
  rw [p_X4_takeEnd_eq]
  refine pk_bd (x_X4_isWell μ  z0.1) (fun r2 μ1 ez1 => ?_)
  have z1 : Zc9 μ μ1 := z0.tr ez1
  refine pk_ite (fun _ => ?_) (fun _ => ?_)
  · exact pk_some z1
  · refine pk_ite (fun _ => ?_) (fun _ => ?_)
    · exact pk_some z1
    · refine pk_bw (x_X4_fail (μ1.1 16 2) μ1  z1.1) (fun μ5 ez2 => ?_)
      have z2 : Zc9 μ μ5 := z1.tr ez2
      exact pk_some z2
theorem x_X4_readTask_b116 (a1 : Nat) (a2 : Int32) (a3 : Int32) (μ : Mem) (g_a1 : Gcx9 a1) (hU : Uc9 μ) : pk (p_X4_readTask_b116 a1 a2 a3 μ) (fun q => Zc9 μ q) := by
  have z0 : Zc9 μ μ := Zc9.rf hU
  rw [p_X4_readTask_b116_eq]
  refine pk_bd (x_X4_take (41 : Int32) μ  z0.1) (fun r13 μ12 ez1 => ?_)
  have z1 : Zc9 μ μ12 := z0.tr ez1
  refine pk_bvy (fun μ14 ez2 => ?_)
  have z2 : Zc9 μ μ14 := by rw [ez2]; exact z1.sF (by have h0 := g_a1; unfold Gcx9 at h0; unfold Pc9; omega)
  refine pk_bw (x_X4_takeEnd μ14  z2.1) (fun μ15 ez3 => ?_)
  have z3 : Zc9 μ μ15 := z2.tr ez3
  exact pk_some z3
theorem x_X4_readTask_b71 : ∀ (n : Nat) (a1 : Nat) (a2 : Int32) (a3 : Int32) (μ : Mem), Gcx9 a1 → Uc9 μ → pk (p_X4_readTask_b71  n a1 a2 a3 μ) (fun q => Zc9 μ q) := by
  intro n
  induction n with
  | zero => intro a1 a2 a3 μ g_a1 hU r e; rw [p_X4_readTask_b71_z] at e; cases e
  | succ n ih =>
    intro a1 a2 a3 μ g_a1 hU
    have z0 : Zc9 μ μ := Zc9.rf hU
    rw [p_X4_readTask_b71_s]
    refine pk_bd (x_X4_isWell μ  z0.1) (fun r23 μ22 ez1 => ?_)
    have z1 : Zc9 μ μ22 := z0.tr ez1
    refine pk_ite (fun _ => ?_) (fun _ => ?_)
    · exact pk_mono (x_X4_readTask_b116 a1 a2 a3 μ22 g_a1 z1.1) (fun _ hq => z1.tr hq)
    · refine pk_bd (x_X4_here μ22  z1.1) (fun r26 μ25 ez2 => ?_)
      have z2 : Zc9 μ μ25 := z1.tr ez2
      refine pk_ite (fun _ => ?_) (fun _ => ?_)
      · refine pk_ite (fun _ => ?_) (fun _ => ?_)
        · exact pk_mono (x_X4_readTask_b116 a1 a2 a3 μ25 g_a1 z2.1) (fun _ hq => z2.tr hq)
        · refine pk_bvy (fun μ29 ez3 => ?_)
          have z3 : Zc9 μ μ29 := by rw [ez3]; exact z2.sF (by unfold Pc9; omega)
          refine pk_bw (xr_X4_readPart 50 a1 (8 : Int32) (0 : Int32) μ29 g_a1 z3.1) (fun μ30 ez4 => ?_)
          have z4 : Zc9 μ μ30 := z3.tr ez4
          refine pk_bvy (fun v32 _ => ?_)
          exact pk_mono (ih a1 a2 v32 μ30 g_a1 z4.1) (fun _ hq => z4.tr hq)
      · exact pk_mono (x_X4_readTask_b116 a1 a2 a3 μ25 g_a1 z2.1) (fun _ hq => z2.tr hq)
theorem x_X4_readTask (a1 : Nat) (μ : Mem) (g_a1 : Gcx9 a1) (hU : Uc9 μ) : pk (p_X4_readTask a1 μ) (fun q => Zc9 μ q) := by
  have z0 : Zc9 μ μ := Zc9.rf hU
  rw [p_X4_readTask_eq]
  refine pk_bw (x_X2_begin a1 (0 : Int32) μ g_a1 z0.1) (fun μ1 ez1 => ?_)
  have z1 : Zc9 μ μ1 := z0.tr ez1
  refine pk_bd (x_X4_here μ1  z1.1) (fun r4 μ3 ez2 => ?_)
  have z2 : Zc9 μ μ3 := z1.tr ez2
  refine pk_ite (fun _ => ?_) (fun _ => ?_)
  · refine pk_bw (x_X4_fail (μ3.1 16 2) μ3  z2.1) (fun μ33 ez3 => ?_)
    have z3 : Zc9 μ μ33 := z2.tr ez3
    exact pk_some z3
  · refine pk_bvy (fun μ6 ez4 => ?_)
    have z4 : Zc9 μ μ6 := by rw [ez4]; exact z2.sF (by unfold Pc9; omega)
    refine pk_bd (x_X4_take (40 : Int32) μ6  z4.1) (fun r8 μ7 ez5 => ?_)
    have z5 : Zc9 μ μ7 := z4.tr ez5
    refine pk_bd (x_X4_isWell μ7  z5.1) (fun r10 μ9 ez6 => ?_)
    have z6 : Zc9 μ μ9 := z5.tr ez6
    refine pk_ite (fun _ => ?_) (fun _ => ?_)
    · exact pk_mono (x_X4_readTask_b116 a1 r4 (0 : Int32) μ9 g_a1 z6.1) (fun _ hq => z6.tr hq)
    · refine pk_bd (x_X4_here μ9  z6.1) (fun r18 μ17 ez7 => ?_)
      have z7 : Zc9 μ μ17 := z6.tr ez7
      refine pk_ite (fun _ => ?_) (fun _ => ?_)
      · exact pk_mono (x_X4_readTask_b116 a1 r4 (0 : Int32) μ17 g_a1 z7.1) (fun _ hq => z7.tr hq)
      · refine pk_bw (xr_X4_readPart 50 a1 (8 : Int32) (0 : Int32) μ17 g_a1 z7.1) (fun μ20 ez8 => ?_)
        have z8 : Zc9 μ μ20 := z7.tr ez8
        exact pk_mono (x_X4_readTask_b71 FUEL a1 r4 (1 : Int32) μ20 g_a1 z8.1) (fun _ hq => z8.tr hq)
theorem x_X4_readValues_b30 (K7 : Nat → Int32 → Int32 → Mem → Option Mem) (hK7 : ∀ (y0 : Nat) (y1 : Int32) (y2 : Int32) (y3 : Mem), Gcx9 y0 → Uc9 y3 → pk (K7 y0 y1 y2 y3) (fun q => Zc9 y3 q)) (a1 : Nat) (a2 : Int32) (a3 : Int32) (μ : Mem) (g_a1 : Gcx9 a1) (hU : Uc9 μ) : pk (p_X4_readValues_b30 K7 a1 a2 a3 μ) (fun q => Zc9 μ q) := by
  have z0 : Zc9 μ μ := Zc9.rf hU
  rw [p_X4_readValues_b30_eq]
  refine pk_bw (xr_X4_readPart 50 a1 (0 : Int32) (0 : Int32) μ g_a1 z0.1) (fun μ12 ez1 => ?_)
  have z1 : Zc9 μ μ12 := z0.tr ez1
  refine pk_bvy (fun v14 _ => ?_)
  exact pk_mono (hK7 a1 a2 v14 μ12 g_a1 z1.1) (fun _ hq => z1.tr hq)
theorem x_X4_readValues_b7 : ∀ (n : Nat) (a1 : Nat) (a2 : Int32) (a3 : Int32) (μ : Mem), Gcx9 a1 → Uc9 μ → pk (p_X4_readValues_b7  n a1 a2 a3 μ) (fun q => Zc9 μ q) := by
  intro n
  induction n with
  | zero => intro a1 a2 a3 μ g_a1 hU r e; rw [p_X4_readValues_b7_z] at e; cases e
  | succ n ih =>
    intro a1 a2 a3 μ g_a1 hU
    have z0 : Zc9 μ μ := Zc9.rf hU
    rw [p_X4_readValues_b7_s]
    refine pk_ite (fun _ => ?_) (fun _ => ?_)
    · refine pk_bw (x_X4_takeEnd μ  z0.1) (fun μ4 ez1 => ?_)
      have z1 : Zc9 μ μ4 := z0.tr ez1
      exact pk_some z1
    · refine pk_bd (x_X4_isWell μ  z0.1) (fun r7 μ6 ez2 => ?_)
      have z2 : Zc9 μ μ6 := z0.tr ez2
      refine pk_ite (fun _ => ?_) (fun _ => ?_)
      · refine pk_bw (x_X4_takeEnd μ6  z2.1) (fun μ9 ez3 => ?_)
        have z3 : Zc9 μ μ9 := z2.tr ez3
        exact pk_some z3
      · refine pk_ite (fun _ => ?_) (fun _ => ?_)
        · exact pk_mono (x_X4_readValues_b30 (p_X4_readValues_b7  n) ih a1 a2 a3 μ6 g_a1 z2.1) (fun _ hq => z2.tr hq)
        · refine pk_bd (x_X4_take (44 : Int32) μ6  z2.1) (fun r16 μ15 ez4 => ?_)
          have z4 : Zc9 μ μ15 := z2.tr ez4
          exact pk_mono (x_X4_readValues_b30 (p_X4_readValues_b7  n) ih a1 a2 a3 μ15 g_a1 z4.1) (fun _ hq => z4.tr hq)
theorem x_X4_readValues (a1 : Nat) (a2 : Int32) (μ : Mem) (g_a1 : Gcx9 a1) (hU : Uc9 μ) : pk (p_X4_readValues a1 a2 μ) (fun q => Zc9 μ q) := by
  have z0 : Zc9 μ μ := Zc9.rf hU
  rw [p_X4_readValues_eq]
  refine pk_bw (x_X2_begin a1 (0 : Int32) μ g_a1 z0.1) (fun μ1 ez1 => ?_)
  have z1 : Zc9 μ μ1 := z0.tr ez1
  exact pk_mono (x_X4_readValues_b7 FUEL a1 a2 (0 : Int32) μ1 g_a1 z1.1) (fun _ hq => z1.tr hq)
theorem x_X11_fault (μ : Mem)  (hU : Uc9 μ) : pk (p_X11_fault μ) (fun q => Zc9 μ q.2) := by
  have z0 : Zc9 μ μ := Zc9.rf hU
  rw [p_X11_fault_eq]
  exact pk_some z0
theorem x_X10_setLimit_b46 (a1 : Int32) (a2 : Int32) (μ : Mem)  (hU : Uc9 μ) : pk (p_X10_setLimit_b46 a1 a2 μ) (fun q => Zc9 μ q.2) := by
  have z0 : Zc9 μ μ := Zc9.rf hU
  rw [p_X10_setLimit_b46_eq]
  refine pk_ite (fun _ => ?_) (fun _ => ?_)
  · refine pk_ite (fun _ => ?_) (fun _ => ?_)
    · exact pk_some z0
    · refine pk_ite (fun _ => ?_) (fun _ => ?_)
      · exact pk_some z0
      · refine pk_bvy (fun μ6 ez1 => ?_)
        have z1 : Zc9 μ μ6 := by rw [ez1]; exact z0.sF (by unfold Pc9; omega)
        exact pk_some z1
  · exact pk_some z0
theorem x_X10_setLimit_b22 (a1 : Int32) (a2 : Int32) (μ : Mem)  (hU : Uc9 μ) : pk (p_X10_setLimit_b22 a1 a2 μ) (fun q => Zc9 μ q.2) := by
  have z0 : Zc9 μ μ := Zc9.rf hU
  rw [p_X10_setLimit_b22_eq]
  refine pk_ite (fun _ => ?_) (fun _ => ?_)
  · refine pk_ite (fun _ => ?_) (fun _ => ?_)
    · exact pk_mono (x_X10_setLimit_b46 a1 a2 μ  z0.1) (fun _ hq => z0.tr hq)
    · refine pk_ite (fun _ => ?_) (fun _ => ?_)
      · exact pk_mono (x_X10_setLimit_b46 a1 a2 μ  z0.1) (fun _ hq => z0.tr hq)
      · refine pk_bvy (fun μ9 ez1 => ?_)
        have z1 : Zc9 μ μ9 := by rw [ez1]; exact z0.sF (by unfold Pc9; omega)
        exact pk_some z1
  · exact pk_mono (x_X10_setLimit_b46 a1 a2 μ  z0.1) (fun _ hq => z0.tr hq)
theorem x_X10_setLimit (a1 : Int32) (a2 : Int32) (μ : Mem)  (hU : Uc9 μ) : pk (p_X10_setLimit a1 a2 μ) (fun q => Zc9 μ q.2) := by
  have z0 : Zc9 μ μ := Zc9.rf hU
  rw [p_X10_setLimit_eq]
  refine pk_ite (fun _ => ?_) (fun _ => ?_)
  · refine pk_ite (fun _ => ?_) (fun _ => ?_)
    · exact pk_mono (x_X10_setLimit_b22 a1 a2 μ  z0.1) (fun _ hq => z0.tr hq)
    · refine pk_ite (fun _ => ?_) (fun _ => ?_)
      · exact pk_mono (x_X10_setLimit_b22 a1 a2 μ  z0.1) (fun _ hq => z0.tr hq)
      · refine pk_bvy (fun μ12 ez1 => ?_)
        have z1 : Zc9 μ μ12 := by rw [ez1]; exact z0.sF (by unfold Pc9; omega)
        exact pk_some z1
  · exact pk_mono (x_X10_setLimit_b22 a1 a2 μ  z0.1) (fun _ hq => z0.tr hq)
theorem x_X11_is (a1 : Int32) (μ : Mem)  (hU : Uc9 μ) : pk (p_X11_is a1 μ) (fun q => Zc9 μ q.2) := by
  have z0 : Zc9 μ μ := Zc9.rf hU
  rw [p_X11_is_eq]
  refine pk_ite (fun _ => ?_) (fun _ => ?_)
  · exact pk_some z0
  · refine pk_ite (fun _ => ?_) (fun _ => ?_)
    · refine pk_bd (x_X2_stars (sel 1 (μ.2.2 0 6)) μ  z0.1) (fun r5 μ4 ez1 => ?_)
      have z1 : Zc9 μ μ4 := z0.tr ez1
      exact pk_some z1
    · refine pk_ite (fun _ => ?_) (fun _ => ?_)
      · refine pk_ite (fun _ => ?_) (fun _ => ?_)
        · exact pk_some z0
        · refine pk_bd (x_X2_stars (sel 1 (μ.2.2 0 6)) μ  z0.1) (fun r9 μ8 ez2 => ?_)
          have z2 : Zc9 μ μ8 := z0.tr ez2
          exact pk_some z2
      · refine pk_ite (fun _ => ?_) (fun _ => ?_)
        · exact pk_some z0
        · refine pk_ite (fun _ => ?_) (fun _ => ?_)
          · exact pk_some z0
          · refine pk_ite (fun _ => ?_) (fun _ => ?_)
            · exact pk_some z0
            · refine pk_ite (fun _ => ?_) (fun _ => ?_)
              · exact pk_some z0
              · refine pk_ite (fun _ => ?_) (fun _ => ?_)
                · exact pk_some z0
                · exact pk_some z0
theorem x_X3_about (a0 : Nat) (a1 : Int32) (a2 : Int32) (μ : Mem)  (hU : Uc9 μ) : pk (p_X3_about a0 a1 a2 μ) (fun q => Zc9 μ q.2) := by
  have z0 : Zc9 μ μ := Zc9.rf hU
  rw [p_X3_about_eq]
  refine pk_ite (fun _ => ?_) (fun _ => ?_)
  · exact pk_some z0
  · refine pk_ite (fun _ => ?_) (fun _ => ?_)
    · exact pk_some z0
    · refine pk_ite (fun _ => ?_) (fun _ => ?_)
      · exact pk_some z0
      · refine pk_ite (fun _ => ?_) (fun _ => ?_)
        · refine pk_gd (fun _ => ?_)
          exact pk_some z0
        · exact pk_some z0
theorem x_X11_function (a1 : Int32) (a2 : Int32) (μ : Mem)  (hU : Uc9 μ) : pk (p_X11_function a1 a2 μ) (fun q => Zc9 μ q.2) := by
  have z0 : Zc9 μ μ := Zc9.rf hU
  rw [p_X11_function_eq]
  refine pk_bd (x_X3_about (sel 2 (μ.2.2 0 4)) a1 a2 μ  z0.1) (fun r2 μ1 ez1 => ?_)
  have z1 : Zc9 μ μ1 := z0.tr ez1
  exact pk_some z1
theorem x_X2_addParts_b3 : ∀ (n : Nat) (a0 : Nat) (a1 : Nat) (a3 : Int32) (a4 : Int32) (μ : Mem), Gcx9 a0 → Uc9 μ → pk (p_X2_addParts_b3  n a0 a1 a3 a4 μ) (fun q => Zc9 μ q) := by
  intro n
  induction n with
  | zero => intro a0 a1 a3 a4 μ g_a0 hU r e; rw [p_X2_addParts_b3_z] at e; cases e
  | succ n ih =>
    intro a0 a1 a3 a4 μ g_a0 hU
    have z0 : Zc9 μ μ := Zc9.rf hU
    rw [p_X2_addParts_b3_s]
    refine pk_ite (fun _ => ?_) (fun _ => ?_)
    · exact pk_some z0
    · refine pk_ite (fun _ => ?_) (fun _ => ?_)
      · exact pk_some z0
      · refine pk_gd (fun _ => ?_)
        refine pk_gd (fun _ => ?_)
        refine pk_bw (x_X2_add a0 (μ.2.1 (a1 + 1) a4.toNatClampNeg) (μ.2.1 (a1 + 2) a4.toNatClampNeg) μ g_a0 z0.1) (fun μ3 ez1 => ?_)
        have z1 : Zc9 μ μ3 := z0.tr ez1
        refine pk_bvy (fun v5 _ => ?_)
        exact pk_mono (ih a0 a1 a3 v5 μ3 g_a0 z1.1) (fun _ hq => z1.tr hq)
theorem x_X2_addParts (a0 : Nat) (a1 : Nat) (a2 : Int32) (a3 : Int32) (μ : Mem) (g_a0 : Gcx9 a0) (hU : Uc9 μ) : pk (p_X2_addParts a0 a1 a2 a3 μ) (fun q => Zc9 μ q) := by
  have z0 : Zc9 μ μ := Zc9.rf hU
  rw [p_X2_addParts_eq]
  exact pk_mono (x_X2_addParts_b3 FUEL a0 a1 a3 a2 μ g_a0 z0.1) (fun _ hq => z0.tr hq)
theorem x_X2_copyFrom (a0 : Nat) (a1 : Nat) (μ : Mem) (g_a0 : Gcx9 a0) (hU : Uc9 μ) : pk (p_X2_copyFrom a0 a1 μ) (fun q => Zc9 μ q) := by
  have z0 : Zc9 μ μ := Zc9.rf hU
  rw [p_X2_copyFrom_eq]
  refine pk_bw (x_X2_begin a0 (μ.1 a1 3) μ g_a0 z0.1) (fun μ1 ez1 => ?_)
  have z1 : Zc9 μ μ1 := z0.tr ez1
  refine pk_bw (x_X2_addParts a0 a1 (0 : Int32) (μ1.1 a1 2) μ1 g_a0 z1.1) (fun μ3 ez2 => ?_)
  have z2 : Zc9 μ μ3 := z1.tr ez2
  exact pk_some z2
theorem x_X5_patternOf (a1 : Int32) (μ : Mem)  (hU : Uc9 μ) : pk (p_X5_patternOf a1 μ) (fun q => Zc9 μ q.2) := by
  have z0 : Zc9 μ μ := Zc9.rf hU
  rw [p_X5_patternOf_eq]
  refine pk_gd (fun _ => ?_)
  exact pk_some z0
theorem x_X8_clear (μ : Mem)  (hU : Uc9 μ) : pk (p_X8_clear μ) (fun q => Zc9 μ q) := by
  have z0 : Zc9 μ μ := Zc9.rf hU
  rw [p_X8_clear_eq]
  refine pk_bvy (fun μ1 ez1 => ?_)
  have z1 : Zc9 μ μ1 := by rw [ez1]; exact z0.sF (by unfold Pc9; omega)
  refine pk_bvy (fun μ2 ez2 => ?_)
  have z2 : Zc9 μ μ2 := by rw [ez2]; exact z1.sF (by unfold Pc9; omega)
  refine pk_bvy (fun μ3 ez3 => ?_)
  have z3 : Zc9 μ μ3 := by rw [ez3]; exact z2.sF (by unfold Pc9; omega)
  exact pk_some z3
theorem x_X8_isPair (a1 : Int64) (μ : Mem)  (hU : Uc9 μ) : pk (p_X8_isPair a1 μ) (fun q => Zc9 μ q.2) := by
  have z0 : Zc9 μ μ := Zc9.rf hU
  rw [p_X8_isPair_eq]
  refine pk_ite (fun _ => ?_) (fun _ => ?_)
  · refine pk_ite (fun _ => ?_) (fun _ => ?_)
    · exact pk_some z0
    · refine pk_ite (fun _ => ?_) (fun _ => ?_)
      · exact pk_some z0
      · exact pk_some z0
  · exact pk_some z0
theorem x_X8_weightOf (a1 : Int64) (μ : Mem)  (hU : Uc9 μ) : pk (p_X8_weightOf a1 μ) (fun q => Zc9 μ q.2) := by
  have z0 : Zc9 μ μ := Zc9.rf hU
  rw [p_X8_weightOf_eq]
  refine pk_bd (x_X8_isPair a1 μ  z0.1) (fun r2 μ1 ez1 => ?_)
  have z1 : Zc9 μ μ1 := z0.tr ez1
  refine pk_ite (fun _ => ?_) (fun _ => ?_)
  · exact pk_some z1
  · refine pk_gd (fun _ => ?_)
    exact pk_some z1
theorem x_X8_deepOf (a1 : Int64) (μ : Mem)  (hU : Uc9 μ) : pk (p_X8_deepOf a1 μ) (fun q => Zc9 μ q.2) := by
  have z0 : Zc9 μ μ := Zc9.rf hU
  rw [p_X8_deepOf_eq]
  refine pk_bd (x_X8_isPair a1 μ  z0.1) (fun r2 μ1 ez1 => ?_)
  have z1 : Zc9 μ μ1 := z0.tr ez1
  refine pk_ite (fun _ => ?_) (fun _ => ?_)
  · exact pk_some z1
  · refine pk_gd (fun _ => ?_)
    exact pk_some z1
theorem x_X8_pair (a1 : Int64) (a3 : Int64) (μ : Mem)  (hU : Uc9 μ) : pk (p_X8_pair a1 a3 μ) (fun q => Zc9 μ q.2) := by
  have z0 : Zc9 μ μ := Zc9.rf hU
  rw [p_X8_pair_eq]
  refine pk_ite (fun _ => ?_) (fun _ => ?_)
  · refine pk_gd (fun _ => ?_)
    refine pk_bvy (fun μ2 ez1 => ?_)
    have z1 : Zc9 μ μ2 := by rw [ez1]; exact z0.sL (by unfold Pc9; omega)
    refine pk_gd (fun _ => ?_)
    refine pk_bvy (fun μ3 ez2 => ?_)
    have z2 : Zc9 μ μ3 := by rw [ez2]; exact z1.sL (by unfold Pc9; omega)
    refine pk_bd (x_X8_weightOf a1 μ3  z2.1) (fun r5 μ4 ez3 => ?_)
    have z3 : Zc9 μ μ4 := z2.tr ez3
    refine pk_bd (x_X8_weightOf a3 μ4  z3.1) (fun r7 μ6 ez4 => ?_)
    have z4 : Zc9 μ μ6 := z3.tr ez4
    refine pk_gd (fun _ => ?_)
    refine pk_bvy (fun μ8 ez5 => ?_)
    have z5 : Zc9 μ μ8 := by rw [ez5]; exact z4.sF (by unfold Pc9; omega)
    refine pk_bd (x_X8_deepOf a1 μ8  z5.1) (fun r10 μ9 ez6 => ?_)
    have z6 : Zc9 μ μ9 := z5.tr ez6
    refine pk_bd (x_X8_deepOf a3 μ9  z6.1) (fun r12 μ11 ez7 => ?_)
    have z7 : Zc9 μ μ11 := z6.tr ez7
    refine pk_gd (fun _ => ?_)
    refine pk_bvy (fun μ13 ez8 => ?_)
    have z8 : Zc9 μ μ13 := by rw [ez8]; exact z7.sF (by unfold Pc9; omega)
    refine pk_bvy (fun μ14 ez9 => ?_)
    have z9 : Zc9 μ μ14 := by rw [ez9]; exact z8.sF (by unfold Pc9; omega)
    exact pk_some z9
  · exact pk_some z0
theorem x_X8_build_b148 : ∀ (n : Nat) (a3 : Nat) (a4 : Int32) (a6 : Int32) (a7 : Int32) (μ : Mem), Gcx9 a3 → Uc9 μ → pk (p_X8_build_b148  n a3 a4 a6 a7 μ) (fun q => Zc9 μ q.2) := by
  intro n
  induction n with
  | zero => intro a3 a4 a6 a7 μ g_a3 hU r e; rw [p_X8_build_b148_z] at e; cases e
  | succ n ih =>
    intro a3 a4 a6 a7 μ g_a3 hU
    have z0 : Zc9 μ μ := Zc9.rf hU
    rw [p_X8_build_b148_s]
    refine pk_ite (fun _ => ?_) (fun _ => ?_)
    · exact pk_some z0
    · refine pk_gd (fun _ => ?_)
      refine pk_gd (fun _ => ?_)
      refine pk_bvy (fun μ7 ez1 => ?_)
      have z1 : Zc9 μ μ7 := by rw [ez1]; exact z0.sL (by have h0 := g_a3; unfold Gcx9 at h0; unfold Pc9; omega)
      refine pk_bvy (fun v8 _ => ?_)
      exact pk_mono (ih a3 a4 a6 v8 μ7 g_a3 z1.1) (fun _ hq => z1.tr hq)
theorem x_X8_build_b130 (K17 : Nat → Nat → Nat → Int32 → Int32 → Int32 → Mem → Option (Int32 × Mem)) (hK17 : ∀ (y0 : Nat) (y1 : Nat) (y2 : Nat) (y3 : Int32) (y4 : Int32) (y5 : Int32) (y6 : Mem), Gcx9 y2 → Uc9 y6 → pk (K17 y0 y1 y2 y3 y4 y5 y6) (fun q => Zc9 y6 q.2)) (a1 : Nat) (a2 : Nat) (a3 : Nat) (a4 : Int32) (a5 : Int32) (a6 : Int32) (μ : Mem) (g_a3 : Gcx9 a3) (hU : Uc9 μ) : pk (p_X8_build_b130 K17 a1 a2 a3 a4 a5 a6 μ) (fun q => Zc9 μ q.2) := by
  have z0 : Zc9 μ μ := Zc9.rf hU
  rw [p_X8_build_b130_eq]
  refine pk_bvy (fun v13 _ => ?_)
  exact pk_mono (hK17 a1 a2 a3 a4 a5 v13 μ g_a3 z0.1) (fun _ hq => z0.tr hq)
theorem x_X8_build_b108 (K17 : Nat → Nat → Nat → Int32 → Int32 → Int32 → Mem → Option (Int32 × Mem)) (hK17 : ∀ (y0 : Nat) (y1 : Nat) (y2 : Nat) (y3 : Int32) (y4 : Int32) (y5 : Int32) (y6 : Mem), Gcx9 y2 → Uc9 y6 → pk (K17 y0 y1 y2 y3 y4 y5 y6) (fun q => Zc9 y6 q.2)) (a1 : Nat) (a2 : Nat) (a3 : Nat) (a4 : Int32) (a5 : Int32) (a6 : Int32) (a7 : Int64) (μ : Mem) (g_a3 : Gcx9 a3) (hU : Uc9 μ) : pk (p_X8_build_b108 K17 a1 a2 a3 a4 a5 a6 a7 μ) (fun q => Zc9 μ q.2) := by
  have z0 : Zc9 μ μ := Zc9.rf hU
  rw [p_X8_build_b108_eq]
  refine pk_ite (fun _ => ?_) (fun _ => ?_)
  · exact pk_mono (x_X8_build_b130 K17 hK17 a1 a2 a3 a4 a5 a6 μ g_a3 z0.1) (fun _ hq => z0.tr hq)
  · refine pk_gd (fun _ => ?_)
    refine pk_bvy (fun μ14 ez1 => ?_)
    have z1 : Zc9 μ μ14 := by rw [ez1]; exact z0.sL (by unfold Pc9; omega)
    refine pk_bvy (fun v15 _ => ?_)
    exact pk_mono (x_X8_build_b130 K17 hK17 a1 a2 a3 v15 a5 a6 μ14 g_a3 z1.1) (fun _ hq => z1.tr hq)
theorem x_X8_build_b63 (K17 : Nat → Nat → Nat → Int32 → Int32 → Int32 → Mem → Option (Int32 × Mem)) (hK17 : ∀ (y0 : Nat) (y1 : Nat) (y2 : Nat) (y3 : Int32) (y4 : Int32) (y5 : Int32) (y6 : Mem), Gcx9 y2 → Uc9 y6 → pk (K17 y0 y1 y2 y3 y4 y5 y6) (fun q => Zc9 y6 q.2)) (a1 : Nat) (a2 : Nat) (a3 : Nat) (a4 : Int32) (a5 : Int32) (a6 : Int32) (k0 : Int64) (μ : Mem) (g_a3 : Gcx9 a3) (hU : Uc9 μ) : pk (p_X8_build_b63 K17 a1 a2 a3 a4 a5 a6 k0 μ) (fun q => Zc9 μ q.2) := by
  have z0 : Zc9 μ μ := Zc9.rf hU
  rw [p_X8_build_b63_eq]
  exact pk_mono (x_X8_build_b108 K17 hK17 a1 a2 a3 a4 a5 a6 k0 μ g_a3 z0.1) (fun _ hq => z0.tr hq)
theorem x_X8_build_b62 (K17 : Nat → Nat → Nat → Int32 → Int32 → Int32 → Mem → Option (Int32 × Mem)) (hK17 : ∀ (y0 : Nat) (y1 : Nat) (y2 : Nat) (y3 : Int32) (y4 : Int32) (y5 : Int32) (y6 : Mem), Gcx9 y2 → Uc9 y6 → pk (K17 y0 y1 y2 y3 y4 y5 y6) (fun q => Zc9 y6 q.2)) (a1 : Nat) (a2 : Nat) (a3 : Nat) (a4 : Int32) (a5 : Int32) (a6 : Int32) (μ : Mem) (g_a3 : Gcx9 a3) (hU : Uc9 μ) : pk (p_X8_build_b62 K17 a1 a2 a3 a4 a5 a6 μ) (fun q => Zc9 μ q.2) := by
  have z0 : Zc9 μ μ := Zc9.rf hU
  rw [p_X8_build_b62_eq]
  exact pk_mono (x_X8_build_b63 K17 hK17 a1 a2 a3 a4 a5 a6 (0 : Int64) μ g_a3 z0.1) (fun _ hq => z0.tr hq)
theorem x_X8_build_b17 : ∀ (n : Nat) (a1 : Nat) (a2 : Nat) (a3 : Nat) (a4 : Int32) (a5 : Int32) (a6 : Int32) (μ : Mem), Gcx9 a3 → Uc9 μ → pk (p_X8_build_b17  n a1 a2 a3 a4 a5 a6 μ) (fun q => Zc9 μ q.2) := by
  intro n
  induction n with
  | zero => intro a1 a2 a3 a4 a5 a6 μ g_a3 hU r e; rw [p_X8_build_b17_z] at e; cases e
  | succ n ih =>
    intro a1 a2 a3 a4 a5 a6 μ g_a3 hU
    have z0 : Zc9 μ μ := Zc9.rf hU
    rw [p_X8_build_b17_s]
    refine pk_ite (fun _ => ?_) (fun _ => ?_)
    · refine pk_bvy (fun v5 _ => ?_)
      exact pk_mono (x_X8_build_b148 FUEL a3 a4 v5 (0 : Int32) μ g_a3 z0.1) (fun _ hq => z0.tr hq)
    · refine pk_gd (fun _ => ?_)
      refine pk_bvy (fun v9 _ => ?_)
      refine pk_ite (fun _ => ?_) (fun _ => ?_)
      · refine pk_bvy (fun v20 _ => ?_)
        refine pk_ite (fun _ => ?_) (fun _ => ?_)
        · exact pk_mono (x_X8_build_b62 (p_X8_build_b17  n) ih a1 a2 a3 a4 v20 a6 μ g_a3 z0.1) (fun _ hq => z0.tr hq)
        · refine pk_ite (fun _ => ?_) (fun _ => ?_)
          · exact pk_mono (x_X8_build_b62 (p_X8_build_b17  n) ih a1 a2 a3 a4 v20 a6 μ g_a3 z0.1) (fun _ hq => z0.tr hq)
          · refine pk_gd (fun _ => ?_)
            exact pk_mono (x_X8_build_b63 (p_X8_build_b17  n) ih a1 a2 a3 a4 v20 a6 (μ.2.1 a2 v20.toNatClampNeg) μ g_a3 z0.1) (fun _ hq => z0.tr hq)
      · refine pk_ite (fun _ => ?_) (fun _ => ?_)
        · refine pk_ite (fun _ => ?_) (fun _ => ?_)
          · exact pk_mono (x_X8_build_b108 (p_X8_build_b17  n) ih a1 a2 a3 a4 a5 a6 v9 μ g_a3 z0.1) (fun _ hq => z0.tr hq)
          · refine pk_bvy (fun v17 _ => ?_)
            refine pk_gd (fun _ => ?_)
            refine pk_gd (fun _ => ?_)
            refine pk_bd (x_X8_pair (μ.2.1 35 (v17 + (1 : Int32)).toNatClampNeg) (μ.2.1 35 v17.toNatClampNeg) μ  z0.1) (fun r19 μ18 ez1 => ?_)
            have z1 : Zc9 μ μ18 := z0.tr ez1
            exact pk_mono (x_X8_build_b108 (p_X8_build_b17  n) ih a1 a2 a3 v17 a5 a6 r19 μ18 g_a3 z1.1) (fun _ hq => z1.tr hq)
        · exact pk_mono (x_X8_build_b108 (p_X8_build_b17  n) ih a1 a2 a3 a4 a5 a6 v9 μ g_a3 z0.1) (fun _ hq => z0.tr hq)
theorem x_X8_build (a1 : Nat) (a2 : Nat) (a3 : Nat) (μ : Mem) (g_a3 : Gcx9 a3) (hU : Uc9 μ) : pk (p_X8_build a1 a2 a3 μ) (fun q => Zc9 μ q.2) := by
  have z0 : Zc9 μ μ := Zc9.rf hU
  rw [p_X8_build_eq]
  refine pk_bd (x_X2_stars a1 μ  z0.1) (fun r2 μ1 ez1 => ?_)
  have z1 : Zc9 μ μ1 := z0.tr ez1
  refine pk_bvy (fun v3 _ => ?_)
  exact pk_mono (x_X8_build_b17 FUEL a1 a2 a3 (0 : Int32) r2 v3 μ1 g_a3 z1.1) (fun _ hq => z1.tr hq)
theorem x_X8_setVar (a1 : Int32) (a2 : Int64) (μ : Mem)  (hU : Uc9 μ) : pk (p_X8_setVar a1 a2 μ) (fun q => Zc9 μ q) := by
  have z0 : Zc9 μ μ := Zc9.rf hU
  rw [p_X8_setVar_eq]
  refine pk_bvy (fun v1 _ => ?_)
  refine pk_ite (fun _ => ?_) (fun _ => ?_)
  · exact pk_some z0
  · refine pk_ite (fun _ => ?_) (fun _ => ?_)
    · exact pk_some z0
    · refine pk_gd (fun _ => ?_)
      refine pk_bvy (fun μ4 ez1 => ?_)
      have z1 : Zc9 μ μ4 := by rw [ez1]; exact z0.sL (by unfold Pc9; omega)
      exact pk_some z1
theorem x_X3_stepAt (a0 : Nat) (a1 : Int32) (μ : Mem)  (hU : Uc9 μ) : pk (p_X3_stepAt a0 a1 μ) (fun q => Zc9 μ q.2) := by
  have z0 : Zc9 μ μ := Zc9.rf hU
  rw [p_X3_stepAt_eq]
  refine pk_ite (fun _ => ?_) (fun _ => ?_)
  · exact pk_some z0
  · refine pk_ite (fun _ => ?_) (fun _ => ?_)
    · exact pk_some z0
    · refine pk_gd (fun _ => ?_)
      exact pk_some z0
theorem x_X3_markAt (a0 : Nat) (a1 : Int32) (μ : Mem)  (hU : Uc9 μ) : pk (p_X3_markAt a0 a1 μ) (fun q => Zc9 μ q.2) := by
  have z0 : Zc9 μ μ := Zc9.rf hU
  rw [p_X3_markAt_eq]
  refine pk_ite (fun _ => ?_) (fun _ => ?_)
  · exact pk_some z0
  · refine pk_ite (fun _ => ?_) (fun _ => ?_)
    · exact pk_some z0
    · refine pk_gd (fun _ => ?_)
      exact pk_some z0
theorem x_X3_bitsAt (a0 : Nat) (a1 : Int32) (μ : Mem)  (hU : Uc9 μ) : pk (p_X3_bitsAt a0 a1 μ) (fun q => Zc9 μ q.2) := by
  have z0 : Zc9 μ μ := Zc9.rf hU
  rw [p_X3_bitsAt_eq]
  refine pk_ite (fun _ => ?_) (fun _ => ?_)
  · exact pk_some z0
  · refine pk_ite (fun _ => ?_) (fun _ => ?_)
    · exact pk_some z0
    · refine pk_gd (fun _ => ?_)
      exact pk_some z0
theorem x_X8_push (a1 : Int64) (μ : Mem)  (hU : Uc9 μ) : pk (p_X8_push a1 μ) (fun q => Zc9 μ q) := by
  have z0 : Zc9 μ μ := Zc9.rf hU
  rw [p_X8_push_eq]
  refine pk_ite (fun _ => ?_) (fun _ => ?_)
  · exact pk_some z0
  · refine pk_gd (fun _ => ?_)
    refine pk_bvy (fun μ2 ez1 => ?_)
    have z1 : Zc9 μ μ2 := by rw [ez1]; exact z0.sL (by unfold Pc9; omega)
    refine pk_bvy (fun μ3 ez2 => ?_)
    have z2 : Zc9 μ μ3 := by rw [ez2]; exact z1.sF (by unfold Pc9; omega)
    exact pk_some z2
theorem x_X8_varAt (a1 : Int32) (μ : Mem)  (hU : Uc9 μ) : pk (p_X8_varAt a1 μ) (fun q => Zc9 μ q.2) := by
  have z0 : Zc9 μ μ := Zc9.rf hU
  rw [p_X8_varAt_eq]
  refine pk_bvy (fun v1 _ => ?_)
  refine pk_ite (fun _ => ?_) (fun _ => ?_)
  · exact pk_some z0
  · refine pk_ite (fun _ => ?_) (fun _ => ?_)
    · exact pk_some z0
    · refine pk_gd (fun _ => ?_)
      exact pk_some z0
theorem x_X8_pop (μ : Mem)  (hU : Uc9 μ) : pk (p_X8_pop μ) (fun q => Zc9 μ q.2) := by
  have z0 : Zc9 μ μ := Zc9.rf hU
  rw [p_X8_pop_eq]
  refine pk_ite (fun _ => ?_) (fun _ => ?_)
  · refine pk_bvy (fun μ2 ez1 => ?_)
    have z1 : Zc9 μ μ2 := by rw [ez1]; exact z0.sF (by unfold Pc9; omega)
    refine pk_gd (fun _ => ?_)
    exact pk_some z1
  · exact pk_some z0
theorem x_X8_firstOf (a1 : Int64) (μ : Mem)  (hU : Uc9 μ) : pk (p_X8_firstOf a1 μ) (fun q => Zc9 μ q.2) := by
  have z0 : Zc9 μ μ := Zc9.rf hU
  rw [p_X8_firstOf_eq]
  refine pk_bd (x_X8_isPair a1 μ  z0.1) (fun r2 μ1 ez1 => ?_)
  have z1 : Zc9 μ μ1 := z0.tr ez1
  refine pk_ite (fun _ => ?_) (fun _ => ?_)
  · exact pk_some z1
  · refine pk_gd (fun _ => ?_)
    exact pk_some z1
theorem x_X8_num_b5 : ∀ (n : Nat) (a3 : Int64) (a5 : Int32) (μ : Mem), Uc9 μ → pk (p_X8_num_b5  n a3 a5 μ) (fun q => Zc9 μ q.2) := by
  intro n
  induction n with
  | zero => intro a3 a5 μ  hU r e; rw [p_X8_num_b5_z] at e; cases e
  | succ n ih =>
    intro a3 a5 μ  hU
    have z0 : Zc9 μ μ := Zc9.rf hU
    rw [p_X8_num_b5_s]
    refine pk_ite (fun _ => ?_) (fun _ => ?_)
    · exact pk_some z0
    · refine pk_bd (x_X8_isPair a3 μ  z0.1) (fun r3 μ2 ez1 => ?_)
      have z1 : Zc9 μ μ2 := z0.tr ez1
      refine pk_ite (fun _ => ?_) (fun _ => ?_)
      · exact pk_some z1
      · refine pk_bd (x_X8_firstOf a3 μ2  z1.1) (fun r6 μ5 ez2 => ?_)
        have z2 : Zc9 μ μ5 := z1.tr ez2
        refine pk_bvy (fun v7 _ => ?_)
        exact pk_mono (ih r6 v7 μ5  z2.1) (fun _ hq => z2.tr hq)
theorem x_X8_num (a1 : Int64) (μ : Mem)  (hU : Uc9 μ) : pk (p_X8_num a1 μ) (fun q => Zc9 μ q.2) := by
  have z0 : Zc9 μ μ := Zc9.rf hU
  rw [p_X8_num_eq]
  exact pk_mono (x_X8_num_b5 FUEL a1 (0 : Int32) μ  z0.1) (fun _ hq => z0.tr hq)
theorem x_X8_popNum (μ : Mem)  (hU : Uc9 μ) : pk (p_X8_popNum μ) (fun q => Zc9 μ q.2) := by
  have z0 : Zc9 μ μ := Zc9.rf hU
  rw [p_X8_popNum_eq]
  refine pk_bd (x_X8_pop μ  z0.1) (fun r2 μ1 ez1 => ?_)
  have z1 : Zc9 μ μ1 := z0.tr ez1
  refine pk_bd (x_X8_num r2 μ1  z1.1) (fun r4 μ3 ez2 => ?_)
  have z2 : Zc9 μ μ3 := z1.tr ez2
  exact pk_some z2
theorem x_X5_cell (a1 : Int32) (a2 : Int32) (μ : Mem)  (hU : Uc9 μ) : pk (p_X5_cell a1 a2 μ) (fun q => Zc9 μ q.2) := by
  have z0 : Zc9 μ μ := Zc9.rf hU
  rw [p_X5_cell_eq]
  refine pk_ite (fun _ => ?_) (fun _ => ?_)
  · exact pk_some z0
  · refine pk_ite (fun _ => ?_) (fun _ => ?_)
    · exact pk_some z0
    · refine pk_ite (fun _ => ?_) (fun _ => ?_)
      · exact pk_some z0
      · refine pk_gd (fun _ => ?_)
        exact pk_some z0
theorem x_X8_secondOf (a1 : Int64) (μ : Mem)  (hU : Uc9 μ) : pk (p_X8_secondOf a1 μ) (fun q => Zc9 μ q.2) := by
  have z0 : Zc9 μ μ := Zc9.rf hU
  rw [p_X8_secondOf_eq]
  refine pk_bd (x_X8_isPair a1 μ  z0.1) (fun r2 μ1 ez1 => ?_)
  have z1 : Zc9 μ μ1 := z0.tr ez1
  refine pk_ite (fun _ => ?_) (fun _ => ?_)
  · exact pk_some z1
  · refine pk_gd (fun _ => ?_)
    exact pk_some z1
theorem x_X8_isTooHeavy (a1 : Int64) (a3 : Int64) (μ : Mem)  (hU : Uc9 μ) : pk (p_X8_isTooHeavy a1 a3 μ) (fun q => Zc9 μ q.2) := by
  have z0 : Zc9 μ μ := Zc9.rf hU
  rw [p_X8_isTooHeavy_eq]
  refine pk_bd (x_X8_weightOf a1 μ  z0.1) (fun r2 μ1 ez1 => ?_)
  have z1 : Zc9 μ μ1 := z0.tr ez1
  refine pk_bd (x_X8_weightOf a3 μ1  z1.1) (fun r4 μ3 ez2 => ?_)
  have z2 : Zc9 μ μ3 := z1.tr ez2
  refine pk_ite (fun _ => ?_) (fun _ => ?_)
  · exact pk_some z2
  · exact pk_some z2
theorem x_X5_isBlock (a1 : Int32) (μ : Mem)  (hU : Uc9 μ) : pk (p_X5_isBlock a1 μ) (fun q => Zc9 μ q.2) := by
  have z0 : Zc9 μ μ := Zc9.rf hU
  rw [p_X5_isBlock_eq]
  refine pk_ite (fun _ => ?_) (fun _ => ?_)
  · exact pk_some z0
  · refine pk_ite (fun _ => ?_) (fun _ => ?_)
    · exact pk_some z0
    · exact pk_some z0
theorem x_X5_endOf (a1 : Int32) (μ : Mem)  (hU : Uc9 μ) : pk (p_X5_endOf a1 μ) (fun q => Zc9 μ q.2) := by
  have z0 : Zc9 μ μ := Zc9.rf hU
  rw [p_X5_endOf_eq]
  refine pk_bd (x_X5_isBlock a1 μ  z0.1) (fun r2 μ1 ez1 => ?_)
  have z1 : Zc9 μ μ1 := z0.tr ez1
  refine pk_ite (fun _ => ?_) (fun _ => ?_)
  · exact pk_some z1
  · refine pk_gd (fun _ => ?_)
    exact pk_some z1
theorem x_X8_fromTop (a1 : Int32) (μ : Mem)  (hU : Uc9 μ) : pk (p_X8_fromTop a1 μ) (fun q => Zc9 μ q.2) := by
  have z0 : Zc9 μ μ := Zc9.rf hU
  rw [p_X8_fromTop_eq]
  refine pk_bvy (fun v1 _ => ?_)
  refine pk_ite (fun _ => ?_) (fun _ => ?_)
  · exact pk_some z0
  · refine pk_ite (fun _ => ?_) (fun _ => ?_)
    · exact pk_some z0
    · refine pk_gd (fun _ => ?_)
      exact pk_some z0
theorem x_X8_bindArguments_b4 : ∀ (n : Nat) (a2 : Int32) (μ : Mem), Uc9 μ → pk (p_X8_bindArguments_b4  n a2 μ) (fun q => Zc9 μ q) := by
  intro n
  induction n with
  | zero => intro a2 μ  hU r e; rw [p_X8_bindArguments_b4_z] at e; cases e
  | succ n ih =>
    intro a2 μ  hU
    have z0 : Zc9 μ μ := Zc9.rf hU
    rw [p_X8_bindArguments_b4_s]
    refine pk_ite (fun _ => ?_) (fun _ => ?_)
    · exact pk_some z0
    · refine pk_bd (x_X8_pop μ  z0.1) (fun r4 μ3 ez1 => ?_)
      have z1 : Zc9 μ μ3 := z0.tr ez1
      refine pk_bw (x_X8_setVar a2 r4 μ3  z1.1) (fun μ5 ez2 => ?_)
      have z2 : Zc9 μ μ5 := z1.tr ez2
      refine pk_bvy (fun v7 _ => ?_)
      exact pk_mono (ih v7 μ5  z2.1) (fun _ hq => z2.tr hq)
theorem x_X8_bindArguments (a1 : Int32) (μ : Mem)  (hU : Uc9 μ) : pk (p_X8_bindArguments a1 μ) (fun q => Zc9 μ q) := by
  have z0 : Zc9 μ μ := Zc9.rf hU
  rw [p_X8_bindArguments_eq]
  refine pk_bvy (fun v1 _ => ?_)
  exact pk_mono (x_X8_bindArguments_b4 FUEL v1 μ  z0.1) (fun _ hq => z0.tr hq)
theorem x_X8_openFrame (a1 : Int32) (a2 : Int32) (μ : Mem)  (hU : Uc9 μ) : pk (p_X8_openFrame a1 a2 μ) (fun q => Zc9 μ q) := by
  have z0 : Zc9 μ μ := Zc9.rf hU
  rw [p_X8_openFrame_eq]
  refine pk_ite (fun _ => ?_) (fun _ => ?_)
  · refine pk_bvy (fun μ2 ez1 => ?_)
    have z1 : Zc9 μ μ2 := by rw [ez1]; exact z0.sF (by unfold Pc9; omega)
    refine pk_gd (fun _ => ?_)
    refine pk_bvy (fun μ3 ez2 => ?_)
    have z2 : Zc9 μ μ3 := by rw [ez2]; exact z1.sF (by unfold Pc9; omega)
    refine pk_bw (x_X8_bindArguments a1 μ3  z2.1) (fun μ4 ez3 => ?_)
    have z3 : Zc9 μ μ4 := z2.tr ez3
    exact pk_some z3
  · exact pk_some z0
theorem x_X8_flatten_b145 (K13 : Nat → Int32 → Int32 → Mem → Option Mem) (hK13 : ∀ (y0 : Nat) (y1 : Int32) (y2 : Int32) (y3 : Mem), Gcx9 y0 → Uc9 y3 → pk (K13 y0 y1 y2 y3) (fun q => Zc9 y3 q)) (a3 : Nat) (a4 : Int32) (a5 : Int32) (μ : Mem) (g_a3 : Gcx9 a3) (hU : Uc9 μ) : pk (p_X8_flatten_b145 K13 a3 a4 a5 μ) (fun q => Zc9 μ q) := by
  have z0 : Zc9 μ μ := Zc9.rf hU
  rw [p_X8_flatten_b145_eq]
  refine pk_bvy (fun v13 _ => ?_)
  exact pk_mono (hK13 a3 a4 v13 μ g_a3 z0.1) (fun _ hq => z0.tr hq)
theorem x_X8_flatten_b140 (K13 : Nat → Int32 → Int32 → Mem → Option Mem) (hK13 : ∀ (y0 : Nat) (y1 : Int32) (y2 : Int32) (y3 : Mem), Gcx9 y0 → Uc9 y3 → pk (K13 y0 y1 y2 y3) (fun q => Zc9 y3 q)) (a3 : Nat) (a4 : Int32) (a5 : Int32) (a6 : Int64) (k0 : Int64) (k1 : Nat) (μ : Mem) (g_a3 : Gcx9 a3) (g_k1 : Gcx9 k1) (hU : Uc9 μ) : pk (p_X8_flatten_b140 K13 a3 a4 a5 a6 k0 k1 μ) (fun q => Zc9 μ q) := by
  have z0 : Zc9 μ μ := Zc9.rf hU
  rw [p_X8_flatten_b140_eq]
  refine pk_bw (x_X2_add k1 k0 a6 μ g_k1 z0.1) (fun μ11 ez1 => ?_)
  have z1 : Zc9 μ μ11 := z0.tr ez1
  exact pk_mono (x_X8_flatten_b145 K13 hK13 a3 a4 a5 μ11 g_a3 z1.1) (fun _ hq => z1.tr hq)
theorem x_X8_flatten_b124 (K13 : Nat → Int32 → Int32 → Mem → Option Mem) (hK13 : ∀ (y0 : Nat) (y1 : Int32) (y2 : Int32) (y3 : Mem), Gcx9 y0 → Uc9 y3 → pk (K13 y0 y1 y2 y3) (fun q => Zc9 y3 q)) (a3 : Nat) (a4 : Int32) (a5 : Int32) (a6 : Int64) (k0 : Int32) (μ : Mem) (g_a3 : Gcx9 a3) (hU : Uc9 μ) : pk (p_X8_flatten_b124 K13 a3 a4 a5 a6 k0 μ) (fun q => Zc9 μ q) := by
  have z0 : Zc9 μ μ := Zc9.rf hU
  rw [p_X8_flatten_b124_eq]
  refine pk_ite (fun _ => ?_) (fun _ => ?_)
  · exact pk_mono (x_X8_flatten_b140 K13 hK13 a3 a4 a5 a6 a6 a3 μ g_a3 g_a3 z0.1) (fun _ hq => z0.tr hq)
  · exact pk_mono (x_X8_flatten_b140 K13 hK13 a3 a4 a5 a6 (17179869184 : Int64) a3 μ g_a3 g_a3 z0.1) (fun _ hq => z0.tr hq)
theorem x_X8_flatten_b110 (K13 : Nat → Int32 → Int32 → Mem → Option Mem) (hK13 : ∀ (y0 : Nat) (y1 : Int32) (y2 : Int32) (y3 : Mem), Gcx9 y0 → Uc9 y3 → pk (K13 y0 y1 y2 y3) (fun q => Zc9 y3 q)) (a3 : Nat) (a4 : Int32) (a5 : Int32) (a6 : Int64) (μ : Mem) (g_a3 : Gcx9 a3) (hU : Uc9 μ) : pk (p_X8_flatten_b110 K13 a3 a4 a5 a6 μ) (fun q => Zc9 μ q) := by
  have z0 : Zc9 μ μ := Zc9.rf hU
  rw [p_X8_flatten_b110_eq]
  refine pk_ite (fun _ => ?_) (fun _ => ?_)
  · exact pk_mono (x_X8_flatten_b124 K13 hK13 a3 a4 a5 a6 (1 : Int32) μ g_a3 z0.1) (fun _ hq => z0.tr hq)
  · exact pk_mono (x_X8_flatten_b124 K13 hK13 a3 a4 a5 a6 (0 : Int32) μ g_a3 z0.1) (fun _ hq => z0.tr hq)
theorem x_X8_flatten_b13 : ∀ (n : Nat) (a3 : Nat) (a4 : Int32) (a5 : Int32) (μ : Mem), Gcx9 a3 → Uc9 μ → pk (p_X8_flatten_b13  n a3 a4 a5 μ) (fun q => Zc9 μ q) := by
  intro n
  induction n with
  | zero => intro a3 a4 a5 μ g_a3 hU r e; rw [p_X8_flatten_b13_z] at e; cases e
  | succ n ih =>
    intro a3 a4 a5 μ g_a3 hU
    have z0 : Zc9 μ μ := Zc9.rf hU
    rw [p_X8_flatten_b13_s]
    refine pk_ite (fun _ => ?_) (fun _ => ?_)
    · exact pk_some z0
    · refine pk_ite (fun _ => ?_) (fun _ => ?_)
      · exact pk_some z0
      · refine pk_bvy (fun v4 _ => ?_)
        refine pk_gd (fun _ => ?_)
        refine pk_bvy (fun v5 _ => ?_)
        refine pk_bd (x_X8_isPair v5 μ  z0.1) (fun r7 μ6 ez1 => ?_)
        have z1 : Zc9 μ μ6 := z0.tr ez1
        refine pk_ite (fun _ => ?_) (fun _ => ?_)
        · exact pk_mono (x_X8_flatten_b110 (p_X8_flatten_b13  n) ih a3 v4 a5 v5 μ6 g_a3 z1.1) (fun _ hq => z1.tr hq)
        · refine pk_ite (fun _ => ?_) (fun _ => ?_)
          · exact pk_mono (x_X8_flatten_b110 (p_X8_flatten_b13  n) ih a3 v4 a5 v5 μ6 g_a3 z1.1) (fun _ hq => z1.tr hq)
          · refine pk_bw (x_X2_add a3 (8589934592 : Int64) v5 μ6 g_a3 z1.1) (fun μ15 ez2 => ?_)
            have z2 : Zc9 μ μ15 := z1.tr ez2
            refine pk_gd (fun _ => ?_)
            refine pk_gd (fun _ => ?_)
            refine pk_bvy (fun μ17 ez3 => ?_)
            have z3 : Zc9 μ μ17 := by rw [ez3]; exact z2.sL (by unfold Pc9; omega)
            refine pk_gd (fun _ => ?_)
            refine pk_gd (fun _ => ?_)
            refine pk_bvy (fun μ18 ez4 => ?_)
            have z4 : Zc9 μ μ18 := by rw [ez4]; exact z3.sL (by unfold Pc9; omega)
            refine pk_bvy (fun v19 _ => ?_)
            exact pk_mono (x_X8_flatten_b145 (p_X8_flatten_b13  n) ih a3 v19 a5 μ18 g_a3 z4.1) (fun _ hq => z4.tr hq)
theorem x_X8_flatten (a1 : Int64) (a3 : Nat) (μ : Mem) (g_a3 : Gcx9 a3) (hU : Uc9 μ) : pk (p_X8_flatten a1 a3 μ) (fun q => Zc9 μ q) := by
  have z0 : Zc9 μ μ := Zc9.rf hU
  rw [p_X8_flatten_eq]
  refine pk_gd (fun _ => ?_)
  refine pk_bvy (fun μ1 ez1 => ?_)
  have z1 : Zc9 μ μ1 := by rw [ez1]; exact z0.sL (by unfold Pc9; omega)
  exact pk_mono (x_X8_flatten_b13 FUEL a3 (1 : Int32) (0 : Int32) μ1 g_a3 z1.1) (fun _ hq => z1.tr hq)
theorem x_X5_ofVariant (a1 : Int32) (a2 : Int32) (μ : Mem)  (hU : Uc9 μ) : pk (p_X5_ofVariant a1 a2 μ) (fun q => Zc9 μ q.2) := by
  have z0 : Zc9 μ μ := Zc9.rf hU
  rw [p_X5_ofVariant_eq]
  refine pk_ite (fun _ => ?_) (fun _ => ?_)
  · exact pk_some z0
  · refine pk_ite (fun _ => ?_) (fun _ => ?_)
    · exact pk_some z0
    · refine pk_gd (fun _ => ?_)
      exact pk_some z0
theorem x_X2_isSame_b26 : ∀ (n : Nat) (a0 : Nat) (a1 : Nat) (a2 : Int32) (μ : Mem), Uc9 μ → pk (p_X2_isSame_b26  n a0 a1 a2 μ) (fun q => Zc9 μ q.2) := by
  intro n
  induction n with
  | zero => intro a0 a1 a2 μ  hU r e; rw [p_X2_isSame_b26_z] at e; cases e
  | succ n ih =>
    intro a0 a1 a2 μ  hU
    have z0 : Zc9 μ μ := Zc9.rf hU
    rw [p_X2_isSame_b26_s]
    refine pk_ite (fun _ => ?_) (fun _ => ?_)
    · exact pk_some z0
    · refine pk_ite (fun _ => ?_) (fun _ => ?_)
      · exact pk_some z0
      · refine pk_gd (fun _ => ?_)
        refine pk_gd (fun _ => ?_)
        refine pk_ite (fun _ => ?_) (fun _ => ?_)
        · refine pk_bvy (fun v6 _ => ?_)
          exact pk_mono (ih a0 a1 v6 μ  z0.1) (fun _ hq => z0.tr hq)
        · exact pk_some z0
theorem x_X2_isSame (a0 : Nat) (a1 : Nat) (μ : Mem)  (hU : Uc9 μ) : pk (p_X2_isSame a0 a1 μ) (fun q => Zc9 μ q.2) := by
  have z0 : Zc9 μ μ := Zc9.rf hU
  rw [p_X2_isSame_eq]
  refine pk_ite (fun _ => ?_) (fun _ => ?_)
  · refine pk_ite (fun _ => ?_) (fun _ => ?_)
    · exact pk_mono (x_X2_isSame_b26 FUEL a0 a1 (0 : Int32) μ  z0.1) (fun _ hq => z0.tr hq)
    · exact pk_some z0
  · exact pk_some z0
theorem x_X8_closeFrame (μ : Mem)  (hU : Uc9 μ) : pk (p_X8_closeFrame μ) (fun q => Zc9 μ q.2) := by
  have z0 : Zc9 μ μ := Zc9.rf hU
  rw [p_X8_closeFrame_eq]
  refine pk_ite (fun _ => ?_) (fun _ => ?_)
  · refine pk_bvy (fun μ2 ez1 => ?_)
    have z1 : Zc9 μ μ2 := by rw [ez1]; exact z0.sF (by unfold Pc9; omega)
    refine pk_gd (fun _ => ?_)
    exact pk_some z1
  · exact pk_some z0
theorem x_X5_countOf_b62 (K5 : Int32 → Int32 → Int32 → Int32 → Mem → Option (Int32 × Mem)) (hK5 : ∀ (y0 : Int32) (y1 : Int32) (y2 : Int32) (y3 : Int32) (y4 : Mem), Uc9 y4 → pk (K5 y0 y1 y2 y3 y4) (fun q => Zc9 y4 q.2)) (a1 : Int32) (a2 : Int32) (a3 : Int32) (a4 : Int32) (μ : Mem)  (hU : Uc9 μ) : pk (p_X5_countOf_b62 K5 a1 a2 a3 a4 μ) (fun q => Zc9 μ q.2) := by
  have z0 : Zc9 μ μ := Zc9.rf hU
  rw [p_X5_countOf_b62_eq]
  refine pk_bvy (fun v4 _ => ?_)
  exact pk_mono (hK5 a1 a2 a3 v4 μ  z0.1) (fun _ hq => z0.tr hq)
theorem x_X5_countOf_b59 (K5 : Int32 → Int32 → Int32 → Int32 → Mem → Option (Int32 × Mem)) (hK5 : ∀ (y0 : Int32) (y1 : Int32) (y2 : Int32) (y3 : Int32) (y4 : Mem), Uc9 y4 → pk (K5 y0 y1 y2 y3 y4) (fun q => Zc9 y4 q.2)) (a1 : Int32) (a2 : Int32) (a3 : Int32) (a4 : Int32) (μ : Mem)  (hU : Uc9 μ) : pk (p_X5_countOf_b59 K5 a1 a2 a3 a4 μ) (fun q => Zc9 μ q.2) := by
  have z0 : Zc9 μ μ := Zc9.rf hU
  rw [p_X5_countOf_b59_eq]
  refine pk_bvy (fun v6 _ => ?_)
  exact pk_mono (x_X5_countOf_b62 K5 hK5 a1 a2 v6 a4 μ  z0.1) (fun _ hq => z0.tr hq)
theorem x_X5_countOf_b36 (K5 : Int32 → Int32 → Int32 → Int32 → Mem → Option (Int32 × Mem)) (hK5 : ∀ (y0 : Int32) (y1 : Int32) (y2 : Int32) (y3 : Int32) (y4 : Mem), Uc9 y4 → pk (K5 y0 y1 y2 y3 y4) (fun q => Zc9 y4 q.2)) (a1 : Int32) (a2 : Int32) (a3 : Int32) (a4 : Int32) (k0 : Int32) (μ : Mem)  (hU : Uc9 μ) : pk (p_X5_countOf_b36 K5 a1 a2 a3 a4 k0 μ) (fun q => Zc9 μ q.2) := by
  have z0 : Zc9 μ μ := Zc9.rf hU
  rw [p_X5_countOf_b36_eq]
  refine pk_ite (fun _ => ?_) (fun _ => ?_)
  · exact pk_mono (x_X5_countOf_b62 K5 hK5 a1 a2 a3 a4 μ  z0.1) (fun _ hq => z0.tr hq)
  · refine pk_ite (fun _ => ?_) (fun _ => ?_)
    · exact pk_mono (x_X5_countOf_b59 K5 hK5 a1 a2 a3 a4 μ  z0.1) (fun _ hq => z0.tr hq)
    · refine pk_bd (x_X5_cell a4 (0 : Int32) μ  z0.1) (fun r8 μ7 ez1 => ?_)
      have z1 : Zc9 μ μ7 := z0.tr ez1
      refine pk_ite (fun _ => ?_) (fun _ => ?_)
      · exact pk_mono (x_X5_countOf_b59 K5 hK5 a1 a2 a3 a4 μ7  z1.1) (fun _ hq => z1.tr hq)
      · exact pk_mono (x_X5_countOf_b62 K5 hK5 a1 a2 a3 a4 μ7  z1.1) (fun _ hq => z1.tr hq)
theorem x_X5_countOf_b31 (K5 : Int32 → Int32 → Int32 → Int32 → Mem → Option (Int32 × Mem)) (hK5 : ∀ (y0 : Int32) (y1 : Int32) (y2 : Int32) (y3 : Int32) (y4 : Mem), Uc9 y4 → pk (K5 y0 y1 y2 y3 y4) (fun q => Zc9 y4 q.2)) (a1 : Int32) (a2 : Int32) (a3 : Int32) (a4 : Int32) (μ : Mem)  (hU : Uc9 μ) : pk (p_X5_countOf_b31 K5 a1 a2 a3 a4 μ) (fun q => Zc9 μ q.2) := by
  have z0 : Zc9 μ μ := Zc9.rf hU
  rw [p_X5_countOf_b31_eq]
  exact pk_mono (x_X5_countOf_b36 K5 hK5 a1 a2 a3 a4 (1 : Int32) μ  z0.1) (fun _ hq => z0.tr hq)
theorem x_X5_countOf_b5 : ∀ (n : Nat) (a1 : Int32) (a2 : Int32) (a3 : Int32) (a4 : Int32) (μ : Mem), Uc9 μ → pk (p_X5_countOf_b5  n a1 a2 a3 a4 μ) (fun q => Zc9 μ q.2) := by
  intro n
  induction n with
  | zero => intro a1 a2 a3 a4 μ  hU r e; rw [p_X5_countOf_b5_z] at e; cases e
  | succ n ih =>
    intro a1 a2 a3 a4 μ  hU
    have z0 : Zc9 μ μ := Zc9.rf hU
    rw [p_X5_countOf_b5_s]
    refine pk_ite (fun _ => ?_) (fun _ => ?_)
    · exact pk_some z0
    · refine pk_ite (fun _ => ?_) (fun _ => ?_)
      · exact pk_mono (x_X5_countOf_b31 (p_X5_countOf_b5  n) ih a1 a2 a3 a4 μ  z0.1) (fun _ hq => z0.tr hq)
      · refine pk_bd (x_X5_cell a4 (6 : Int32) μ  z0.1) (fun r11 μ10 ez1 => ?_)
        have z1 : Zc9 μ μ10 := z0.tr ez1
        refine pk_ite (fun _ => ?_) (fun _ => ?_)
        · exact pk_mono (x_X5_countOf_b31 (p_X5_countOf_b5  n) ih a1 a2 a3 a4 μ10  z1.1) (fun _ hq => z1.tr hq)
        · exact pk_mono (x_X5_countOf_b36 (p_X5_countOf_b5  n) ih a1 a2 a3 a4 (0 : Int32) μ10  z1.1) (fun _ hq => z1.tr hq)
theorem x_X5_countOf (a1 : Int32) (a2 : Int32) (μ : Mem)  (hU : Uc9 μ) : pk (p_X5_countOf a1 a2 μ) (fun q => Zc9 μ q.2) := by
  have z0 : Zc9 μ μ := Zc9.rf hU
  rw [p_X5_countOf_eq]
  exact pk_mono (x_X5_countOf_b5 FUEL a1 a2 (0 : Int32) (0 : Int32) μ  z0.1) (fun _ hq => z0.tr hq)
theorem x_X5_about (a1 : Int32) (μ : Mem)  (hU : Uc9 μ) : pk (p_X5_about a1 μ) (fun q => Zc9 μ q.2) := by
  have z0 : Zc9 μ μ := Zc9.rf hU
  rw [p_X5_about_eq]
  refine pk_ite (fun _ => ?_) (fun _ => ?_)
  · exact pk_some z0
  · refine pk_ite (fun _ => ?_) (fun _ => ?_)
    · exact pk_some z0
    · refine pk_ite (fun _ => ?_) (fun _ => ?_)
      · exact pk_some z0
      · refine pk_ite (fun _ => ?_) (fun _ => ?_)
        · exact pk_some z0
        · refine pk_ite (fun _ => ?_) (fun _ => ?_)
          · refine pk_bd (x_X5_countOf (-1 : Int32) (11 : Int32) μ  z0.1) (fun r8 μ7 ez1 => ?_)
            have z1 : Zc9 μ μ7 := z0.tr ez1
            exact pk_some z1
          · refine pk_ite (fun _ => ?_) (fun _ => ?_)
            · refine pk_bd (x_X5_countOf (-1 : Int32) (7 : Int32) μ  z0.1) (fun r11 μ10 ez2 => ?_)
              have z2 : Zc9 μ μ10 := z0.tr ez2
              exact pk_some z2
            · refine pk_ite (fun _ => ?_) (fun _ => ?_)
              · refine pk_bd (x_X5_countOf (-1 : Int32) (8 : Int32) μ  z0.1) (fun r14 μ13 ez3 => ?_)
                have z3 : Zc9 μ μ13 := z0.tr ez3
                refine pk_bd (x_X5_countOf (-1 : Int32) (9 : Int32) μ13  z3.1) (fun r16 μ15 ez4 => ?_)
                have z4 : Zc9 μ μ15 := z3.tr ez4
                exact pk_some z4
              · refine pk_ite (fun _ => ?_) (fun _ => ?_)
                · refine pk_bd (x_X5_countOf (-1 : Int32) (10 : Int32) μ  z0.1) (fun r19 μ18 ez5 => ?_)
                  have z5 : Zc9 μ μ18 := z0.tr ez5
                  exact pk_some z5
                · refine pk_ite (fun _ => ?_) (fun _ => ?_)
                  · refine pk_bd (x_X5_countOf (-1 : Int32) (6 : Int32) μ  z0.1) (fun r22 μ21 ez6 => ?_)
                    have z6 : Zc9 μ μ21 := z0.tr ez6
                    exact pk_some z6
                  · refine pk_ite (fun _ => ?_) (fun _ => ?_)
                    · exact pk_some z0
                    · refine pk_ite (fun _ => ?_) (fun _ => ?_)
                      · exact pk_some z0
                      · exact pk_some z0
theorem x_X11_residue (a1 : Int32) (μ : Mem)  (hU : Uc9 μ) : pk (p_X11_residue a1 μ) (fun q => Zc9 μ q.2) := by
  have z0 : Zc9 μ μ := Zc9.rf hU
  rw [p_X11_residue_eq]
  refine pk_bd (x_X5_about a1 μ  z0.1) (fun r2 μ1 ez1 => ?_)
  have z1 : Zc9 μ μ1 := z0.tr ez1
  exact pk_some z1
theorem x_X5_hasVariant (a1 : Int32) (μ : Mem)  (hU : Uc9 μ) : pk (p_X5_hasVariant a1 μ) (fun q => Zc9 μ q.2) := by
  have z0 : Zc9 μ μ := Zc9.rf hU
  rw [p_X5_hasVariant_eq]
  refine pk_ite (fun _ => ?_) (fun _ => ?_)
  · exact pk_some z0
  · refine pk_ite (fun _ => ?_) (fun _ => ?_)
    · exact pk_some z0
    · refine pk_ite (fun _ => ?_) (fun _ => ?_)
      · exact pk_some z0
      · exact pk_some z0
theorem x_X2_numbers_b27 (K4 : Nat → Int32 → Int32 → Mem → Option (Int32 × Mem)) (hK4 : ∀ (y0 : Nat) (y1 : Int32) (y2 : Int32) (y3 : Mem), Uc9 y3 → pk (K4 y0 y1 y2 y3) (fun q => Zc9 y3 q.2)) (a0 : Nat) (a1 : Int32) (a2 : Int32) (μ : Mem)  (hU : Uc9 μ) : pk (p_X2_numbers_b27 K4 a0 a1 a2 μ) (fun q => Zc9 μ q.2) := by
  have z0 : Zc9 μ μ := Zc9.rf hU
  rw [p_X2_numbers_b27_eq]
  refine pk_bvy (fun v3 _ => ?_)
  exact pk_mono (hK4 a0 a1 v3 μ  z0.1) (fun _ hq => z0.tr hq)
theorem x_X2_numbers_b4 : ∀ (n : Nat) (a0 : Nat) (a1 : Int32) (a2 : Int32) (μ : Mem), Uc9 μ → pk (p_X2_numbers_b4  n a0 a1 a2 μ) (fun q => Zc9 μ q.2) := by
  intro n
  induction n with
  | zero => intro a0 a1 a2 μ  hU r e; rw [p_X2_numbers_b4_z] at e; cases e
  | succ n ih =>
    intro a0 a1 a2 μ  hU
    have z0 : Zc9 μ μ := Zc9.rf hU
    rw [p_X2_numbers_b4_s]
    refine pk_ite (fun _ => ?_) (fun _ => ?_)
    · exact pk_some z0
    · refine pk_gd (fun _ => ?_)
      refine pk_ite (fun _ => ?_) (fun _ => ?_)
      · exact pk_mono (x_X2_numbers_b27 (p_X2_numbers_b4  n) ih a0 a1 a2 μ  z0.1) (fun _ hq => z0.tr hq)
      · refine pk_bvy (fun v4 _ => ?_)
        exact pk_mono (x_X2_numbers_b27 (p_X2_numbers_b4  n) ih a0 v4 a2 μ  z0.1) (fun _ hq => z0.tr hq)
theorem x_X2_numbers (a0 : Nat) (μ : Mem)  (hU : Uc9 μ) : pk (p_X2_numbers a0 μ) (fun q => Zc9 μ q.2) := by
  have z0 : Zc9 μ μ := Zc9.rf hU
  rw [p_X2_numbers_eq]
  exact pk_mono (x_X2_numbers_b4 FUEL a0 (0 : Int32) (0 : Int32) μ  z0.1) (fun _ hq => z0.tr hq)
theorem x_X5_aboutVariant (a1 : Int32) (a2 : Int32) (μ : Mem)  (hU : Uc9 μ) : pk (p_X5_aboutVariant a1 a2 μ) (fun q => Zc9 μ q.2) := by
  have z0 : Zc9 μ μ := Zc9.rf hU
  rw [p_X5_aboutVariant_eq]
  refine pk_bd (x_X5_hasVariant a1 μ  z0.1) (fun r2 μ1 ez1 => ?_)
  have z1 : Zc9 μ μ1 := z0.tr ez1
  refine pk_ite (fun _ => ?_) (fun _ => ?_)
  · exact pk_some z1
  · refine pk_ite (fun _ => ?_) (fun _ => ?_)
    · refine pk_bd (x_X5_patternOf a1 μ1  z1.1) (fun r7 μ6 ez2 => ?_)
      have z2 : Zc9 μ μ6 := z1.tr ez2
      exact pk_some z2
    · refine pk_ite (fun _ => ?_) (fun _ => ?_)
      · refine pk_bd (x_X5_ofVariant a1 (2 : Int32) μ1  z1.1) (fun r10 μ9 ez3 => ?_)
        have z3 : Zc9 μ μ9 := z1.tr ez3
        exact pk_some z3
      · refine pk_ite (fun _ => ?_) (fun _ => ?_)
        · refine pk_bd (x_X5_patternOf a1 μ1  z1.1) (fun r13 μ12 ez4 => ?_)
          have z4 : Zc9 μ μ12 := z1.tr ez4
          refine pk_bd (x_X2_stars r13 μ12  z4.1) (fun r15 μ14 ez5 => ?_)
          have z5 : Zc9 μ μ14 := z4.tr ez5
          exact pk_some z5
        · refine pk_ite (fun _ => ?_) (fun _ => ?_)
          · refine pk_bd (x_X5_countOf a1 (-1 : Int32) μ1  z1.1) (fun r18 μ17 ez6 => ?_)
            have z6 : Zc9 μ μ17 := z1.tr ez6
            exact pk_some z6
          · refine pk_ite (fun _ => ?_) (fun _ => ?_)
            · refine pk_bd (x_X5_ofVariant a1 (0 : Int32) μ1  z1.1) (fun r21 μ20 ez7 => ?_)
              have z7 : Zc9 μ μ20 := z1.tr ez7
              exact pk_some z7
            · refine pk_ite (fun _ => ?_) (fun _ => ?_)
              · refine pk_bd (x_X5_ofVariant a1 (1 : Int32) μ1  z1.1) (fun r24 μ23 ez8 => ?_)
                have z8 : Zc9 μ μ23 := z1.tr ez8
                exact pk_some z8
              · refine pk_ite (fun _ => ?_) (fun _ => ?_)
                · refine pk_bd (x_X5_patternOf a1 μ1  z1.1) (fun r27 μ26 ez9 => ?_)
                  have z9 : Zc9 μ μ26 := z1.tr ez9
                  refine pk_bd (x_X2_numbers r27 μ26  z9.1) (fun r29 μ28 ez10 => ?_)
                  have z10 : Zc9 μ μ28 := z9.tr ez10
                  exact pk_some z10
                · exact pk_some z1
theorem x_X11_variant (a1 : Int32) (a2 : Int32) (μ : Mem)  (hU : Uc9 μ) : pk (p_X11_variant a1 a2 μ) (fun q => Zc9 μ q.2) := by
  have z0 : Zc9 μ μ := Zc9.rf hU
  rw [p_X11_variant_eq]
  refine pk_bd (x_X5_aboutVariant a1 a2 μ  z0.1) (fun r2 μ1 ez1 => ?_)
  have z1 : Zc9 μ μ1 := z0.tr ez1
  exact pk_some z1
theorem x_X11_kinds (a1 : Int32) (a2 : Int32) (μ : Mem)  (hU : Uc9 μ) : pk (p_X11_kinds a1 a2 μ) (fun q => Zc9 μ q.2) := by
  have z0 : Zc9 μ μ := Zc9.rf hU
  rw [p_X11_kinds_eq]
  refine pk_bd (x_X5_hasVariant a1 μ  z0.1) (fun r2 μ1 ez1 => ?_)
  have z1 : Zc9 μ μ1 := z0.tr ez1
  refine pk_ite (fun _ => ?_) (fun _ => ?_)
  · exact pk_some z1
  · refine pk_ite (fun _ => ?_) (fun _ => ?_)
    · exact pk_some z1
    · refine pk_ite (fun _ => ?_) (fun _ => ?_)
      · refine pk_bd (x_X5_countOf a1 a2 μ1  z1.1) (fun r7 μ6 ez2 => ?_)
        have z2 : Zc9 μ μ6 := z1.tr ez2
        exact pk_some z2
      · exact pk_some z1
theorem x_X11_canRun_b25 (μ : Mem)  (hU : Uc9 μ) : pk (p_X11_canRun_b25 μ) (fun q => Zc9 μ q.2) := by
  have z0 : Zc9 μ μ := Zc9.rf hU
  rw [p_X11_canRun_b25_eq]
  refine pk_ite (fun _ => ?_) (fun _ => ?_)
  · refine pk_bd (x_X2_stars (sel 1 (μ.2.2 0 6)) μ  z0.1) (fun r5 μ4 ez1 => ?_)
    have z1 : Zc9 μ μ4 := z0.tr ez1
    refine pk_ite (fun _ => ?_) (fun _ => ?_)
    · exact pk_some z1
    · exact pk_some z1
  · exact pk_some z0
theorem x_X11_canRun_b11 (a1 : Int32) (μ : Mem)  (hU : Uc9 μ) : pk (p_X11_canRun_b11 a1 μ) (fun q => Zc9 μ q.2) := by
  have z0 : Zc9 μ μ := Zc9.rf hU
  rw [p_X11_canRun_b11_eq]
  refine pk_ite (fun _ => ?_) (fun _ => ?_)
  · exact pk_mono (x_X11_canRun_b25 μ  z0.1) (fun _ hq => z0.tr hq)
  · refine pk_ite (fun _ => ?_) (fun _ => ?_)
    · exact pk_some z0
    · exact pk_mono (x_X11_canRun_b25 μ  z0.1) (fun _ hq => z0.tr hq)
theorem x_X11_canRun (a1 : Int32) (μ : Mem)  (hU : Uc9 μ) : pk (p_X11_canRun a1 μ) (fun q => Zc9 μ q.2) := by
  have z0 : Zc9 μ μ := Zc9.rf hU
  rw [p_X11_canRun_eq]
  refine pk_ite (fun _ => ?_) (fun _ => ?_)
  · exact pk_mono (x_X11_canRun_b11 a1 μ  z0.1) (fun _ hq => z0.tr hq)
  · refine pk_ite (fun _ => ?_) (fun _ => ?_)
    · exact pk_mono (x_X11_canRun_b11 a1 μ  z0.1) (fun _ hq => z0.tr hq)
    · exact pk_some z0
theorem x_X1_begin_b45 : ∀ (n : Nat) (a0 : Nat) (a1 : Int32) (μ : Mem), Go a0 → Uc9 μ → pk (p_X1_begin_b45  n a0 a1 μ) (fun q => Zc9 μ q) := by
  intro n
  induction n with
  | zero => intro a0 a1 μ g_a0 hU r e; rw [p_X1_begin_b45_z] at e; cases e
  | succ n ih =>
    intro a0 a1 μ g_a0 hU
    have z0 : Zc9 μ μ := Zc9.rf hU
    rw [p_X1_begin_b45_s]
    refine pk_ite (fun _ => ?_) (fun _ => ?_)
    · exact pk_some z0
    · refine pk_gd (fun _ => ?_)
      refine pk_bvy (fun μ11 ez1 => ?_)
      have z1 : Zc9 μ μ11 := by rw [ez1]; exact z0.sF (by have h0 := g_a0; unfold Go at h0; unfold Pc9; omega)
      refine pk_bvy (fun v12 _ => ?_)
      exact pk_mono (ih a0 v12 μ11 g_a0 z1.1) (fun _ hq => z1.tr hq)
theorem x_X1_begin (a0 : Nat) (μ : Mem) (g_a0 : Go a0) (hU : Uc9 μ) : pk (p_X1_begin a0 μ) (fun q => Zc9 μ q) := by
  have z0 : Zc9 μ μ := Zc9.rf hU
  rw [p_X1_begin_eq]
  refine pk_bvy (fun μ1 ez1 => ?_)
  have z1 : Zc9 μ μ1 := by rw [ez1]; exact z0.sF (by have h0 := g_a0; unfold Go at h0; unfold Pc9; omega)
  refine pk_bvy (fun μ2 ez2 => ?_)
  have z2 : Zc9 μ μ2 := by rw [ez2]; exact z1.sF (by have h0 := g_a0; unfold Go at h0; unfold Pc9; omega)
  refine pk_bvy (fun μ3 ez3 => ?_)
  have z3 : Zc9 μ μ3 := by rw [ez3]; exact z2.sF (by have h0 := g_a0; unfold Go at h0; unfold Pc9; omega)
  refine pk_bvy (fun μ4 ez4 => ?_)
  have z4 : Zc9 μ μ4 := by rw [ez4]; exact z3.sF (by have h0 := g_a0; unfold Go at h0; unfold Pc9; omega)
  refine pk_bvy (fun μ5 ez5 => ?_)
  have z5 : Zc9 μ μ5 := by rw [ez5]; exact z4.sF (by have h0 := g_a0; unfold Go at h0; unfold Pc9; omega)
  refine pk_bvy (fun μ6 ez6 => ?_)
  have z6 : Zc9 μ μ6 := by rw [ez6]; exact z5.sF (by have h0 := g_a0; unfold Go at h0; unfold Pc9; omega)
  refine pk_bvy (fun μ7 ez7 => ?_)
  have z7 : Zc9 μ μ7 := by rw [ez7]; exact z6.sF (by have h0 := g_a0; unfold Go at h0; unfold Pc9; omega)
  refine pk_bw (x_X2_begin (a0 + 3) (0 : Int32) μ7 (gc_3 g_a0) z7.1) (fun μ8 ez8 => ?_)
  have z8 : Zc9 μ μ8 := z7.tr ez8
  exact pk_mono (x_X1_begin_b45 FUEL a0 (0 : Int32) μ8 g_a0 z8.1) (fun _ hq => z8.tr hq)
theorem x_X1_clear (a0 : Nat) (μ : Mem) (g_a0 : Go a0) (hU : Uc9 μ) : pk (p_X1_clear a0 μ) (fun q => Zc9 μ q) := by
  have z0 : Zc9 μ μ := Zc9.rf hU
  rw [p_X1_clear_eq]
  refine pk_bw (x_X1_begin a0 μ g_a0 z0.1) (fun μ1 ez1 => ?_)
  have z1 : Zc9 μ μ1 := z0.tr ez1
  exact pk_some z1
theorem x_X1_isRunning (a0 : Nat) (μ : Mem)  (hU : Uc9 μ) : pk (p_X1_isRunning a0 μ) (fun q => Zc9 μ q.2) := by
  have z0 : Zc9 μ μ := Zc9.rf hU
  rw [p_X1_isRunning_eq]
  refine pk_ite (fun _ => ?_) (fun _ => ?_)
  · exact pk_some z0
  · exact pk_some z0
theorem x_X1_beginCall (a0 : Nat) (μ : Mem) (g_a0 : Go a0) (hU : Uc9 μ) : pk (p_X1_beginCall a0 μ) (fun q => Zc9 μ q.2) := by
  have z0 : Zc9 μ μ := Zc9.rf hU
  rw [p_X1_beginCall_eq]
  refine pk_ite (fun _ => ?_) (fun _ => ?_)
  · refine pk_ite (fun _ => ?_) (fun _ => ?_)
    · refine pk_bvy (fun μ3 ez1 => ?_)
      have z1 : Zc9 μ μ3 := by rw [ez1]; exact z0.sF (by have h0 := g_a0; unfold Go at h0; unfold Pc9; omega)
      refine pk_bvy (fun μ4 ez2 => ?_)
      have z2 : Zc9 μ μ4 := by rw [ez2]; exact z1.sF (by have h0 := g_a0; unfold Go at h0; unfold Pc9; omega)
      refine pk_bvy (fun μ5 ez3 => ?_)
      have z3 : Zc9 μ μ5 := by rw [ez3]; exact z2.sF (by have h0 := g_a0; unfold Go at h0; unfold Pc9; omega)
      refine pk_bd (x_X1_isRunning a0 μ5  z3.1) (fun r7 μ6 ez4 => ?_)
      have z4 : Zc9 μ μ6 := z3.tr ez4
      refine pk_gd (fun _ => ?_)
      exact pk_some z4
    · refine pk_bvy (fun μ9 ez5 => ?_)
      have z5 : Zc9 μ μ9 := by rw [ez5]; exact z0.sF (by have h0 := g_a0; unfold Go at h0; unfold Pc9; omega)
      refine pk_bd (x_X1_isRunning a0 μ9  z5.1) (fun r11 μ10 ez6 => ?_)
      have z6 : Zc9 μ μ10 := z5.tr ez6
      refine pk_gd (fun _ => ?_)
      exact pk_some z6
  · refine pk_bvy (fun μ13 ez7 => ?_)
    have z7 : Zc9 μ μ13 := by rw [ez7]; exact z0.sF (by have h0 := g_a0; unfold Go at h0; unfold Pc9; omega)
    refine pk_bd (x_X1_isRunning a0 μ13  z7.1) (fun r15 μ14 ez8 => ?_)
    have z8 : Zc9 μ μ14 := z7.tr ez8
    refine pk_gd (fun _ => ?_)
    exact pk_some z8
theorem x_X7_call (a1 : Int32) (a2 : Int32) (μ : Mem)  (hU : Uc9 μ) : pk (p_X7_call a1 a2 μ) (fun q => Zc9 μ q) := by
  have z0 : Zc9 μ μ := Zc9.rf hU
  rw [p_X7_call_eq]
  refine pk_bd (x_X3_startOf (sel 2 (μ.2.2 148 3)) a1 μ  z0.1) (fun r2 μ1 ez1 => ?_)
  have z1 : Zc9 μ μ1 := z0.tr ez1
  refine pk_ite (fun _ => ?_) (fun _ => ?_)
  · refine pk_bvy (fun μ10 ez2 => ?_)
    have z2 : Zc9 μ μ10 := by rw [ez2]; exact z1.sF (pc_go (go_sel _))
    exact pk_some z2
  · refine pk_bd (x_X1_beginCall (sel 0 (μ1.2.2 148 4)) μ1 (go_sel _) z1.1) (fun r5 μ4 ez3 => ?_)
    have z3 : Zc9 μ μ4 := z1.tr ez3
    refine pk_ite (fun _ => ?_) (fun _ => ?_)
    · exact pk_some z3
    · refine pk_bw (x_X8_openFrame a2 (μ4.1 148 5) μ4  z3.1) (fun μ7 ez4 => ?_)
      have z4 : Zc9 μ μ7 := z3.tr ez4
      refine pk_bvy (fun μ9 ez5 => ?_)
      have z5 : Zc9 μ μ9 := by rw [ez5]; exact z4.sF (by unfold Pc9; omega)
      exact pk_some z5
theorem x_X7_makePair (μ : Mem)  (hU : Uc9 μ) : pk (p_X7_makePair μ) (fun q => Zc9 μ q) := by
  have z0 : Zc9 μ μ := Zc9.rf hU
  rw [p_X7_makePair_eq]
  refine pk_bd (x_X8_pop μ  z0.1) (fun r2 μ1 ez1 => ?_)
  have z1 : Zc9 μ μ1 := z0.tr ez1
  refine pk_bd (x_X8_pop μ1  z1.1) (fun r4 μ3 ez2 => ?_)
  have z2 : Zc9 μ μ3 := z1.tr ez2
  refine pk_bd (x_X8_isTooHeavy r4 r2 μ3  z2.1) (fun r6 μ5 ez3 => ?_)
  have z3 : Zc9 μ μ5 := z2.tr ez3
  refine pk_ite (fun _ => ?_) (fun _ => ?_)
  · refine pk_bd (x_X8_pair r4 r2 μ5  z3.1) (fun r9 μ8 ez4 => ?_)
    have z4 : Zc9 μ μ8 := z3.tr ez4
    refine pk_bw (x_X8_push r9 μ8  z4.1) (fun μ10 ez5 => ?_)
    have z5 : Zc9 μ μ10 := z4.tr ez5
    exact pk_some z5
  · refine pk_bvy (fun μ12 ez6 => ?_)
    have z6 : Zc9 μ μ12 := by rw [ez6]; exact z3.sF (pc_go (go_sel _))
    exact pk_some z6
theorem x_X1_writeOut (a0 : Nat) (a1 : Int64) (μ : Mem) (g_a0 : Go a0) (hU : Uc9 μ) : pk (p_X1_writeOut a0 a1 μ) (fun q => Zc9 μ q) := by
  have z0 : Zc9 μ μ := Zc9.rf hU
  rw [p_X1_writeOut_eq]
  refine pk_ite (fun _ => ?_) (fun _ => ?_)
  · refine pk_bvy (fun μ2 ez1 => ?_)
    have z1 : Zc9 μ μ2 := by rw [ez1]; exact z0.sF (by have h0 := g_a0; unfold Go at h0; unfold Pc9; omega)
    exact pk_some z1
  · refine pk_gd (fun _ => ?_)
    refine pk_bvy (fun μ3 ez2 => ?_)
    have z2 : Zc9 μ μ3 := by rw [ez2]; exact z0.sL (by have h0 := g_a0; unfold Go at h0; unfold Pc9; omega)
    refine pk_bvy (fun μ4 ez3 => ?_)
    have z3 : Zc9 μ μ4 := by rw [ez3]; exact z2.sF (by have h0 := g_a0; unfold Go at h0; unfold Pc9; omega)
    exact pk_some z3
theorem x_X1_put (a0 : Nat) (a1 : Int32) (a2 : Int64) (μ : Mem) (g_a0 : Go a0) (hU : Uc9 μ) : pk (p_X1_put a0 a1 a2 μ) (fun q => Zc9 μ q.2) := by
  have z0 : Zc9 μ μ := Zc9.rf hU
  rw [p_X1_put_eq]
  refine pk_ite (fun _ => ?_) (fun _ => ?_)
  · exact pk_some z0
  · refine pk_ite (fun _ => ?_) (fun _ => ?_)
    · exact pk_some z0
    · refine pk_gd (fun _ => ?_)
      refine pk_bvy (fun μ3 ez1 => ?_)
      have z1 : Zc9 μ μ3 := by rw [ez1]; exact z0.sF (by have h0 := g_a0; unfold Go at h0; unfold Pc9; omega)
      exact pk_some z1
theorem x_X1_placeBits (a0 : Nat) (a1 : Int32) (μ : Mem)  (hU : Uc9 μ) : pk (p_X1_placeBits a0 a1 μ) (fun q => Zc9 μ q.2) := by
  have z0 : Zc9 μ μ := Zc9.rf hU
  rw [p_X1_placeBits_eq]
  refine pk_ite (fun _ => ?_) (fun _ => ?_)
  · exact pk_some z0
  · refine pk_ite (fun _ => ?_) (fun _ => ?_)
    · exact pk_some z0
    · refine pk_gd (fun _ => ?_)
      exact pk_some z0
theorem x_X1_get (a0 : Nat) (a1 : Int32) (μ : Mem)  (hU : Uc9 μ) : pk (p_X1_get a0 a1 μ) (fun q => Zc9 μ q.2) := by
  have z0 : Zc9 μ μ := Zc9.rf hU
  rw [p_X1_get_eq]
  refine pk_ite (fun _ => ?_) (fun _ => ?_)
  · refine pk_bd (x_X1_placeBits a0 a1 μ  z0.1) (fun r3 μ2 ez1 => ?_)
    have z1 : Zc9 μ μ2 := z0.tr ez1
    exact pk_some z1
  · refine pk_bd (x_X1_placeBits a0 a1 μ  z0.1) (fun r5 μ4 ez2 => ?_)
    have z2 : Zc9 μ μ4 := z0.tr ez2
    exact pk_some z2
theorem x_X1_endCall (a0 : Nat) (μ : Mem) (g_a0 : Go a0) (hU : Uc9 μ) : pk (p_X1_endCall a0 μ) (fun q => Zc9 μ q) := by
  have z0 : Zc9 μ μ := Zc9.rf hU
  rw [p_X1_endCall_eq]
  refine pk_bvy (fun μ1 ez1 => ?_)
  have z1 : Zc9 μ μ1 := by rw [ez1]; exact z0.sF (by have h0 := g_a0; unfold Go at h0; unfold Pc9; omega)
  exact pk_some z1
theorem x_X1_endWith (a0 : Nat) (a2 : Int64) (μ : Mem) (g_a0 : Go a0) (hU : Uc9 μ) : pk (p_X1_endWith a0 a2 μ) (fun q => Zc9 μ q) := by
  have z0 : Zc9 μ μ := Zc9.rf hU
  rw [p_X1_endWith_eq]
  refine pk_bvy (fun μ1 ez1 => ?_)
  have z1 : Zc9 μ μ1 := by rw [ez1]; exact z0.sF (by have h0 := g_a0; unfold Go at h0; unfold Pc9; omega)
  refine pk_bd (x_X8_weightOf a2 μ1  z1.1) (fun r3 μ2 ez2 => ?_)
  have z2 : Zc9 μ μ2 := z1.tr ez2
  refine pk_bvy (fun μ4 ez3 => ?_)
  have z3 : Zc9 μ μ4 := by rw [ez3]; exact z2.sF (by have h0 := g_a0; unfold Go at h0; unfold Pc9; omega)
  refine pk_bd (x_X8_deepOf a2 μ4  z3.1) (fun r6 μ5 ez4 => ?_)
  have z4 : Zc9 μ μ5 := z3.tr ez4
  refine pk_bvy (fun μ7 ez5 => ?_)
  have z5 : Zc9 μ μ7 := by rw [ez5]; exact z4.sF (by have h0 := g_a0; unfold Go at h0; unfold Pc9; omega)
  refine pk_bw (x_X8_flatten a2 (a0 + 3) μ7 (gc_3 g_a0) z5.1) (fun μ8 ez6 => ?_)
  have z6 : Zc9 μ μ8 := z5.tr ez6
  exact pk_some z6
theorem x_X7_goBack (μ : Mem)  (hU : Uc9 μ) : pk (p_X7_goBack μ) (fun q => Zc9 μ q) := by
  have z0 : Zc9 μ μ := Zc9.rf hU
  rw [p_X7_goBack_eq]
  refine pk_bw (x_X1_endCall (sel 0 (μ.2.2 148 4)) μ (go_sel _) z0.1) (fun μ1 ez1 => ?_)
  have z1 : Zc9 μ μ1 := z0.tr ez1
  refine pk_bd (x_X8_closeFrame μ1  z1.1) (fun r4 μ3 ez2 => ?_)
  have z2 : Zc9 μ μ3 := z1.tr ez2
  refine pk_bvy (fun μ5 ez3 => ?_)
  have z3 : Zc9 μ μ5 := by rw [ez3]; exact z2.sF (by unfold Pc9; omega)
  refine pk_ite (fun _ => ?_) (fun _ => ?_)
  · exact pk_some z3
  · refine pk_bd (x_X8_pop μ5  z3.1) (fun r8 μ7 ez4 => ?_)
    have z4 : Zc9 μ μ7 := z3.tr ez4
    refine pk_bw (x_X1_endWith (sel 0 (μ5.2.2 148 4)) r8 μ7 (go_sel _) z4.1) (fun μ9 ez5 => ?_)
    have z5 : Zc9 μ μ9 := z4.tr ez5
    exact pk_some z5
theorem x_X7_step (μ : Mem)  (hU : Uc9 μ) : pk (p_X7_step μ) (fun q => Zc9 μ q) := by
  have z0 : Zc9 μ μ := Zc9.rf hU
  rw [p_X7_step_eq]
  refine pk_bd (x_X3_stepAt (sel 2 (μ.2.2 148 3)) (μ.1 148 5) μ  z0.1) (fun r2 μ1 ez1 => ?_)
  have z1 : Zc9 μ μ1 := z0.tr ez1
  refine pk_bd (x_X3_markAt (sel 2 (μ1.2.2 148 3)) (μ1.1 148 5) μ1  z1.1) (fun r4 μ3 ez2 => ?_)
  have z2 : Zc9 μ μ3 := z1.tr ez2
  refine pk_bd (x_X3_bitsAt (sel 2 (μ3.2.2 148 3)) (μ3.1 148 5) μ3  z2.1) (fun r6 μ5 ez3 => ?_)
  have z3 : Zc9 μ μ5 := z2.tr ez3
  refine pk_bvy (fun μ7 ez4 => ?_)
  have z4 : Zc9 μ μ7 := by rw [ez4]; exact z3.sF (by unfold Pc9; omega)
  refine pk_ite (fun _ => ?_) (fun _ => ?_)
  · refine pk_bw (x_X8_push (s_X0_make r4 r6) μ7  z4.1) (fun μ10 ez5 => ?_)
    have z5 : Zc9 μ μ10 := z4.tr ez5
    exact pk_some z5
  · refine pk_ite (fun _ => ?_) (fun _ => ?_)
    · refine pk_bd (x_X8_varAt r4 μ7  z4.1) (fun r14 μ13 ez6 => ?_)
      have z6 : Zc9 μ μ13 := z4.tr ez6
      refine pk_bw (x_X8_push r14 μ13  z6.1) (fun μ15 ez7 => ?_)
      have z7 : Zc9 μ μ15 := z6.tr ez7
      exact pk_some z7
    · refine pk_ite (fun _ => ?_) (fun _ => ?_)
      · refine pk_bd (x_X8_popNum μ7  z4.1) (fun r19 μ18 ez8 => ?_)
        have z8 : Zc9 μ μ18 := z4.tr ez8
        refine pk_bd (x_X8_popNum μ18  z8.1) (fun r21 μ20 ez9 => ?_)
        have z9 : Zc9 μ μ20 := z8.tr ez9
        refine pk_bw (x_X8_push (s_X0_apply r4 r21 r19) μ20  z9.1) (fun μ22 ez10 => ?_)
        have z10 : Zc9 μ μ22 := z9.tr ez10
        exact pk_some z10
      · refine pk_ite (fun _ => ?_) (fun _ => ?_)
        · refine pk_bd (x_X8_popNum μ7  z4.1) (fun r26 μ25 ez11 => ?_)
          have z11 : Zc9 μ μ25 := z4.tr ez11
          refine pk_bw (x_X8_push (s_X0_turn r4 r26) μ25  z11.1) (fun μ27 ez12 => ?_)
          have z12 : Zc9 μ μ27 := z11.tr ez12
          exact pk_some z12
        · refine pk_ite (fun _ => ?_) (fun _ => ?_)
          · refine pk_bd (x_X8_pop μ7  z4.1) (fun r31 μ30 ez13 => ?_)
            have z13 : Zc9 μ μ30 := z4.tr ez13
            refine pk_ite (fun _ => ?_) (fun _ => ?_)
            · refine pk_bd (x_X8_firstOf r31 μ30  z13.1) (fun r38 μ37 ez14 => ?_)
              have z14 : Zc9 μ μ37 := z13.tr ez14
              refine pk_bw (x_X8_push r38 μ37  z14.1) (fun μ39 ez15 => ?_)
              have z15 : Zc9 μ μ39 := z14.tr ez15
              exact pk_some z15
            · refine pk_bd (x_X8_secondOf r31 μ30  z13.1) (fun r34 μ33 ez16 => ?_)
              have z16 : Zc9 μ μ33 := z13.tr ez16
              refine pk_bw (x_X8_push r34 μ33  z16.1) (fun μ35 ez17 => ?_)
              have z17 : Zc9 μ μ35 := z16.tr ez17
              exact pk_some z17
          · refine pk_ite (fun _ => ?_) (fun _ => ?_)
            · refine pk_bw (x_X7_makePair μ7  z4.1) (fun μ42 ez18 => ?_)
              have z18 : Zc9 μ μ42 := z4.tr ez18
              exact pk_some z18
            · refine pk_ite (fun _ => ?_) (fun _ => ?_)
              · refine pk_bd (x_X8_popNum μ7  z4.1) (fun r46 μ45 ez19 => ?_)
                have z19 : Zc9 μ μ45 := z4.tr ez19
                refine pk_ite (fun _ => ?_) (fun _ => ?_)
                · refine pk_bvy (fun μ48 ez20 => ?_)
                  have z20 : Zc9 μ μ48 := by rw [ez20]; exact z19.sF (by unfold Pc9; omega)
                  exact pk_some z20
                · refine pk_bvy (fun μ49 ez21 => ?_)
                  have z21 : Zc9 μ μ49 := by rw [ez21]; exact z19.sF (by unfold Pc9; omega)
                  exact pk_some z21
              · refine pk_ite (fun _ => ?_) (fun _ => ?_)
                · refine pk_bvy (fun μ51 ez22 => ?_)
                  have z22 : Zc9 μ μ51 := by rw [ez22]; exact z4.sF (by unfold Pc9; omega)
                  exact pk_some z22
                · refine pk_ite (fun _ => ?_) (fun _ => ?_)
                  · exact pk_some z4
                  · refine pk_ite (fun _ => ?_) (fun _ => ?_)
                    · refine pk_bd (x_X8_fromTop (0 : Int32) μ7  z4.1) (fun r55 μ54 ez23 => ?_)
                      have z23 : Zc9 μ μ54 := z4.tr ez23
                      refine pk_bd (x_X8_num r55 μ54  z23.1) (fun r57 μ56 ez24 => ?_)
                      have z24 : Zc9 μ μ56 := z23.tr ez24
                      refine pk_bw (x_X1_writeOut (sel 0 (μ7.2.2 148 4)) r57 μ56 (go_sel _) z24.1) (fun μ58 ez25 => ?_)
                      have z25 : Zc9 μ μ58 := z24.tr ez25
                      exact pk_some z25
                    · refine pk_ite (fun _ => ?_) (fun _ => ?_)
                      · refine pk_bd (x_X8_popNum μ7  z4.1) (fun r62 μ61 ez26 => ?_)
                        have z26 : Zc9 μ μ61 := z4.tr ez26
                        refine pk_bd (x_X1_put (sel 0 (μ7.2.2 148 4)) r4 (s_X0_stored r4 r62) μ61 (go_sel _) z26.1) (fun r64 μ63 ez27 => ?_)
                        have z27 : Zc9 μ μ63 := z26.tr ez27
                        refine pk_bw (x_X8_push r64 μ63  z27.1) (fun μ65 ez28 => ?_)
                        have z28 : Zc9 μ μ65 := z27.tr ez28
                        exact pk_some z28
                      · refine pk_ite (fun _ => ?_) (fun _ => ?_)
                        · refine pk_bd (x_X1_get (sel 0 (μ7.2.2 148 4)) r4 μ7  z4.1) (fun r69 μ68 ez29 => ?_)
                          have z29 : Zc9 μ μ68 := z4.tr ez29
                          refine pk_bw (x_X8_push r69 μ68  z29.1) (fun μ70 ez30 => ?_)
                          have z30 : Zc9 μ μ70 := z29.tr ez30
                          exact pk_some z30
                        · refine pk_ite (fun _ => ?_) (fun _ => ?_)
                          · refine pk_bd (x_X8_pop μ7  z4.1) (fun r74 μ73 ez31 => ?_)
                            have z31 : Zc9 μ μ73 := z4.tr ez31
                            refine pk_bw (x_X8_setVar r4 r74 μ73  z31.1) (fun μ75 ez32 => ?_)
                            have z32 : Zc9 μ μ75 := z31.tr ez32
                            exact pk_some z32
                          · refine pk_ite (fun _ => ?_) (fun _ => ?_)
                            · refine pk_bw (x_X7_call r4 r6 μ7  z4.1) (fun μ78 ez33 => ?_)
                              have z33 : Zc9 μ μ78 := z4.tr ez33
                              exact pk_some z33
                            · refine pk_bw (x_X7_goBack μ7  z4.1) (fun μ80 ez34 => ?_)
                              have z34 : Zc9 μ μ80 := z4.tr ez34
                              exact pk_some z34
theorem x_X7_runTask_b131 : ∀ (n : Nat) (a6 : Int32) (μ : Mem), Uc9 μ → pk (p_X7_runTask_b131  n a6 μ) (fun q => Zc9 μ q) := by
  intro n
  induction n with
  | zero => intro a6 μ  hU r e; rw [p_X7_runTask_b131_z] at e; cases e
  | succ n ih =>
    intro a6 μ  hU
    have z0 : Zc9 μ μ := Zc9.rf hU
    rw [p_X7_runTask_b131_s]
    refine pk_ite (fun _ => ?_) (fun _ => ?_)
    · exact pk_some z0
    · refine pk_bd (x_X1_isRunning (sel 0 (μ.2.2 148 4)) μ  z0.1) (fun r16 μ15 ez1 => ?_)
      have z1 : Zc9 μ μ15 := z0.tr ez1
      refine pk_ite (fun _ => ?_) (fun _ => ?_)
      · exact pk_some z1
      · refine pk_bw (x_X7_step μ15  z1.1) (fun μ18 ez2 => ?_)
        have z2 : Zc9 μ μ18 := z1.tr ez2
        refine pk_bvy (fun v20 _ => ?_)
        exact pk_mono (ih v20 μ18  z2.1) (fun _ hq => z2.tr hq)
theorem x_X7_runTask_b63 : ∀ (n : Nat) (a2 : Nat) (a5 : Int32) (a6 : Int32) (μ : Mem), Uc9 μ → pk (p_X7_runTask_b63  n a2 a5 a6 μ) (fun q => Zc9 μ q) := by
  intro n
  induction n with
  | zero => intro a2 a5 a6 μ  hU r e; rw [p_X7_runTask_b63_z] at e; cases e
  | succ n ih =>
    intro a2 a5 a6 μ  hU
    have z0 : Zc9 μ μ := Zc9.rf hU
    rw [p_X7_runTask_b63_s]
    refine pk_ite (fun _ => ?_) (fun _ => ?_)
    · refine pk_bw (x_X7_call (μ.1 a2 3) a5 μ  z0.1) (fun μ12 ez1 => ?_)
      have z1 : Zc9 μ μ12 := z0.tr ez1
      exact pk_mono (x_X7_runTask_b131 FUEL (0 : Int32) μ12  z1.1) (fun _ hq => z1.tr hq)
    · refine pk_gd (fun _ => ?_)
      refine pk_bd (x_X8_weightOf (μ.2.1 150 a6.toNatClampNeg) μ  z0.1) (fun r22 μ21 ez2 => ?_)
      have z2 : Zc9 μ μ21 := z0.tr ez2
      refine pk_ite (fun _ => ?_) (fun _ => ?_)
      · refine pk_gd (fun _ => ?_)
        refine pk_bw (x_X8_push (μ21.2.1 150 a6.toNatClampNeg) μ21  z2.1) (fun μ24 ez3 => ?_)
        have z3 : Zc9 μ μ24 := z2.tr ez3
        refine pk_bvy (fun v26 _ => ?_)
        exact pk_mono (ih a2 a5 v26 μ24  z3.1) (fun _ hq => z3.tr hq)
      · refine pk_bvy (fun μ27 ez4 => ?_)
        have z4 : Zc9 μ μ27 := by rw [ez4]; exact z2.sF (pc_go (go_sel _))
        exact pk_some z4
theorem x_X7_runTask (a1 : Nat) (a2 : Nat) (a3 : Nat) (a4 : Nat) (μ : Mem)  (hU : Uc9 μ) : pk (p_X7_runTask a1 a2 a3 a4 μ) (fun q => Zc9 μ q) := by
  have z0 : Zc9 μ μ := Zc9.rf hU
  rw [p_X7_runTask_eq]
  refine pk_bvy (fun μ1 ez1 => ?_)
  have z1 : Zc9 μ μ1 := by rw [ez1]; exact z0.sR
  refine pk_bvy (fun μ2 ez2 => ?_)
  have z2 : Zc9 μ μ2 := by rw [ez2]; exact z1.sR
  refine pk_bw (x_X1_clear (sel 0 (μ2.2.2 148 4)) μ2 (go_sel _) z2.1) (fun μ3 ez3 => ?_)
  have z3 : Zc9 μ μ3 := z2.tr ez3
  refine pk_bw (x_X8_clear μ3  z3.1) (fun μ5 ez4 => ?_)
  have z4 : Zc9 μ μ5 := z3.tr ez4
  refine pk_bd (x_X8_build a3 149 149 μ5 (by unfold Gcx9; omega) z4.1) (fun r8 μ7 ez5 => ?_)
  have z5 : Zc9 μ μ7 := z4.tr ez5
  refine pk_bd (x_X8_build a2 149 150 μ7 (by unfold Gcx9; omega) z5.1) (fun r10 μ9 ez6 => ?_)
  have z6 : Zc9 μ μ9 := z5.tr ez6
  exact pk_mono (x_X7_runTask_b63 FUEL a2 r10 (0 : Int32) μ9  z6.1) (fun _ hq => z6.tr hq)
theorem x_X6_setRegister (a1 : Int32) (a2 : Int32) (a3 : Int64) (μ : Mem)  (hU : Uc9 μ) : pk (p_X6_setRegister a1 a2 a3 μ) (fun q => Zc9 μ q) := by
  have z0 : Zc9 μ μ := Zc9.rf hU
  rw [p_X6_setRegister_eq]
  refine pk_bvy (fun v1 _ => ?_)
  refine pk_ite (fun _ => ?_) (fun _ => ?_)
  · exact pk_some z0
  · refine pk_ite (fun _ => ?_) (fun _ => ?_)
    · exact pk_some z0
    · refine pk_ite (fun _ => ?_) (fun _ => ?_)
      · exact pk_some z0
      · refine pk_gd (fun _ => ?_)
        refine pk_bvy (fun μ5 ez1 => ?_)
        have z1 : Zc9 μ μ5 := by rw [ez1]; exact z0.sL (by unfold Pc9; omega)
        exact pk_some z1
theorem x_X5_firstOf (a1 : Int32) (μ : Mem)  (hU : Uc9 μ) : pk (p_X5_firstOf a1 μ) (fun q => Zc9 μ q.2) := by
  have z0 : Zc9 μ μ := Zc9.rf hU
  rw [p_X5_firstOf_eq]
  refine pk_bd (x_X5_isBlock a1 μ  z0.1) (fun r2 μ1 ez1 => ?_)
  have z1 : Zc9 μ μ1 := z0.tr ez1
  refine pk_ite (fun _ => ?_) (fun _ => ?_)
  · exact pk_some z1
  · refine pk_gd (fun _ => ?_)
    exact pk_some z1
theorem x_X6_enter (a1 : Int32) (μ : Mem)  (hU : Uc9 μ) : pk (p_X6_enter a1 μ) (fun q => Zc9 μ q) := by
  have z0 : Zc9 μ μ := Zc9.rf hU
  rw [p_X6_enter_eq]
  refine pk_ite (fun _ => ?_) (fun _ => ?_)
  · exact pk_some z0
  · refine pk_gd (fun _ => ?_)
    refine pk_bvy (fun μ2 ez1 => ?_)
    have z1 : Zc9 μ μ2 := by rw [ez1]; exact z0.sF (by unfold Pc9; omega)
    refine pk_bd (x_X5_firstOf a1 μ2  z1.1) (fun r4 μ3 ez2 => ?_)
    have z2 : Zc9 μ μ3 := z1.tr ez2
    refine pk_gd (fun _ => ?_)
    refine pk_bvy (fun μ5 ez3 => ?_)
    have z3 : Zc9 μ μ5 := by rw [ez3]; exact z2.sF (by unfold Pc9; omega)
    refine pk_bvy (fun μ6 ez4 => ?_)
    have z4 : Zc9 μ μ6 := by rw [ez4]; exact z3.sF (by unfold Pc9; omega)
    exact pk_some z4
theorem x_X6_known (a1 : Int64) (μ : Mem)  (hU : Uc9 μ) : pk (p_X6_known a1 μ) (fun q => Zc9 μ q.2) := by
  have z0 : Zc9 μ μ := Zc9.rf hU
  rw [p_X6_known_eq]
  refine pk_ite (fun _ => ?_) (fun _ => ?_)
  · refine pk_bvy (fun v2 _ => ?_)
    refine pk_ite (fun _ => ?_) (fun _ => ?_)
    · exact pk_some z0
    · refine pk_ite (fun _ => ?_) (fun _ => ?_)
      · exact pk_some z0
      · refine pk_gd (fun _ => ?_)
        exact pk_some z0
  · exact pk_some z0
theorem x_X6_goOn (a1 : Int32) (a2 : Int64) (μ : Mem)  (hU : Uc9 μ) : pk (p_X6_goOn a1 a2 μ) (fun q => Zc9 μ q) := by
  have z0 : Zc9 μ μ := Zc9.rf hU
  rw [p_X6_goOn_eq]
  refine pk_bd (x_X5_cell a1 (1 : Int32) μ  z0.1) (fun r2 μ1 ez1 => ?_)
  have z1 : Zc9 μ μ1 := z0.tr ez1
  refine pk_bw (x_X6_setRegister (μ.1 151 6) r2 a2 μ1  z1.1) (fun μ3 ez2 => ?_)
  have z2 : Zc9 μ μ3 := z1.tr ez2
  refine pk_ite (fun _ => ?_) (fun _ => ?_)
  · exact pk_some z2
  · refine pk_bd (x_X5_cell a1 (5 : Int32) μ3  z2.1) (fun r7 μ6 ez3 => ?_)
    have z3 : Zc9 μ μ6 := z2.tr ez3
    refine pk_gd (fun _ => ?_)
    refine pk_bvy (fun μ8 ez4 => ?_)
    have z4 : Zc9 μ μ8 := by rw [ez4]; exact z3.sF (by unfold Pc9; omega)
    exact pk_some z4
theorem x_X6_endBlock (μ : Mem)  (hU : Uc9 μ) : pk (p_X6_endBlock μ) (fun q => Zc9 μ q) := by
  have z0 : Zc9 μ μ := Zc9.rf hU
  rw [p_X6_endBlock_eq]
  refine pk_gd (fun _ => ?_)
  refine pk_bd (x_X5_endOf (μ.1 154 ((μ.1 151 5) - (1 : Int32)).toNatClampNeg) μ  z0.1) (fun r2 μ1 ez1 => ?_)
  have z1 : Zc9 μ μ1 := z0.tr ez1
  refine pk_bd (x_X6_known r2 μ1  z1.1) (fun r4 μ3 ez2 => ?_)
  have z2 : Zc9 μ μ3 := z1.tr ez2
  refine pk_bvy (fun μ5 ez3 => ?_)
  have z3 : Zc9 μ μ5 := by rw [ez3]; exact z2.sF (by unfold Pc9; omega)
  refine pk_ite (fun _ => ?_) (fun _ => ?_)
  · refine pk_gd (fun _ => ?_)
    refine pk_bvy (fun v7 _ => ?_)
    refine pk_bd (x_X5_cell v7 (0 : Int32) μ5  z3.1) (fun r9 μ8 ez4 => ?_)
    have z4 : Zc9 μ μ8 := z3.tr ez4
    refine pk_ite (fun _ => ?_) (fun _ => ?_)
    · refine pk_bw (x_X1_endCall (sel 0 (μ8.2.2 151 8)) μ8 (go_sel _) z4.1) (fun μ13 ez5 => ?_)
      have z5 : Zc9 μ μ13 := z4.tr ez5
      refine pk_bd (x_X5_cell v7 (6 : Int32) μ13  z5.1) (fun r16 μ15 ez6 => ?_)
      have z6 : Zc9 μ μ15 := z5.tr ez6
      refine pk_bd (x_X5_ofVariant r16 (2 : Int32) μ15  z6.1) (fun r18 μ17 ez7 => ?_)
      have z7 : Zc9 μ μ17 := z6.tr ez7
      refine pk_bvy (fun μ19 ez8 => ?_)
      have z8 : Zc9 μ μ19 := by rw [ez8]; exact z7.sF (by unfold Pc9; omega)
      refine pk_bw (x_X6_goOn v7 r4 μ19  z8.1) (fun μ20 ez9 => ?_)
      have z9 : Zc9 μ μ20 := z8.tr ez9
      exact pk_some z9
    · refine pk_bw (x_X6_goOn v7 r4 μ8  z4.1) (fun μ11 ez10 => ?_)
      have z10 : Zc9 μ μ11 := z4.tr ez10
      exact pk_some z10
  · refine pk_bw (x_X1_endWith (sel 0 (μ5.2.2 151 8)) r4 μ5 (go_sel _) z3.1) (fun μ22 ez11 => ?_)
    have z11 : Zc9 μ μ22 := z3.tr ez11
    exact pk_some z11
theorem x_X5_operand_b27 (a1 : Int32) (a2 : Int32) (k0 : Int32) (μ : Mem)  (hU : Uc9 μ) : pk (p_X5_operand_b27 a1 a2 k0 μ) (fun q => Zc9 μ q.2) := by
  have z0 : Zc9 μ μ := Zc9.rf hU
  rw [p_X5_operand_b27_eq]
  refine pk_ite (fun _ => ?_) (fun _ => ?_)
  · exact pk_some z0
  · refine pk_gd (fun _ => ?_)
    exact pk_some z0
theorem x_X5_operand_b26 (a1 : Int32) (a2 : Int32) (μ : Mem)  (hU : Uc9 μ) : pk (p_X5_operand_b26 a1 a2 μ) (fun q => Zc9 μ q.2) := by
  have z0 : Zc9 μ μ := Zc9.rf hU
  rw [p_X5_operand_b26_eq]
  exact pk_mono (x_X5_operand_b27 a1 a2 (0 : Int32) μ  z0.1) (fun _ hq => z0.tr hq)
theorem x_X5_operand (a1 : Int32) (a2 : Int32) (μ : Mem)  (hU : Uc9 μ) : pk (p_X5_operand a1 a2 μ) (fun q => Zc9 μ q.2) := by
  have z0 : Zc9 μ μ := Zc9.rf hU
  rw [p_X5_operand_eq]
  refine pk_ite (fun _ => ?_) (fun _ => ?_)
  · exact pk_mono (x_X5_operand_b26 a1 a2 μ  z0.1) (fun _ hq => z0.tr hq)
  · refine pk_ite (fun _ => ?_) (fun _ => ?_)
    · exact pk_mono (x_X5_operand_b26 a1 a2 μ  z0.1) (fun _ hq => z0.tr hq)
    · refine pk_ite (fun _ => ?_) (fun _ => ?_)
      · exact pk_mono (x_X5_operand_b26 a1 a2 μ  z0.1) (fun _ hq => z0.tr hq)
      · refine pk_ite (fun _ => ?_) (fun _ => ?_)
        · exact pk_mono (x_X5_operand_b26 a1 a2 μ  z0.1) (fun _ hq => z0.tr hq)
        · exact pk_mono (x_X5_operand_b27 a1 a2 (1 : Int32) μ  z0.1) (fun _ hq => z0.tr hq)
theorem x_X6_operand (a1 : Int32) (a2 : Int32) (μ : Mem)  (hU : Uc9 μ) : pk (p_X6_operand a1 a2 μ) (fun q => Zc9 μ q.2) := by
  have z0 : Zc9 μ μ := Zc9.rf hU
  rw [p_X6_operand_eq]
  refine pk_bd (x_X5_operand a1 a2 μ  z0.1) (fun r2 μ1 ez1 => ?_)
  have z1 : Zc9 μ μ1 := z0.tr ez1
  refine pk_bd (x_X6_known r2 μ1  z1.1) (fun r4 μ3 ez2 => ?_)
  have z2 : Zc9 μ μ3 := z1.tr ez2
  exact pk_some z2
theorem x_X6_num (a1 : Int32) (a2 : Int32) (μ : Mem)  (hU : Uc9 μ) : pk (p_X6_num a1 a2 μ) (fun q => Zc9 μ q.2) := by
  have z0 : Zc9 μ μ := Zc9.rf hU
  rw [p_X6_num_eq]
  refine pk_bd (x_X6_operand a1 a2 μ  z0.1) (fun r2 μ1 ez1 => ?_)
  have z1 : Zc9 μ μ1 := z0.tr ez1
  refine pk_bd (x_X8_num r2 μ1  z1.1) (fun r4 μ3 ez2 => ?_)
  have z2 : Zc9 μ μ3 := z1.tr ez2
  exact pk_some z2
theorem x_X6_makePair (a1 : Int32) (μ : Mem)  (hU : Uc9 μ) : pk (p_X6_makePair a1 μ) (fun q => Zc9 μ q) := by
  have z0 : Zc9 μ μ := Zc9.rf hU
  rw [p_X6_makePair_eq]
  refine pk_bd (x_X6_operand a1 (0 : Int32) μ  z0.1) (fun r2 μ1 ez1 => ?_)
  have z1 : Zc9 μ μ1 := z0.tr ez1
  refine pk_bd (x_X6_operand a1 (1 : Int32) μ1  z1.1) (fun r4 μ3 ez2 => ?_)
  have z2 : Zc9 μ μ3 := z1.tr ez2
  refine pk_bd (x_X8_isTooHeavy r2 r4 μ3  z2.1) (fun r6 μ5 ez3 => ?_)
  have z3 : Zc9 μ μ5 := z2.tr ez3
  refine pk_ite (fun _ => ?_) (fun _ => ?_)
  · refine pk_bd (x_X8_pair r2 r4 μ5  z3.1) (fun r9 μ8 ez4 => ?_)
    have z4 : Zc9 μ μ8 := z3.tr ez4
    refine pk_bw (x_X6_goOn a1 r9 μ8  z4.1) (fun μ10 ez5 => ?_)
    have z5 : Zc9 μ μ10 := z4.tr ez5
    exact pk_some z5
  · refine pk_bvy (fun μ12 ez6 => ?_)
    have z6 : Zc9 μ μ12 := by rw [ez6]; exact z3.sF (pc_go (go_sel _))
    exact pk_some z6
theorem x_X6_call_b53 : ∀ (n : Nat) (a1 : Int32) (a2 : Int32) (a4 : Int32) (a5 : Int32) (a6 : Int32) (μ : Mem), Uc9 μ → pk (p_X6_call_b53  n a1 a2 a4 a5 a6 μ) (fun q => Zc9 μ q) := by
  intro n
  induction n with
  | zero => intro a1 a2 a4 a5 a6 μ  hU r e; rw [p_X6_call_b53_z] at e; cases e
  | succ n ih =>
    intro a1 a2 a4 a5 a6 μ  hU
    have z0 : Zc9 μ μ := Zc9.rf hU
    rw [p_X6_call_b53_s]
    refine pk_ite (fun _ => ?_) (fun _ => ?_)
    · refine pk_bvy (fun μ12 ez1 => ?_)
      have z1 : Zc9 μ μ12 := by rw [ez1]; exact z0.sF (by unfold Pc9; omega)
      refine pk_bd (x_X5_ofVariant a2 (3 : Int32) μ12  z1.1) (fun r14 μ13 ez2 => ?_)
      have z2 : Zc9 μ μ13 := z1.tr ez2
      refine pk_bw (x_X6_enter r14 μ13  z2.1) (fun μ15 ez3 => ?_)
      have z3 : Zc9 μ μ15 := z2.tr ez3
      exact pk_some z3
    · refine pk_bd (x_X6_operand a1 ((2 : Int32) + a6) μ  z0.1) (fun r18 μ17 ez4 => ?_)
      have z4 : Zc9 μ μ17 := z0.tr ez4
      refine pk_bw (x_X6_setRegister a4 a6 r18 μ17  z4.1) (fun μ19 ez5 => ?_)
      have z5 : Zc9 μ μ19 := z4.tr ez5
      refine pk_bvy (fun v21 _ => ?_)
      exact pk_mono (ih a1 a2 a4 a5 v21 μ19  z5.1) (fun _ hq => z5.tr hq)
theorem x_X6_call (a1 : Int32) (a2 : Int32) (μ : Mem)  (hU : Uc9 μ) : pk (p_X6_call a1 a2 μ) (fun q => Zc9 μ q) := by
  have z0 : Zc9 μ μ := Zc9.rf hU
  rw [p_X6_call_eq]
  refine pk_bd (x_X5_cell a1 (6 : Int32) μ  z0.1) (fun r2 μ1 ez1 => ?_)
  have z1 : Zc9 μ μ1 := z0.tr ez1
  refine pk_bd (x_X1_beginCall (sel 0 (μ1.2.2 151 8)) μ1 (go_sel _) z1.1) (fun r4 μ3 ez2 => ?_)
  have z2 : Zc9 μ μ3 := z1.tr ez2
  refine pk_ite (fun _ => ?_) (fun _ => ?_)
  · exact pk_some z2
  · refine pk_bd (x_X5_ofVariant r2 (2 : Int32) μ3  z2.1) (fun r7 μ6 ez3 => ?_)
    have z3 : Zc9 μ μ6 := z2.tr ez3
    refine pk_bvy (fun v8 _ => ?_)
    refine pk_bd (x_X5_cell a1 (7 : Int32) μ6  z3.1) (fun r10 μ9 ez4 => ?_)
    have z4 : Zc9 μ μ9 := z3.tr ez4
    exact pk_mono (x_X6_call_b53 FUEL a1 a2 v8 r10 (0 : Int32) μ9  z4.1) (fun _ hq => z4.tr hq)
theorem x_X6_step (a1 : Int32) (μ : Mem)  (hU : Uc9 μ) : pk (p_X6_step a1 μ) (fun q => Zc9 μ q) := by
  have z0 : Zc9 μ μ := Zc9.rf hU
  rw [p_X6_step_eq]
  refine pk_bd (x_X5_cell a1 (2 : Int32) μ  z0.1) (fun r2 μ1 ez1 => ?_)
  have z1 : Zc9 μ μ1 := z0.tr ez1
  refine pk_bd (x_X5_cell a1 (0 : Int32) μ1  z1.1) (fun r4 μ3 ez2 => ?_)
  have z2 : Zc9 μ μ3 := z1.tr ez2
  refine pk_ite (fun _ => ?_) (fun _ => ?_)
  · refine pk_bd (x_X6_num a1 (0 : Int32) μ3  z2.1) (fun r8 μ7 ez3 => ?_)
    have z3 : Zc9 μ μ7 := z2.tr ez3
    refine pk_bd (x_X6_num a1 (1 : Int32) μ7  z3.1) (fun r10 μ9 ez4 => ?_)
    have z4 : Zc9 μ μ9 := z3.tr ez4
    refine pk_bw (x_X6_goOn a1 (s_X0_apply r2 r8 r10) μ9  z4.1) (fun μ11 ez5 => ?_)
    have z5 : Zc9 μ μ11 := z4.tr ez5
    exact pk_some z5
  · refine pk_ite (fun _ => ?_) (fun _ => ?_)
    · refine pk_bd (x_X6_num a1 (0 : Int32) μ3  z2.1) (fun r15 μ14 ez6 => ?_)
      have z6 : Zc9 μ μ14 := z2.tr ez6
      refine pk_bw (x_X6_goOn a1 (s_X0_turn (36 : Int32) r15) μ14  z6.1) (fun μ16 ez7 => ?_)
      have z7 : Zc9 μ μ16 := z6.tr ez7
      exact pk_some z7
    · refine pk_ite (fun _ => ?_) (fun _ => ?_)
      · refine pk_bd (x_X6_num a1 (0 : Int32) μ3  z2.1) (fun r20 μ19 ez8 => ?_)
        have z8 : Zc9 μ μ19 := z2.tr ez8
        refine pk_bw (x_X6_goOn a1 (s_X0_turn (94 : Int32) r20) μ19  z8.1) (fun μ21 ez9 => ?_)
        have z9 : Zc9 μ μ21 := z8.tr ez9
        exact pk_some z9
      · refine pk_ite (fun _ => ?_) (fun _ => ?_)
        · refine pk_bd (x_X6_num a1 (0 : Int32) μ3  z2.1) (fun r25 μ24 ez10 => ?_)
          have z10 : Zc9 μ μ24 := z2.tr ez10
          refine pk_bw (x_X6_goOn a1 (s_X0_turn (35 : Int32) r25) μ24  z10.1) (fun μ26 ez11 => ?_)
          have z11 : Zc9 μ μ26 := z10.tr ez11
          exact pk_some z11
        · refine pk_ite (fun _ => ?_) (fun _ => ?_)
          · refine pk_bd (x_X6_operand a1 (0 : Int32) μ3  z2.1) (fun r30 μ29 ez12 => ?_)
            have z12 : Zc9 μ μ29 := z2.tr ez12
            refine pk_bd (x_X8_firstOf r30 μ29  z12.1) (fun r32 μ31 ez13 => ?_)
            have z13 : Zc9 μ μ31 := z12.tr ez13
            refine pk_bw (x_X6_goOn a1 r32 μ31  z13.1) (fun μ33 ez14 => ?_)
            have z14 : Zc9 μ μ33 := z13.tr ez14
            exact pk_some z14
          · refine pk_ite (fun _ => ?_) (fun _ => ?_)
            · refine pk_bd (x_X6_operand a1 (0 : Int32) μ3  z2.1) (fun r37 μ36 ez15 => ?_)
              have z15 : Zc9 μ μ36 := z2.tr ez15
              refine pk_bd (x_X8_secondOf r37 μ36  z15.1) (fun r39 μ38 ez16 => ?_)
              have z16 : Zc9 μ μ38 := z15.tr ez16
              refine pk_bw (x_X6_goOn a1 r39 μ38  z16.1) (fun μ40 ez17 => ?_)
              have z17 : Zc9 μ μ40 := z16.tr ez17
              exact pk_some z17
            · refine pk_ite (fun _ => ?_) (fun _ => ?_)
              · refine pk_bd (x_X6_num a1 (0 : Int32) μ3  z2.1) (fun r44 μ43 ez18 => ?_)
                have z18 : Zc9 μ μ43 := z2.tr ez18
                refine pk_ite (fun _ => ?_) (fun _ => ?_)
                · refine pk_bd (x_X5_cell a1 (4 : Int32) μ43  z18.1) (fun r47 μ46 ez19 => ?_)
                  have z19 : Zc9 μ μ46 := z18.tr ez19
                  refine pk_bw (x_X6_enter r47 μ46  z19.1) (fun μ48 ez20 => ?_)
                  have z20 : Zc9 μ μ48 := z19.tr ez20
                  exact pk_some z20
                · refine pk_bd (x_X5_cell a1 (3 : Int32) μ43  z18.1) (fun r51 μ50 ez21 => ?_)
                  have z21 : Zc9 μ μ50 := z18.tr ez21
                  refine pk_bw (x_X6_enter r51 μ50  z21.1) (fun μ52 ez22 => ?_)
                  have z22 : Zc9 μ μ52 := z21.tr ez22
                  exact pk_some z22
              · refine pk_ite (fun _ => ?_) (fun _ => ?_)
                · refine pk_bd (x_X6_num a1 (0 : Int32) μ3  z2.1) (fun r56 μ55 ez23 => ?_)
                  have z23 : Zc9 μ μ55 := z2.tr ez23
                  refine pk_bw (x_X1_writeOut (sel 0 (μ3.2.2 151 8)) r56 μ55 (go_sel _) z23.1) (fun μ57 ez24 => ?_)
                  have z24 : Zc9 μ μ57 := z23.tr ez24
                  refine pk_bw (x_X6_goOn a1 (0 : Int64) μ57  z24.1) (fun μ59 ez25 => ?_)
                  have z25 : Zc9 μ μ59 := z24.tr ez25
                  exact pk_some z25
                · refine pk_ite (fun _ => ?_) (fun _ => ?_)
                  · refine pk_bd (x_X6_num a1 (0 : Int32) μ3  z2.1) (fun r63 μ62 ez26 => ?_)
                    have z26 : Zc9 μ μ62 := z2.tr ez26
                    refine pk_bd (x_X1_put (sel 0 (μ3.2.2 151 8)) r2 (s_X0_stored r2 r63) μ62 (go_sel _) z26.1) (fun r65 μ64 ez27 => ?_)
                    have z27 : Zc9 μ μ64 := z26.tr ez27
                    refine pk_bw (x_X6_goOn a1 r65 μ64  z27.1) (fun μ66 ez28 => ?_)
                    have z28 : Zc9 μ μ66 := z27.tr ez28
                    exact pk_some z28
                  · refine pk_ite (fun _ => ?_) (fun _ => ?_)
                    · refine pk_bd (x_X1_get (sel 0 (μ3.2.2 151 8)) r2 μ3  z2.1) (fun r70 μ69 ez29 => ?_)
                      have z29 : Zc9 μ μ69 := z2.tr ez29
                      refine pk_bw (x_X6_goOn a1 r70 μ69  z29.1) (fun μ71 ez30 => ?_)
                      have z30 : Zc9 μ μ71 := z29.tr ez30
                      exact pk_some z30
                    · refine pk_ite (fun _ => ?_) (fun _ => ?_)
                      · refine pk_bw (x_X6_makePair a1 μ3  z2.1) (fun μ74 ez31 => ?_)
                        have z31 : Zc9 μ μ74 := z2.tr ez31
                        exact pk_some z31
                      · refine pk_ite (fun _ => ?_) (fun _ => ?_)
                        · refine pk_bw (x_X6_call a1 r2 μ3  z2.1) (fun μ77 ez32 => ?_)
                          have z32 : Zc9 μ μ77 := z2.tr ez32
                          exact pk_some z32
                        · refine pk_bvy (fun μ79 ez33 => ?_)
                          have z33 : Zc9 μ μ79 := by rw [ez33]; exact z2.sF (pc_go (go_sel _))
                          exact pk_some z33
theorem x_X6_runResidue_b166 (K109 : Int32 → Mem → Option Mem) (hK109 : ∀ (y0 : Int32) (y1 : Mem), Uc9 y1 → pk (K109 y0 y1) (fun q => Zc9 y1 q)) (a5 : Int32) (μ : Mem)  (hU : Uc9 μ) : pk (p_X6_runResidue_b166 K109 a5 μ) (fun q => Zc9 μ q) := by
  have z0 : Zc9 μ μ := Zc9.rf hU
  rw [p_X6_runResidue_b166_eq]
  refine pk_bvy (fun v27 _ => ?_)
  exact pk_mono (hK109 v27 μ  z0.1) (fun _ hq => z0.tr hq)
theorem x_X6_runResidue_b109 : ∀ (n : Nat) (a5 : Int32) (μ : Mem), Uc9 μ → pk (p_X6_runResidue_b109  n a5 μ) (fun q => Zc9 μ q) := by
  intro n
  induction n with
  | zero => intro a5 μ  hU r e; rw [p_X6_runResidue_b109_z] at e; cases e
  | succ n ih =>
    intro a5 μ  hU
    have z0 : Zc9 μ μ := Zc9.rf hU
    rw [p_X6_runResidue_b109_s]
    refine pk_ite (fun _ => ?_) (fun _ => ?_)
    · exact pk_some z0
    · refine pk_ite (fun _ => ?_) (fun _ => ?_)
      · exact pk_some z0
      · refine pk_bd (x_X1_isRunning (sel 0 (μ.2.2 151 8)) μ  z0.1) (fun r21 μ20 ez1 => ?_)
        have z1 : Zc9 μ μ20 := z0.tr ez1
        refine pk_ite (fun _ => ?_) (fun _ => ?_)
        · exact pk_some z1
        · refine pk_gd (fun _ => ?_)
          refine pk_bvy (fun v23 _ => ?_)
          refine pk_ite (fun _ => ?_) (fun _ => ?_)
          · refine pk_bw (x_X6_endBlock μ20  z1.1) (fun μ28 ez2 => ?_)
            have z2 : Zc9 μ μ28 := z1.tr ez2
            exact pk_mono (x_X6_runResidue_b166 (p_X6_runResidue_b109  n) ih a5 μ28  z2.1) (fun _ hq => z2.tr hq)
          · refine pk_bw (x_X6_step v23 μ20  z1.1) (fun μ25 ez3 => ?_)
            have z3 : Zc9 μ μ25 := z1.tr ez3
            exact pk_mono (x_X6_runResidue_b166 (p_X6_runResidue_b109  n) ih a5 μ25  z3.1) (fun _ hq => z3.tr hq)
theorem x_X6_runResidue_b63 : ∀ (n : Nat) (a4 : Int32) (a5 : Int32) (μ : Mem), Uc9 μ → pk (p_X6_runResidue_b63  n a4 a5 μ) (fun q => Zc9 μ q) := by
  intro n
  induction n with
  | zero => intro a4 a5 μ  hU r e; rw [p_X6_runResidue_b63_z] at e; cases e
  | succ n ih =>
    intro a4 a5 μ  hU
    have z0 : Zc9 μ μ := Zc9.rf hU
    rw [p_X6_runResidue_b63_s]
    refine pk_ite (fun _ => ?_) (fun _ => ?_)
    · refine pk_bd (x_X5_ofVariant (0 : Int32) (3 : Int32) μ  z0.1) (fun r15 μ14 ez1 => ?_)
      have z1 : Zc9 μ μ14 := z0.tr ez1
      refine pk_bw (x_X6_enter r15 μ14  z1.1) (fun μ16 ez2 => ?_)
      have z2 : Zc9 μ μ16 := z1.tr ez2
      exact pk_mono (x_X6_runResidue_b109 FUEL (0 : Int32) μ16  z2.1) (fun _ hq => z2.tr hq)
    · refine pk_gd (fun _ => ?_)
      refine pk_bw (x_X6_setRegister (μ.1 151 6) a5 (μ.2.1 153 a5.toNatClampNeg) μ  z0.1) (fun μ30 ez3 => ?_)
      have z3 : Zc9 μ μ30 := z0.tr ez3
      refine pk_bvy (fun v32 _ => ?_)
      exact pk_mono (ih a4 v32 μ30  z3.1) (fun _ hq => z3.tr hq)
theorem x_X6_runResidue (a2 : Nat) (a3 : Nat) (μ : Mem)  (hU : Uc9 μ) : pk (p_X6_runResidue a2 a3 μ) (fun q => Zc9 μ q) := by
  have z0 : Zc9 μ μ := Zc9.rf hU
  rw [p_X6_runResidue_eq]
  refine pk_bvy (fun μ2 ez1 => ?_)
  have z1 : Zc9 μ μ2 := by rw [ez1]; exact z0.sR
  refine pk_bw (x_X1_clear (sel 0 (μ2.2.2 151 8)) μ2 (go_sel _) z1.1) (fun μ3 ez2 => ?_)
  have z2 : Zc9 μ μ3 := z1.tr ez2
  refine pk_bw (x_X8_clear μ3  z2.1) (fun μ5 ez3 => ?_)
  have z3 : Zc9 μ μ5 := z2.tr ez3
  refine pk_bvy (fun μ7 ez4 => ?_)
  have z4 : Zc9 μ μ7 := by rw [ez4]; exact z3.sF (by unfold Pc9; omega)
  refine pk_bvy (fun μ8 ez5 => ?_)
  have z5 : Zc9 μ μ8 := by rw [ez5]; exact z4.sF (by unfold Pc9; omega)
  refine pk_bd (x_X8_build a2 153 153 μ8 (by unfold Gcx9; omega) z5.1) (fun r10 μ9 ez6 => ?_)
  have z6 : Zc9 μ μ9 := z5.tr ez6
  refine pk_bd (x_X1_beginCall (sel 0 (μ9.2.2 151 8)) μ9 (go_sel _) z6.1) (fun r12 μ11 ez7 => ?_)
  have z7 : Zc9 μ μ11 := z6.tr ez7
  exact pk_mono (x_X6_runResidue_b63 FUEL r10 (0 : Int32) μ11  z7.1) (fun _ hq => z7.tr hq)
theorem x_X1_about (a0 : Nat) (a1 : Int32) (μ : Mem)  (hU : Uc9 μ) : pk (p_X1_about a0 a1 μ) (fun q => Zc9 μ q.2) := by
  have z0 : Zc9 μ μ := Zc9.rf hU
  rw [p_X1_about_eq]
  refine pk_ite (fun _ => ?_) (fun _ => ?_)
  · exact pk_some z0
  · refine pk_ite (fun _ => ?_) (fun _ => ?_)
    · exact pk_some z0
    · refine pk_ite (fun _ => ?_) (fun _ => ?_)
      · exact pk_some z0
      · refine pk_ite (fun _ => ?_) (fun _ => ?_)
        · exact pk_some z0
        · refine pk_ite (fun _ => ?_) (fun _ => ?_)
          · exact pk_some z0
          · refine pk_ite (fun _ => ?_) (fun _ => ?_)
            · exact pk_some z0
            · exact pk_some z0
theorem x_X11_run_b69 (a2 : Int32) (μ : Mem)  (hU : Uc9 μ) : pk (p_X11_run_b69 a2 μ) (fun q => Zc9 μ q.2) := by
  have z0 : Zc9 μ μ := Zc9.rf hU
  rw [p_X11_run_b69_eq]
  refine pk_ite (fun _ => ?_) (fun _ => ?_)
  · refine pk_bw (x_X2_copyFrom 156 122 μ (by unfold Gcx9; omega) z0.1) (fun μ12 ez1 => ?_)
    have z1 : Zc9 μ μ12 := z0.tr ez1
    refine pk_bd (x_X1_about 119 a2 μ12  z1.1) (fun r15 μ14 ez2 => ?_)
    have z2 : Zc9 μ μ14 := z1.tr ez2
    exact pk_some z2
  · refine pk_bd (x_X1_about 119 a2 μ  z0.1) (fun r11 μ10 ez3 => ?_)
    have z3 : Zc9 μ μ10 := z0.tr ez3
    exact pk_some z3
theorem x_X11_run (a1 : Int32) (a2 : Int32) (μ : Mem)  (hU : Uc9 μ) : pk (p_X11_run a1 a2 μ) (fun q => Zc9 μ q.2) := by
  have z0 : Zc9 μ μ := Zc9.rf hU
  rw [p_X11_run_eq]
  refine pk_ite (fun _ => ?_) (fun _ => ?_)
  · exact pk_some z0
  · refine pk_ite (fun _ => ?_) (fun _ => ?_)
    · exact pk_some z0
    · refine pk_bd (x_X11_canRun a1 μ  z0.1) (fun r4 μ3 ez1 => ?_)
      have z1 : Zc9 μ μ3 := z0.tr ez1
      refine pk_ite (fun _ => ?_) (fun _ => ?_)
      · exact pk_some z1
      · refine pk_ite (fun _ => ?_) (fun _ => ?_)
        · refine pk_bw (x_X7_runTask (sel 2 (μ3.2.2 0 4)) (sel 1 (μ3.2.2 0 6)) (sel 1 (μ3.2.2 0 8)) 119 μ3  z1.1) (fun μ16 ez2 => ?_)
          have z2 : Zc9 μ μ16 := z1.tr ez2
          exact pk_mono (x_X11_run_b69 a2 μ16  z2.1) (fun _ hq => z2.tr hq)
        · refine pk_bw (x_X6_runResidue (sel 1 (μ3.2.2 0 8)) 119 μ3  z1.1) (fun μ7 ez3 => ?_)
          have z3 : Zc9 μ μ7 := z1.tr ez3
          exact pk_mono (x_X11_run_b69 a2 μ7  z3.1) (fun _ hq => z3.tr hq)
theorem x_X1_keptCount (a0 : Nat) (μ : Mem)  (hU : Uc9 μ) : pk (p_X1_keptCount a0 μ) (fun q => Zc9 μ q.2) := by
  have z0 : Zc9 μ μ := Zc9.rf hU
  rw [p_X1_keptCount_eq]
  exact pk_some z0
theorem x_X1_aboutOutput (a0 : Nat) (a1 : Int32) (a2 : Int32) (μ : Mem)  (hU : Uc9 μ) : pk (p_X1_aboutOutput a0 a1 a2 μ) (fun q => Zc9 μ q.2) := by
  have z0 : Zc9 μ μ := Zc9.rf hU
  rw [p_X1_aboutOutput_eq]
  refine pk_ite (fun _ => ?_) (fun _ => ?_)
  · exact pk_some z0
  · refine pk_bd (x_X1_keptCount a0 μ  z0.1) (fun r3 μ2 ez1 => ?_)
    have z1 : Zc9 μ μ2 := z0.tr ez1
    refine pk_ite (fun _ => ?_) (fun _ => ?_)
    · exact pk_some z1
    · refine pk_ite (fun _ => ?_) (fun _ => ?_)
      · exact pk_some z1
      · refine pk_ite (fun _ => ?_) (fun _ => ?_)
        · refine pk_ite (fun _ => ?_) (fun _ => ?_)
          · refine pk_gd (fun _ => ?_)
            exact pk_some z1
          · refine pk_gd (fun _ => ?_)
            exact pk_some z1
        · exact pk_some z1
theorem x_X11_output (a1 : Int32) (a2 : Int32) (μ : Mem)  (hU : Uc9 μ) : pk (p_X11_output a1 a2 μ) (fun q => Zc9 μ q.2) := by
  have z0 : Zc9 μ μ := Zc9.rf hU
  rw [p_X11_output_eq]
  refine pk_bd (x_X1_aboutOutput 119 a1 a2 μ  z0.1) (fun r2 μ1 ez1 => ?_)
  have z1 : Zc9 μ μ1 := z0.tr ez1
  exact pk_some z1
theorem x_X11_place (a1 : Int32) (μ : Mem)  (hU : Uc9 μ) : pk (p_X11_place a1 μ) (fun q => Zc9 μ q.2) := by
  have z0 : Zc9 μ μ := Zc9.rf hU
  rw [p_X11_place_eq]
  refine pk_bd (x_X1_placeBits 119 a1 μ  z0.1) (fun r2 μ1 ez1 => ?_)
  have z1 : Zc9 μ μ1 := z0.tr ez1
  exact pk_some z1
theorem x_X9_add (a1 : Int32) (μ : Mem)  (hU : Uc9 μ) : pk (p_X9_add a1 μ) (fun q => Zc9 μ q) := by
  have z0 : Zc9 μ μ := Zc9.rf hU
  rw [p_X9_add_eq]
  refine pk_ite (fun _ => ?_) (fun _ => ?_)
  · exact pk_some z0
  · refine pk_gd (fun _ => ?_)
    refine pk_bvy (fun μ2 ez1 => ?_)
    have z1 : Zc9 μ μ2 := by rw [ez1]; exact z0.sF (by unfold Pc9; omega)
    refine pk_bvy (fun μ3 ez2 => ?_)
    have z2 : Zc9 μ μ3 := by rw [ez2]; exact z1.sF (by unfold Pc9; omega)
    exact pk_some z2
theorem x_X9_addInt_b59 : ∀ (n : Nat) (a2 : Int64) (a4 : Int64) (a6 : Int32) (μ : Mem), Uc9 μ → pk (p_X9_addInt_b59  n a2 a4 a6 μ) (fun q => Zc9 μ q) := by
  intro n
  induction n with
  | zero => intro a2 a4 a6 μ  hU r e; rw [p_X9_addInt_b59_z] at e; cases e
  | succ n ih =>
    intro a2 a4 a6 μ  hU
    have z0 : Zc9 μ μ := Zc9.rf hU
    rw [p_X9_addInt_b59_s]
    refine pk_ite (fun _ => ?_) (fun _ => ?_)
    · exact pk_some z0
    · refine pk_ite (fun _ => ?_) (fun _ => ?_)
      · exact pk_some z0
      · refine pk_gd (fun _ => ?_)
        refine pk_bw (x_X9_add ((48 : Int32) + (((a2 / a4) - (a2 / a4) / (10 : Int64) * (10 : Int64)).toInt32)) μ  z0.1) (fun μ7 ez1 => ?_)
        have z1 : Zc9 μ μ7 := z0.tr ez1
        refine pk_bvy (fun v9 _ => ?_)
        refine pk_bvy (fun v10 _ => ?_)
        exact pk_mono (ih a2 v9 v10 μ7  z1.1) (fun _ hq => z1.tr hq)
theorem x_X9_addInt_b56 (a2 : Int64) (a4 : Int64) (μ : Mem)  (hU : Uc9 μ) : pk (p_X9_addInt_b56 a2 a4 μ) (fun q => Zc9 μ q) := by
  have z0 : Zc9 μ μ := Zc9.rf hU
  rw [p_X9_addInt_b56_eq]
  exact pk_mono (x_X9_addInt_b59 FUEL a2 a4 (0 : Int32) μ  z0.1) (fun _ hq => z0.tr hq)
theorem x_X9_addInt_b24 : ∀ (n : Nat) (a2 : Int64) (a4 : Int64) (a6 : Int32) (μ : Mem), Uc9 μ → pk (p_X9_addInt_b24  n a2 a4 a6 μ) (fun q => Zc9 μ q) := by
  intro n
  induction n with
  | zero => intro a2 a4 a6 μ  hU r e; rw [p_X9_addInt_b24_z] at e; cases e
  | succ n ih =>
    intro a2 a4 a6 μ  hU
    have z0 : Zc9 μ μ := Zc9.rf hU
    rw [p_X9_addInt_b24_s]
    refine pk_ite (fun _ => ?_) (fun _ => ?_)
    · exact pk_mono (x_X9_addInt_b56 a2 a4 μ  z0.1) (fun _ hq => z0.tr hq)
    · refine pk_ite (fun _ => ?_) (fun _ => ?_)
      · exact pk_mono (x_X9_addInt_b56 a2 a4 μ  z0.1) (fun _ hq => z0.tr hq)
      · refine pk_bvy (fun v12 _ => ?_)
        refine pk_bvy (fun v13 _ => ?_)
        exact pk_mono (ih a2 v12 v13 μ  z0.1) (fun _ hq => z0.tr hq)
theorem x_X9_addInt_b18 (a2 : Int64) (μ : Mem)  (hU : Uc9 μ) : pk (p_X9_addInt_b18 a2 μ) (fun q => Zc9 μ q) := by
  have z0 : Zc9 μ μ := Zc9.rf hU
  rw [p_X9_addInt_b18_eq]
  exact pk_mono (x_X9_addInt_b24 FUEL a2 (1 : Int64) (0 : Int32) μ  z0.1) (fun _ hq => z0.tr hq)
theorem x_X9_addInt (a1 : Int32) (μ : Mem)  (hU : Uc9 μ) : pk (p_X9_addInt a1 μ) (fun q => Zc9 μ q) := by
  have z0 : Zc9 μ μ := Zc9.rf hU
  rw [p_X9_addInt_eq]
  refine pk_bvy (fun v1 _ => ?_)
  refine pk_ite (fun _ => ?_) (fun _ => ?_)
  · exact pk_mono (x_X9_addInt_b18 v1 μ  z0.1) (fun _ hq => z0.tr hq)
  · refine pk_bw (x_X9_add (45 : Int32) μ  z0.1) (fun μ14 ez1 => ?_)
    have z1 : Zc9 μ μ14 := z0.tr ez1
    refine pk_bvy (fun v16 _ => ?_)
    exact pk_mono (x_X9_addInt_b18 v16 μ14  z1.1) (fun _ hq => z1.tr hq)
theorem x_X9_addSymbol (a1 : Int64) (μ : Mem)  (hU : Uc9 μ) : pk (p_X9_addSymbol a1 μ) (fun q => Zc9 μ q) := by
  have z0 : Zc9 μ μ := Zc9.rf hU
  rw [p_X9_addSymbol_eq]
  refine pk_bvy (fun v1 _ => ?_)
  refine pk_ite (fun _ => ?_) (fun _ => ?_)
  · refine pk_bw (x_X9_add (42 : Int32) μ  z0.1) (fun μ15 ez1 => ?_)
    have z1 : Zc9 μ μ15 := z0.tr ez1
    exact pk_some z1
  · refine pk_ite (fun _ => ?_) (fun _ => ?_)
    · refine pk_bw (x_X9_add (102 : Int32) μ  z0.1) (fun μ11 ez2 => ?_)
      have z2 : Zc9 μ μ11 := z0.tr ez2
      refine pk_bw (x_X9_addInt (s_X0_bits a1) μ11  z2.1) (fun μ13 ez3 => ?_)
      have z3 : Zc9 μ μ13 := z2.tr ez3
      exact pk_some z3
    · refine pk_ite (fun _ => ?_) (fun _ => ?_)
      · refine pk_bw (x_X9_add (114 : Int32) μ  z0.1) (fun μ7 ez4 => ?_)
        have z4 : Zc9 μ μ7 := z0.tr ez4
        refine pk_bw (x_X9_addInt (s_X0_bits a1) μ7  z4.1) (fun μ9 ez5 => ?_)
        have z5 : Zc9 μ μ9 := z4.tr ez5
        exact pk_some z5
      · refine pk_bw (x_X9_addInt (s_X0_bits a1) μ  z0.1) (fun μ5 ez6 => ?_)
        have z6 : Zc9 μ μ5 := z0.tr ez6
        exact pk_some z6
theorem x_X9_addPart (RE : Nat → Int32 → Int32 → Mem → Option (Int32 × Mem)) (hRE : ∀ (y0 : Nat) (y1 : Int32) (y2 : Int32) (y3 : Mem), Uc9 y3 → pk (RE y0 y1 y2 y3) (fun q => Zc9 y3 q.2)) (a1 : Nat) (a2 : Int32) (a3 : Int32) (μ : Mem)  (hU : Uc9 μ) : pk (p_X9_addPart RE a1 a2 a3 μ) (fun q => Zc9 μ q.2) := by
  have z0 : Zc9 μ μ := Zc9.rf hU
  rw [p_X9_addPart_eq]
  refine pk_ite (fun _ => ?_) (fun _ => ?_)
  · exact pk_some z0
  · refine pk_ite (fun _ => ?_) (fun _ => ?_)
    · exact pk_some z0
    · refine pk_ite (fun _ => ?_) (fun _ => ?_)
      · refine pk_gd (fun _ => ?_)
        refine pk_ite (fun _ => ?_) (fun _ => ?_)
        · refine pk_bw (x_X9_add (91 : Int32) μ  z0.1) (fun μ5 ez1 => ?_)
          have z1 : Zc9 μ μ5 := z0.tr ez1
          refine pk_bd (hRE a1 (a2 + (1 : Int32)) (a3 + (1 : Int32)) μ5  z1.1) (fun r8 μ7 ez2 => ?_)
          have z2 : Zc9 μ μ7 := z1.tr ez2
          refine pk_bw (x_X9_add (44 : Int32) μ7  z2.1) (fun μ9 ez3 => ?_)
          have z3 : Zc9 μ μ9 := z2.tr ez3
          refine pk_bd (hRE a1 r8 (a3 + (1 : Int32)) μ9  z3.1) (fun r12 μ11 ez4 => ?_)
          have z4 : Zc9 μ μ11 := z3.tr ez4
          refine pk_bw (x_X9_add (93 : Int32) μ11  z4.1) (fun μ13 ez5 => ?_)
          have z5 : Zc9 μ μ13 := z4.tr ez5
          exact pk_some z5
        · refine pk_gd (fun _ => ?_)
          refine pk_bw (x_X9_addSymbol (μ.2.1 (a1 + 1) a2.toNatClampNeg) μ  z0.1) (fun μ15 ez6 => ?_)
          have z6 : Zc9 μ μ15 := z0.tr ez6
          exact pk_some z6
      · exact pk_some z0
theorem xr_X9_addPart : ∀ (n : Nat) (a1 : Nat) (a2 : Int32) (a3 : Int32) (μ : Mem), Uc9 μ → pk (pr_X9_addPart n a1 a2 a3 μ) (fun q => Zc9 μ q.2) := by
  intro n
  induction n with
  | zero => intro a1 a2 a3 μ  hU r e; rw [pr_X9_addPart_z] at e; cases e
  | succ n ih =>
    intro a1 a2 a3 μ  hU
    rw [pr_X9_addPart_s]
    exact x_X9_addPart _ ih a1 a2 a3 μ  hU
theorem x_X9_writeValue (a1 : Nat) (μ : Mem)  (hU : Uc9 μ) : pk (p_X9_writeValue a1 μ) (fun q => Zc9 μ q.2) := by
  have z0 : Zc9 μ μ := Zc9.rf hU
  rw [p_X9_writeValue_eq]
  refine pk_bvy (fun μ1 ez1 => ?_)
  have z1 : Zc9 μ μ1 := by rw [ez1]; exact z0.sF (by unfold Pc9; omega)
  refine pk_bd (xr_X9_addPart 50 a1 (0 : Int32) (0 : Int32) μ1  z1.1) (fun r3 μ2 ez2 => ?_)
  have z2 : Zc9 μ μ2 := z1.tr ez2
  exact pk_some z2
theorem x_X11_value (μ : Mem)  (hU : Uc9 μ) : pk (p_X11_value μ) (fun q => Zc9 μ q.2) := by
  have z0 : Zc9 μ μ := Zc9.rf hU
  rw [p_X11_value_eq]
  refine pk_ite (fun _ => ?_) (fun _ => ?_)
  · exact pk_some z0
  · refine pk_bd (x_X9_writeValue 156 μ  z0.1) (fun r3 μ2 ez1 => ?_)
    have z1 : Zc9 μ μ2 := z0.tr ez1
    exact pk_some z1
theorem x_X9_addPatterns_b40 (K22 : Nat → Int32 → Mem → Option Mem) (hK22 : ∀ (y0 : Nat) (y1 : Int32) (y2 : Mem), Uc9 y2 → pk (K22 y0 y1 y2) (fun q => Zc9 y2 q)) (a1 : Nat) (a2 : Int32) (μ : Mem)  (hU : Uc9 μ) : pk (p_X9_addPatterns_b40 K22 a1 a2 μ) (fun q => Zc9 μ q) := by
  have z0 : Zc9 μ μ := Zc9.rf hU
  rw [p_X9_addPatterns_b40_eq]
  refine pk_bd (xr_X9_addPart 50 a1 a2 (0 : Int32) μ  z0.1) (fun r10 μ9 ez1 => ?_)
  have z1 : Zc9 μ μ9 := z0.tr ez1
  refine pk_bvy (fun v11 _ => ?_)
  exact pk_mono (hK22 a1 v11 μ9  z1.1) (fun _ hq => z1.tr hq)
theorem x_X9_addPatterns_b22 : ∀ (n : Nat) (a1 : Nat) (a2 : Int32) (μ : Mem), Uc9 μ → pk (p_X9_addPatterns_b22  n a1 a2 μ) (fun q => Zc9 μ q) := by
  intro n
  induction n with
  | zero => intro a1 a2 μ  hU r e; rw [p_X9_addPatterns_b22_z] at e; cases e
  | succ n ih =>
    intro a1 a2 μ  hU
    have z0 : Zc9 μ μ := Zc9.rf hU
    rw [p_X9_addPatterns_b22_s]
    refine pk_ite (fun _ => ?_) (fun _ => ?_)
    · refine pk_bw (x_X9_add (41 : Int32) μ  z0.1) (fun μ6 ez1 => ?_)
      have z1 : Zc9 μ μ6 := z0.tr ez1
      exact pk_some z1
    · refine pk_ite (fun _ => ?_) (fun _ => ?_)
      · exact pk_mono (x_X9_addPatterns_b40 (p_X9_addPatterns_b22  n) ih a1 a2 μ  z0.1) (fun _ hq => z0.tr hq)
      · refine pk_bw (x_X9_add (44 : Int32) μ  z0.1) (fun μ12 ez2 => ?_)
        have z2 : Zc9 μ μ12 := z0.tr ez2
        exact pk_mono (x_X9_addPatterns_b40 (p_X9_addPatterns_b22  n) ih a1 a2 μ12  z2.1) (fun _ hq => z2.tr hq)
theorem x_X9_addPatterns (a1 : Nat) (μ : Mem)  (hU : Uc9 μ) : pk (p_X9_addPatterns a1 μ) (fun q => Zc9 μ q) := by
  have z0 : Zc9 μ μ := Zc9.rf hU
  rw [p_X9_addPatterns_eq]
  refine pk_bw (x_X9_add ((97 : Int32) + ((μ.1 a1 3) / (6 : Int32))) μ  z0.1) (fun μ1 ez1 => ?_)
  have z1 : Zc9 μ μ1 := z0.tr ez1
  refine pk_bw (x_X9_add (40 : Int32) μ1  z1.1) (fun μ3 ez2 => ?_)
  have z2 : Zc9 μ μ3 := z1.tr ez2
  exact pk_mono (x_X9_addPatterns_b22 FUEL a1 (0 : Int32) μ3  z2.1) (fun _ hq => z2.tr hq)
theorem x_X9_addTwo (a2 : Int32) (a3 : Int32) (a4 : Int32) (a5 : Int32) (μ : Mem)  (hU : Uc9 μ) : pk (p_X9_addTwo a2 a3 a4 a5 μ) (fun q => Zc9 μ q) := by
  have z0 : Zc9 μ μ := Zc9.rf hU
  rw [p_X9_addTwo_eq]
  refine pk_bw (x_X9_add a3 μ  z0.1) (fun μ1 ez1 => ?_)
  have z1 : Zc9 μ μ1 := z0.tr ez1
  refine pk_bd (x_X5_operand a2 (0 : Int32) μ1  z1.1) (fun r4 μ3 ez2 => ?_)
  have z2 : Zc9 μ μ3 := z1.tr ez2
  refine pk_bw (x_X9_addSymbol r4 μ3  z2.1) (fun μ5 ez3 => ?_)
  have z3 : Zc9 μ μ5 := z2.tr ez3
  refine pk_bw (x_X9_add a4 μ5  z3.1) (fun μ7 ez4 => ?_)
  have z4 : Zc9 μ μ7 := z3.tr ez4
  refine pk_bd (x_X5_operand a2 (1 : Int32) μ7  z4.1) (fun r10 μ9 ez5 => ?_)
  have z5 : Zc9 μ μ9 := z4.tr ez5
  refine pk_bw (x_X9_addSymbol r10 μ9  z5.1) (fun μ11 ez6 => ?_)
  have z6 : Zc9 μ μ11 := z5.tr ez6
  refine pk_bw (x_X9_add a5 μ11  z6.1) (fun μ13 ez7 => ?_)
  have z7 : Zc9 μ μ13 := z6.tr ez7
  exact pk_some z7
theorem x_X9_addChoice (RE : Int32 → Int32 → Mem → Option Mem) (hRE : ∀ (y0 : Int32) (y1 : Int32) (y2 : Mem), Uc9 y2 → pk (RE y0 y1 y2) (fun q => Zc9 y2 q)) (a2 : Int32) (a3 : Int32) (μ : Mem)  (hU : Uc9 μ) : pk (p_X9_addChoice RE a2 a3 μ) (fun q => Zc9 μ q) := by
  have z0 : Zc9 μ μ := Zc9.rf hU
  rw [p_X9_addChoice_eq]
  refine pk_bw (x_X9_add (63 : Int32) μ  z0.1) (fun μ1 ez1 => ?_)
  have z1 : Zc9 μ μ1 := z0.tr ez1
  refine pk_bd (x_X5_operand a2 (0 : Int32) μ1  z1.1) (fun r4 μ3 ez2 => ?_)
  have z2 : Zc9 μ μ3 := z1.tr ez2
  refine pk_bw (x_X9_addSymbol r4 μ3  z2.1) (fun μ5 ez3 => ?_)
  have z3 : Zc9 μ μ5 := z2.tr ez3
  refine pk_bw (x_X9_add (123 : Int32) μ5  z3.1) (fun μ7 ez4 => ?_)
  have z4 : Zc9 μ μ7 := z3.tr ez4
  refine pk_bd (x_X5_cell a2 (3 : Int32) μ7  z4.1) (fun r10 μ9 ez5 => ?_)
  have z5 : Zc9 μ μ9 := z4.tr ez5
  refine pk_bw (hRE r10 (a3 + (1 : Int32)) μ9  z5.1) (fun μ11 ez6 => ?_)
  have z6 : Zc9 μ μ11 := z5.tr ez6
  refine pk_bw (x_X9_add (125 : Int32) μ11  z6.1) (fun μ13 ez7 => ?_)
  have z7 : Zc9 μ μ13 := z6.tr ez7
  refine pk_bw (x_X9_add (123 : Int32) μ13  z7.1) (fun μ15 ez8 => ?_)
  have z8 : Zc9 μ μ15 := z7.tr ez8
  refine pk_bd (x_X5_cell a2 (4 : Int32) μ15  z8.1) (fun r18 μ17 ez9 => ?_)
  have z9 : Zc9 μ μ17 := z8.tr ez9
  refine pk_bw (hRE r18 (a3 + (1 : Int32)) μ17  z9.1) (fun μ19 ez10 => ?_)
  have z10 : Zc9 μ μ19 := z9.tr ez10
  refine pk_bw (x_X9_add (125 : Int32) μ19  z10.1) (fun μ21 ez11 => ?_)
  have z11 : Zc9 μ μ21 := z10.tr ez11
  exact pk_some z11
theorem x_X9_addCall_b50 (K33 : Int32 → Int32 → Int32 → Mem → Option Mem) (hK33 : ∀ (y0 : Int32) (y1 : Int32) (y2 : Int32) (y3 : Mem), Uc9 y3 → pk (K33 y0 y1 y2 y3) (fun q => Zc9 y3 q)) (a2 : Int32) (a3 : Int32) (a4 : Int32) (μ : Mem)  (hU : Uc9 μ) : pk (p_X9_addCall_b50 K33 a2 a3 a4 μ) (fun q => Zc9 μ q) := by
  have z0 : Zc9 μ μ := Zc9.rf hU
  rw [p_X9_addCall_b50_eq]
  refine pk_bd (x_X5_operand a2 ((2 : Int32) + a4) μ  z0.1) (fun r16 μ15 ez1 => ?_)
  have z1 : Zc9 μ μ15 := z0.tr ez1
  refine pk_bw (x_X9_addSymbol r16 μ15  z1.1) (fun μ17 ez2 => ?_)
  have z2 : Zc9 μ μ17 := z1.tr ez2
  refine pk_bvy (fun v19 _ => ?_)
  exact pk_mono (hK33 a2 a3 v19 μ17  z2.1) (fun _ hq => z2.tr hq)
theorem x_X9_addCall_b33 : ∀ (n : Nat) (a2 : Int32) (a3 : Int32) (a4 : Int32) (μ : Mem), Uc9 μ → pk (p_X9_addCall_b33  n a2 a3 a4 μ) (fun q => Zc9 μ q) := by
  intro n
  induction n with
  | zero => intro a2 a3 a4 μ  hU r e; rw [p_X9_addCall_b33_z] at e; cases e
  | succ n ih =>
    intro a2 a3 a4 μ  hU
    have z0 : Zc9 μ μ := Zc9.rf hU
    rw [p_X9_addCall_b33_s]
    refine pk_ite (fun _ => ?_) (fun _ => ?_)
    · refine pk_bw (x_X9_add (41 : Int32) μ  z0.1) (fun μ12 ez1 => ?_)
      have z1 : Zc9 μ μ12 := z0.tr ez1
      exact pk_some z1
    · refine pk_ite (fun _ => ?_) (fun _ => ?_)
      · exact pk_mono (x_X9_addCall_b50 (p_X9_addCall_b33  n) ih a2 a3 a4 μ  z0.1) (fun _ hq => z0.tr hq)
      · refine pk_bw (x_X9_add (44 : Int32) μ  z0.1) (fun μ20 ez2 => ?_)
        have z2 : Zc9 μ μ20 := z0.tr ez2
        exact pk_mono (x_X9_addCall_b50 (p_X9_addCall_b33  n) ih a2 a3 a4 μ20  z2.1) (fun _ hq => z2.tr hq)
theorem x_X9_addCall (a2 : Int32) (μ : Mem)  (hU : Uc9 μ) : pk (p_X9_addCall a2 μ) (fun q => Zc9 μ q) := by
  have z0 : Zc9 μ μ := Zc9.rf hU
  rw [p_X9_addCall_eq]
  refine pk_bw (x_X9_add (99 : Int32) μ  z0.1) (fun μ1 ez1 => ?_)
  have z1 : Zc9 μ μ1 := z0.tr ez1
  refine pk_bd (x_X5_cell a2 (2 : Int32) μ1  z1.1) (fun r4 μ3 ez2 => ?_)
  have z2 : Zc9 μ μ3 := z1.tr ez2
  refine pk_bw (x_X9_addInt r4 μ3  z2.1) (fun μ5 ez3 => ?_)
  have z3 : Zc9 μ μ5 := z2.tr ez3
  refine pk_bw (x_X9_add (40 : Int32) μ5  z3.1) (fun μ7 ez4 => ?_)
  have z4 : Zc9 μ μ7 := z3.tr ez4
  refine pk_bd (x_X5_cell a2 (7 : Int32) μ7  z4.1) (fun r10 μ9 ez5 => ?_)
  have z5 : Zc9 μ μ9 := z4.tr ez5
  exact pk_mono (x_X9_addCall_b33 FUEL a2 r10 (0 : Int32) μ9  z5.1) (fun _ hq => z5.tr hq)
theorem x_X9_addInstruction_b242 (RE : Int32 → Int32 → Mem → Option Mem) (hRE : ∀ (y0 : Int32) (y1 : Int32) (y2 : Mem), Uc9 y2 → pk (RE y0 y1 y2) (fun q => Zc9 y2 q)) (a2 : Int32) (k0 : Int32) (μ : Mem)  (hU : Uc9 μ) : pk (p_X9_addInstruction_b242 RE a2 k0 μ) (fun q => Zc9 μ q) := by
  have z0 : Zc9 μ μ := Zc9.rf hU
  rw [p_X9_addInstruction_b242_eq]
  refine pk_bw (x_X9_add k0 μ  z0.1) (fun μ12 ez1 => ?_)
  have z1 : Zc9 μ μ12 := z0.tr ez1
  refine pk_bd (x_X5_operand a2 (0 : Int32) μ12  z1.1) (fun r15 μ14 ez2 => ?_)
  have z2 : Zc9 μ μ14 := z1.tr ez2
  refine pk_bw (x_X9_addSymbol r15 μ14  z2.1) (fun μ16 ez3 => ?_)
  have z3 : Zc9 μ μ16 := z2.tr ez3
  exact pk_some z3
theorem x_X9_addInstruction_b240 (RE : Int32 → Int32 → Mem → Option Mem) (hRE : ∀ (y0 : Int32) (y1 : Int32) (y2 : Mem), Uc9 y2 → pk (RE y0 y1 y2) (fun q => Zc9 y2 q)) (a2 : Int32) (μ : Mem)  (hU : Uc9 μ) : pk (p_X9_addInstruction_b240 RE a2 μ) (fun q => Zc9 μ q) := by
  have z0 : Zc9 μ μ := Zc9.rf hU
  rw [p_X9_addInstruction_b240_eq]
  exact pk_mono (x_X9_addInstruction_b242 RE hRE a2 (32 : Int32) μ  z0.1) (fun _ hq => z0.tr hq)
theorem x_X9_addInstruction_b35 (RE : Int32 → Int32 → Mem → Option Mem) (hRE : ∀ (y0 : Int32) (y1 : Int32) (y2 : Mem), Uc9 y2 → pk (RE y0 y1 y2) (fun q => Zc9 y2 q)) (a2 : Int32) (a3 : Int32) (a4 : Int32) (μ : Mem)  (hU : Uc9 μ) : pk (p_X9_addInstruction_b35 RE a2 a3 a4 μ) (fun q => Zc9 μ q) := by
  have z0 : Zc9 μ μ := Zc9.rf hU
  rw [p_X9_addInstruction_b35_eq]
  refine pk_ite (fun _ => ?_) (fun _ => ?_)
  · refine pk_bd (x_X5_cell a2 (2 : Int32) μ  z0.1) (fun r7 μ6 ez1 => ?_)
    have z1 : Zc9 μ μ6 := z0.tr ez1
    refine pk_bw (x_X9_addTwo a2 (40 : Int32) r7 (41 : Int32) μ6  z1.1) (fun μ8 ez2 => ?_)
    have z2 : Zc9 μ μ8 := z1.tr ez2
    exact pk_some z2
  · refine pk_ite (fun _ => ?_) (fun _ => ?_)
    · refine pk_ite (fun _ => ?_) (fun _ => ?_)
      · exact pk_mono (x_X9_addInstruction_b240 RE hRE a2 μ  z0.1) (fun _ hq => z0.tr hq)
      · refine pk_ite (fun _ => ?_) (fun _ => ?_)
        · exact pk_mono (x_X9_addInstruction_b240 RE hRE a2 μ  z0.1) (fun _ hq => z0.tr hq)
        · refine pk_gd (fun _ => ?_)
          exact pk_mono (x_X9_addInstruction_b242 RE hRE a2 (sgc a4) μ  z0.1) (fun _ hq => z0.tr hq)
    · refine pk_ite (fun _ => ?_) (fun _ => ?_)
      · refine pk_ite (fun _ => ?_) (fun _ => ?_)
        · exact pk_mono (x_X9_addInstruction_b240 RE hRE a2 μ  z0.1) (fun _ hq => z0.tr hq)
        · refine pk_ite (fun _ => ?_) (fun _ => ?_)
          · exact pk_mono (x_X9_addInstruction_b240 RE hRE a2 μ  z0.1) (fun _ hq => z0.tr hq)
          · refine pk_gd (fun _ => ?_)
            exact pk_mono (x_X9_addInstruction_b242 RE hRE a2 (sgc a4) μ  z0.1) (fun _ hq => z0.tr hq)
      · refine pk_ite (fun _ => ?_) (fun _ => ?_)
        · refine pk_ite (fun _ => ?_) (fun _ => ?_)
          · exact pk_mono (x_X9_addInstruction_b240 RE hRE a2 μ  z0.1) (fun _ hq => z0.tr hq)
          · refine pk_ite (fun _ => ?_) (fun _ => ?_)
            · exact pk_mono (x_X9_addInstruction_b240 RE hRE a2 μ  z0.1) (fun _ hq => z0.tr hq)
            · refine pk_gd (fun _ => ?_)
              exact pk_mono (x_X9_addInstruction_b242 RE hRE a2 (sgc a4) μ  z0.1) (fun _ hq => z0.tr hq)
        · refine pk_ite (fun _ => ?_) (fun _ => ?_)
          · refine pk_ite (fun _ => ?_) (fun _ => ?_)
            · exact pk_mono (x_X9_addInstruction_b240 RE hRE a2 μ  z0.1) (fun _ hq => z0.tr hq)
            · refine pk_ite (fun _ => ?_) (fun _ => ?_)
              · exact pk_mono (x_X9_addInstruction_b240 RE hRE a2 μ  z0.1) (fun _ hq => z0.tr hq)
              · refine pk_gd (fun _ => ?_)
                exact pk_mono (x_X9_addInstruction_b242 RE hRE a2 (sgc a4) μ  z0.1) (fun _ hq => z0.tr hq)
          · refine pk_ite (fun _ => ?_) (fun _ => ?_)
            · refine pk_ite (fun _ => ?_) (fun _ => ?_)
              · exact pk_mono (x_X9_addInstruction_b240 RE hRE a2 μ  z0.1) (fun _ hq => z0.tr hq)
              · refine pk_ite (fun _ => ?_) (fun _ => ?_)
                · exact pk_mono (x_X9_addInstruction_b240 RE hRE a2 μ  z0.1) (fun _ hq => z0.tr hq)
                · refine pk_gd (fun _ => ?_)
                  exact pk_mono (x_X9_addInstruction_b242 RE hRE a2 (sgc a4) μ  z0.1) (fun _ hq => z0.tr hq)
            · refine pk_ite (fun _ => ?_) (fun _ => ?_)
              · refine pk_bw (x_X9_addChoice RE hRE a2 a3 μ  z0.1) (fun μ37 ez3 => ?_)
                have z3 : Zc9 μ μ37 := z0.tr ez3
                exact pk_some z3
              · refine pk_ite (fun _ => ?_) (fun _ => ?_)
                · refine pk_ite (fun _ => ?_) (fun _ => ?_)
                  · exact pk_mono (x_X9_addInstruction_b240 RE hRE a2 μ  z0.1) (fun _ hq => z0.tr hq)
                  · refine pk_ite (fun _ => ?_) (fun _ => ?_)
                    · exact pk_mono (x_X9_addInstruction_b240 RE hRE a2 μ  z0.1) (fun _ hq => z0.tr hq)
                    · refine pk_gd (fun _ => ?_)
                      exact pk_mono (x_X9_addInstruction_b242 RE hRE a2 (sgc a4) μ  z0.1) (fun _ hq => z0.tr hq)
                · refine pk_ite (fun _ => ?_) (fun _ => ?_)
                  · refine pk_bw (x_X9_add (38 : Int32) μ  z0.1) (fun μ44 ez4 => ?_)
                    have z4 : Zc9 μ μ44 := z0.tr ez4
                    refine pk_bd (x_X5_cell a2 (2 : Int32) μ44  z4.1) (fun r47 μ46 ez5 => ?_)
                    have z5 : Zc9 μ μ46 := z4.tr ez5
                    refine pk_bw (x_X9_addInt r47 μ46  z5.1) (fun μ48 ez6 => ?_)
                    have z6 : Zc9 μ μ48 := z5.tr ez6
                    refine pk_bd (x_X5_operand a2 (0 : Int32) μ48  z6.1) (fun r51 μ50 ez7 => ?_)
                    have z7 : Zc9 μ μ50 := z6.tr ez7
                    refine pk_bw (x_X9_addSymbol r51 μ50  z7.1) (fun μ52 ez8 => ?_)
                    have z8 : Zc9 μ μ52 := z7.tr ez8
                    exact pk_some z8
                  · refine pk_ite (fun _ => ?_) (fun _ => ?_)
                    · refine pk_bw (x_X9_add (95 : Int32) μ  z0.1) (fun μ55 ez9 => ?_)
                      have z9 : Zc9 μ μ55 := z0.tr ez9
                      refine pk_bd (x_X5_cell a2 (2 : Int32) μ55  z9.1) (fun r58 μ57 ez10 => ?_)
                      have z10 : Zc9 μ μ57 := z9.tr ez10
                      refine pk_bw (x_X9_addInt r58 μ57  z10.1) (fun μ59 ez11 => ?_)
                      have z11 : Zc9 μ μ59 := z10.tr ez11
                      exact pk_some z11
                    · refine pk_ite (fun _ => ?_) (fun _ => ?_)
                      · refine pk_bw (x_X9_addTwo a2 (91 : Int32) (44 : Int32) (93 : Int32) μ  z0.1) (fun μ62 ez12 => ?_)
                        have z12 : Zc9 μ μ62 := z0.tr ez12
                        exact pk_some z12
                      · refine pk_ite (fun _ => ?_) (fun _ => ?_)
                        · refine pk_bw (x_X9_addCall a2 μ  z0.1) (fun μ65 ez13 => ?_)
                          have z13 : Zc9 μ μ65 := z0.tr ez13
                          exact pk_some z13
                        · refine pk_ite (fun _ => ?_) (fun _ => ?_)
                          · refine pk_bw (x_X9_add (45 : Int32) μ  z0.1) (fun μ68 ez14 => ?_)
                            have z14 : Zc9 μ μ68 := z0.tr ez14
                            exact pk_some z14
                          · refine pk_ite (fun _ => ?_) (fun _ => ?_)
                            · exact pk_mono (x_X9_addInstruction_b240 RE hRE a2 μ  z0.1) (fun _ hq => z0.tr hq)
                            · refine pk_ite (fun _ => ?_) (fun _ => ?_)
                              · exact pk_mono (x_X9_addInstruction_b240 RE hRE a2 μ  z0.1) (fun _ hq => z0.tr hq)
                              · refine pk_gd (fun _ => ?_)
                                exact pk_mono (x_X9_addInstruction_b242 RE hRE a2 (sgc a4) μ  z0.1) (fun _ hq => z0.tr hq)
theorem x_X9_addInstruction (RE : Int32 → Int32 → Mem → Option Mem) (hRE : ∀ (y0 : Int32) (y1 : Int32) (y2 : Mem), Uc9 y2 → pk (RE y0 y1 y2) (fun q => Zc9 y2 q)) (a2 : Int32) (a3 : Int32) (μ : Mem)  (hU : Uc9 μ) : pk (p_X9_addInstruction RE a2 a3 μ) (fun q => Zc9 μ q) := by
  have z0 : Zc9 μ μ := Zc9.rf hU
  rw [p_X9_addInstruction_eq]
  refine pk_bd (x_X5_cell a2 (0 : Int32) μ  z0.1) (fun r2 μ1 ez1 => ?_)
  have z1 : Zc9 μ μ1 := z0.tr ez1
  refine pk_ite (fun _ => ?_) (fun _ => ?_)
  · exact pk_mono (x_X9_addInstruction_b35 RE hRE a2 a3 r2 μ1  z1.1) (fun _ hq => z1.tr hq)
  · refine pk_bd (x_X5_cell a2 (1 : Int32) μ1  z1.1) (fun r74 μ73 ez2 => ?_)
    have z2 : Zc9 μ μ73 := z1.tr ez2
    refine pk_bw (x_X9_addSymbol (s_X0_make (3 : Int32) r74) μ73  z2.1) (fun μ75 ez3 => ?_)
    have z3 : Zc9 μ μ75 := z2.tr ez3
    refine pk_bw (x_X9_add (61 : Int32) μ75  z3.1) (fun μ77 ez4 => ?_)
    have z4 : Zc9 μ μ77 := z3.tr ez4
    exact pk_mono (x_X9_addInstruction_b35 RE hRE a2 a3 r2 μ77  z4.1) (fun _ hq => z4.tr hq)
theorem x_X9_addBlock_b10 (RE : Int32 → Int32 → Mem → Option Mem) (hRE : ∀ (y0 : Int32) (y1 : Int32) (y2 : Mem), Uc9 y2 → pk (RE y0 y1 y2) (fun q => Zc9 y2 q)) : ∀ (n : Nat) (a2 : Int32) (a3 : Int32) (a4 : Int32) (a5 : Int32) (μ : Mem), Uc9 μ → pk (p_X9_addBlock_b10 RE n a2 a3 a4 a5 μ) (fun q => Zc9 μ q) := by
  intro n
  induction n with
  | zero => intro a2 a3 a4 a5 μ  hU r e; rw [p_X9_addBlock_b10_z] at e; cases e
  | succ n ih =>
    intro a2 a3 a4 a5 μ  hU
    have z0 : Zc9 μ μ := Zc9.rf hU
    rw [p_X9_addBlock_b10_s]
    refine pk_ite (fun _ => ?_) (fun _ => ?_)
    · refine pk_bd (x_X5_endOf a2 μ  z0.1) (fun r5 μ4 ez1 => ?_)
      have z1 : Zc9 μ μ4 := z0.tr ez1
      refine pk_bw (x_X9_addSymbol r5 μ4  z1.1) (fun μ6 ez2 => ?_)
      have z2 : Zc9 μ μ6 := z1.tr ez2
      exact pk_some z2
    · refine pk_ite (fun _ => ?_) (fun _ => ?_)
      · refine pk_bd (x_X5_endOf a2 μ  z0.1) (fun r10 μ9 ez3 => ?_)
        have z3 : Zc9 μ μ9 := z0.tr ez3
        refine pk_bw (x_X9_addSymbol r10 μ9  z3.1) (fun μ11 ez4 => ?_)
        have z4 : Zc9 μ μ11 := z3.tr ez4
        exact pk_some z4
      · refine pk_ite (fun _ => ?_) (fun _ => ?_)
        · refine pk_bd (x_X5_endOf a2 μ  z0.1) (fun r15 μ14 ez5 => ?_)
          have z5 : Zc9 μ μ14 := z0.tr ez5
          refine pk_bw (x_X9_addSymbol r15 μ14  z5.1) (fun μ16 ez6 => ?_)
          have z6 : Zc9 μ μ16 := z5.tr ez6
          exact pk_some z6
        · refine pk_bw (x_X9_addInstruction RE hRE a4 a3 μ  z0.1) (fun μ18 ez7 => ?_)
          have z7 : Zc9 μ μ18 := z0.tr ez7
          refine pk_bw (x_X9_add (59 : Int32) μ18  z7.1) (fun μ20 ez8 => ?_)
          have z8 : Zc9 μ μ20 := z7.tr ez8
          refine pk_bd (x_X5_cell a4 (5 : Int32) μ20  z8.1) (fun r23 μ22 ez9 => ?_)
          have z9 : Zc9 μ μ22 := z8.tr ez9
          refine pk_bvy (fun v24 _ => ?_)
          exact pk_mono (ih a2 a3 r23 v24 μ22  z9.1) (fun _ hq => z9.tr hq)
theorem x_X9_addBlock (RE : Int32 → Int32 → Mem → Option Mem) (hRE : ∀ (y0 : Int32) (y1 : Int32) (y2 : Mem), Uc9 y2 → pk (RE y0 y1 y2) (fun q => Zc9 y2 q)) (a2 : Int32) (a3 : Int32) (μ : Mem)  (hU : Uc9 μ) : pk (p_X9_addBlock RE a2 a3 μ) (fun q => Zc9 μ q) := by
  have z0 : Zc9 μ μ := Zc9.rf hU
  rw [p_X9_addBlock_eq]
  refine pk_bd (x_X5_firstOf a2 μ  z0.1) (fun r2 μ1 ez1 => ?_)
  have z1 : Zc9 μ μ1 := z0.tr ez1
  exact pk_mono (x_X9_addBlock_b10 RE hRE FUEL a2 a3 r2 (0 : Int32) μ1  z1.1) (fun _ hq => z1.tr hq)
theorem xr_X9_addBlock : ∀ (n : Nat) (a2 : Int32) (a3 : Int32) (μ : Mem), Uc9 μ → pk (pr_X9_addBlock n a2 a3 μ) (fun q => Zc9 μ q) := by
  intro n
  induction n with
  | zero => intro a2 a3 μ  hU r e; rw [pr_X9_addBlock_z] at e; cases e
  | succ n ih =>
    intro a2 a3 μ  hU
    rw [pr_X9_addBlock_s]
    exact x_X9_addBlock _ ih a2 a3 μ  hU
theorem x_X9_writeVariant (a2 : Int32) (μ : Mem)  (hU : Uc9 μ) : pk (p_X9_writeVariant a2 μ) (fun q => Zc9 μ q.2) := by
  have z0 : Zc9 μ μ := Zc9.rf hU
  rw [p_X9_writeVariant_eq]
  refine pk_bvy (fun μ1 ez1 => ?_)
  have z1 : Zc9 μ μ1 := by rw [ez1]; exact z0.sF (by unfold Pc9; omega)
  refine pk_bd (x_X5_patternOf a2 μ1  z1.1) (fun r3 μ2 ez2 => ?_)
  have z2 : Zc9 μ μ2 := z1.tr ez2
  refine pk_bw (x_X9_addPatterns r3 μ2  z2.1) (fun μ4 ez3 => ?_)
  have z3 : Zc9 μ μ4 := z2.tr ez3
  refine pk_bw (x_X9_add (61 : Int32) μ4  z3.1) (fun μ6 ez4 => ?_)
  have z4 : Zc9 μ μ6 := z3.tr ez4
  refine pk_bd (x_X5_ofVariant a2 (3 : Int32) μ6  z4.1) (fun r9 μ8 ez5 => ?_)
  have z5 : Zc9 μ μ8 := z4.tr ez5
  refine pk_bw (xr_X9_addBlock 50 r9 (0 : Int32) μ8  z5.1) (fun μ10 ez6 => ?_)
  have z6 : Zc9 μ μ10 := z5.tr ez6
  refine pk_bw (x_X9_add (59 : Int32) μ10  z6.1) (fun μ12 ez7 => ?_)
  have z7 : Zc9 μ μ12 := z6.tr ez7
  exact pk_some z7
theorem x_X11_write (a1 : Int32) (μ : Mem)  (hU : Uc9 μ) : pk (p_X11_write a1 μ) (fun q => Zc9 μ q.2) := by
  have z0 : Zc9 μ μ := Zc9.rf hU
  rw [p_X11_write_eq]
  refine pk_bd (x_X5_hasVariant a1 μ  z0.1) (fun r2 μ1 ez1 => ?_)
  have z1 : Zc9 μ μ1 := z0.tr ez1
  refine pk_ite (fun _ => ?_) (fun _ => ?_)
  · exact pk_some z1
  · refine pk_bd (x_X9_writeVariant a1 μ1  z1.1) (fun r5 μ4 ez2 => ?_)
    have z2 : Zc9 μ μ4 := z1.tr ez2
    exact pk_some z2
theorem x_X9_byteAt (a1 : Int32) (μ : Mem)  (hU : Uc9 μ) : pk (p_X9_byteAt a1 μ) (fun q => Zc9 μ q.2) := by
  have z0 : Zc9 μ μ := Zc9.rf hU
  rw [p_X9_byteAt_eq]
  refine pk_ite (fun _ => ?_) (fun _ => ?_)
  · exact pk_some z0
  · refine pk_ite (fun _ => ?_) (fun _ => ?_)
    · exact pk_some z0
    · refine pk_gd (fun _ => ?_)
      exact pk_some z0
theorem x_X11_octet (a1 : Int32) (μ : Mem)  (hU : Uc9 μ) : pk (p_X11_octet a1 μ) (fun q => Zc9 μ q.2) := by
  have z0 : Zc9 μ μ := Zc9.rf hU
  rw [p_X11_octet_eq]
  refine pk_bd (x_X9_byteAt a1 μ  z0.1) (fun r2 μ1 ez1 => ?_)
  have z1 : Zc9 μ μ1 := z0.tr ez1
  exact pk_some z1
theorem x_X11_runBoth (μ : Mem)  (hU : Uc9 μ) : pk (p_X11_runBoth μ) (fun q => Zc9 μ q.2) := by
  have z0 : Zc9 μ μ := Zc9.rf hU
  rw [p_X11_runBoth_eq]
  refine pk_bd (x_X11_canRun (0 : Int32) μ  z0.1) (fun r2 μ1 ez1 => ?_)
  have z1 : Zc9 μ μ1 := z0.tr ez1
  refine pk_ite (fun _ => ?_) (fun _ => ?_)
  · exact pk_some z1
  · refine pk_bd (x_X11_canRun (1 : Int32) μ1  z1.1) (fun r5 μ4 ez2 => ?_)
    have z2 : Zc9 μ μ4 := z1.tr ez2
    refine pk_ite (fun _ => ?_) (fun _ => ?_)
    · exact pk_some z2
    · refine pk_bw (x_X7_runTask (sel 2 (μ4.2.2 0 4)) (sel 1 (μ4.2.2 0 6)) (sel 1 (μ4.2.2 0 8)) 125 μ4  z2.1) (fun μ7 ez3 => ?_)
      have z3 : Zc9 μ μ7 := z2.tr ez3
      refine pk_bw (x_X6_runResidue (sel 1 (μ7.2.2 0 8)) 131 μ7  z3.1) (fun μ9 ez4 => ?_)
      have z4 : Zc9 μ μ9 := z3.tr ez4
      exact pk_some z4
theorem x_X1_isLike_b74 : ∀ (n : Nat) (a0 : Nat) (a1 : Nat) (a2 : Int32) (μ : Mem), Uc9 μ → pk (p_X1_isLike_b74  n a0 a1 a2 μ) (fun q => Zc9 μ q.2) := by
  intro n
  induction n with
  | zero => intro a0 a1 a2 μ  hU r e; rw [p_X1_isLike_b74_z] at e; cases e
  | succ n ih =>
    intro a0 a1 a2 μ  hU
    have z0 : Zc9 μ μ := Zc9.rf hU
    rw [p_X1_isLike_b74_s]
    refine pk_ite (fun _ => ?_) (fun _ => ?_)
    · exact pk_some z0
    · refine pk_gd (fun _ => ?_)
      refine pk_gd (fun _ => ?_)
      refine pk_ite (fun _ => ?_) (fun _ => ?_)
      · refine pk_bvy (fun v15 _ => ?_)
        exact pk_mono (ih a0 a1 v15 μ  z0.1) (fun _ hq => z0.tr hq)
      · exact pk_some z0
theorem x_X1_isLike_b40 : ∀ (n : Nat) (a0 : Nat) (a1 : Nat) (a2 : Int32) (μ : Mem), Uc9 μ → pk (p_X1_isLike_b40  n a0 a1 a2 μ) (fun q => Zc9 μ q.2) := by
  intro n
  induction n with
  | zero => intro a0 a1 a2 μ  hU r e; rw [p_X1_isLike_b40_z] at e; cases e
  | succ n ih =>
    intro a0 a1 a2 μ  hU
    have z0 : Zc9 μ μ := Zc9.rf hU
    rw [p_X1_isLike_b40_s]
    refine pk_bd (x_X1_keptCount a0 μ  z0.1) (fun r11 μ10 ez1 => ?_)
    have z1 : Zc9 μ μ10 := z0.tr ez1
    refine pk_ite (fun _ => ?_) (fun _ => ?_)
    · exact pk_mono (x_X1_isLike_b74 FUEL a0 a1 (0 : Int32) μ10  z1.1) (fun _ hq => z1.tr hq)
    · refine pk_gd (fun _ => ?_)
      refine pk_gd (fun _ => ?_)
      refine pk_ite (fun _ => ?_) (fun _ => ?_)
      · refine pk_bvy (fun v17 _ => ?_)
        exact pk_mono (ih a0 a1 v17 μ10  z1.1) (fun _ hq => z1.tr hq)
      · exact pk_some z1
theorem x_X1_isLike (a0 : Nat) (a1 : Nat) (μ : Mem)  (hU : Uc9 μ) : pk (p_X1_isLike a0 a1 μ) (fun q => Zc9 μ q.2) := by
  have z0 : Zc9 μ μ := Zc9.rf hU
  rw [p_X1_isLike_eq]
  refine pk_ite (fun _ => ?_) (fun _ => ?_)
  · refine pk_bd (x_X2_isSame (a0 + 3) (a1 + 3) μ  z0.1) (fun r3 μ2 ez1 => ?_)
    have z1 : Zc9 μ μ2 := z0.tr ez1
    refine pk_ite (fun _ => ?_) (fun _ => ?_)
    · exact pk_some z1
    · refine pk_bd (x_X1_keptCount a0 μ2  z1.1) (fun r6 μ5 ez2 => ?_)
      have z2 : Zc9 μ μ5 := z1.tr ez2
      refine pk_bd (x_X1_keptCount a1 μ5  z2.1) (fun r8 μ7 ez3 => ?_)
      have z3 : Zc9 μ μ7 := z2.tr ez3
      refine pk_ite (fun _ => ?_) (fun _ => ?_)
      · exact pk_mono (x_X1_isLike_b40 FUEL a0 a1 (0 : Int32) μ7  z3.1) (fun _ hq => z3.tr hq)
      · exact pk_some z3
  · exact pk_some z0
theorem x_X11_agree (μ : Mem)  (hU : Uc9 μ) : pk (p_X11_agree μ) (fun q => Zc9 μ q.2) := by
  have z0 : Zc9 μ μ := Zc9.rf hU
  rw [p_X11_agree_eq]
  refine pk_bd (x_X11_runBoth μ  z0.1) (fun r2 μ1 ez1 => ?_)
  have z1 : Zc9 μ μ1 := z0.tr ez1
  refine pk_ite (fun _ => ?_) (fun _ => ?_)
  · exact pk_some z1
  · refine pk_bd (x_X1_isLike 125 131 μ1  z1.1) (fun r5 μ4 ez2 => ?_)
    have z2 : Zc9 μ μ4 := z1.tr ez2
    refine pk_ite (fun _ => ?_) (fun _ => ?_)
    · exact pk_some z2
    · exact pk_some z2
theorem x_X11_saved (μ : Mem)  (hU : Uc9 μ) : pk (p_X11_saved μ) (fun q => Zc9 μ q.2) := by
  have z0 : Zc9 μ μ := Zc9.rf hU
  rw [p_X11_saved_eq]
  refine pk_bd (x_X11_runBoth μ  z0.1) (fun r2 μ1 ez1 => ?_)
  have z1 : Zc9 μ μ1 := z0.tr ez1
  refine pk_ite (fun _ => ?_) (fun _ => ?_)
  · exact pk_some z1
  · refine pk_ite (fun _ => ?_) (fun _ => ?_)
    · refine pk_ite (fun _ => ?_) (fun _ => ?_)
      · exact pk_some z1
      · exact pk_some z1
    · exact pk_some z1
theorem x_X11_op (a1 : Int32) (a2 : Int32) (a3 : Int32) (μ : Mem)  (hU : Uc9 μ) : pk (p_X11_op a1 a2 a3 μ) (fun q => Zc9 μ q.2) := by
  have z0 : Zc9 μ μ := Zc9.rf hU
  rw [p_X11_op_eq]
  refine pk_ite (fun _ => ?_) (fun _ => ?_)
  · exact pk_some z0
  · refine pk_bvy (fun v2 _ => ?_)
    exact pk_some z0
end
