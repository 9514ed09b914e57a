/-! THINGS BELOW ARE TO BE WORKED -/
theorem Mx.push {t : Bool} {b : Nat} {Vb : Nat → Prop} {ve : Nat} {μ : Mem} {L : List Act} {cs : List Nat} {R : List Fm} {Zs : List Zc} {V : Nat → Prop} (hM : Mx t b Vb ve μ L cs R Zs V) (hl : L.length < 6000) {a1 a2 a3 : Int32} {w a : Nat} {c : Int} (h1 : a1.toInt = (w : Int)) (h2 : a2.toInt = (a : Int)) (h3 : a3.toInt = c) : ok (p_X12_push a1 a2 a3 μ) (fun q => Fr frPu true μ q ∧ Mx t b Vb ve q ((w, a, c) :: L) cs R Zs V) := by
  obtain ⟨m1, m2, m3, m4, m5⟩ := hM
  refine ok_mono (v_push m1 hl h1 h2 h3) ?_
  rintro q ⟨f, v⟩
  exact ⟨f, v, m2.gr (f.gr (by decide +kernel)), by rw [f.v (by decide +kernel)]; exact m3, fun ht => ⟨by rw [f.v (by decide +kernel)]; exact (m4 ht).1, (m4 ht).2.fr f (by decide +kernel)⟩, fun ht => ⟨by rw [f.v (by decide +kernel)]; exact (m5 ht).1, (m5 ht).2⟩⟩
theorem avs_get {w a c : Nat → Int} {L : List Act} : ∀ {xs : List Nat}, Avs w a c (xs.map wk ++ L) → (∀ j, j < xs.length → w (L.length + j) = 0 ∧ a (L.length + j) = ((xs.reverse).getD j 0 : Int) ∧ c (L.length + j) = 0) ∧ Avs w a c L := by
  intro xs
  induction xs with
  | nil => intro h; exact ⟨fun j hj => absurd hj (by simp), h⟩
  | cons x xs ih =>
    intro h
    have h1 : w (xs.map wk ++ L).length = ((wk x).1 : Int) := h.1
    have h2 : a (xs.map wk ++ L).length = ((wk x).2.1 : Int) := h.2.1
    have h3 : c (xs.map wk ++ L).length = (wk x).2.2 := h.2.2.1
    obtain ⟨i1, i2⟩ := ih h.2.2.2
    refine ⟨fun j hj => ?_, i2⟩
    simp only [List.length_append, List.length_map] at h1 h2 h3
    simp only [List.length_cons] at hj
    rw [List.reverse_cons]
    by_cases e : j = xs.length
    · have e2 : L.length + j = xs.length + L.length := by omega
      rw [e2, h1, h2, h3]
      refine ⟨rfl, ?_, rfl⟩
      rw [e]
      simp [List.getD_eq_getElem?_getD, wk]
    · obtain ⟨j1, j2, j3⟩ := i1 j (by omega)
      refine ⟨j1, ?_, j3⟩
      rw [j2]
      congr 1
      rw [List.getD_eq_getElem?_getD, List.getD_eq_getElem?_getD, List.getElem?_append_left (by simp; omega)]
theorem avs_set {w a c : Nat → Int} {L : List Act} (hL : Avs w a c L) : ∀ {xs : List Nat}, (∀ j, j < xs.length → w (L.length + j) = 0 ∧ a (L.length + j) = ((xs.reverse).getD j 0 : Int) ∧ c (L.length + j) = 0) → Avs w a c (xs.map wk ++ L) := by
  intro xs
  induction xs with
  | nil => intro _; exact hL
  | cons x xs ih =>
    intro h
    have hl : (xs.map wk ++ L).length = L.length + xs.length := by simp; omega
    have h0 := h xs.length (by simp)
    refine ⟨?_, ?_, ?_, ih (fun j hj => ?_)⟩
    · show w (xs.map wk ++ L).length = _
      rw [hl]; exact h0.1
    · show a (xs.map wk ++ L).length = _
      rw [hl, h0.2.1, List.reverse_cons]
      simp [List.getD_eq_getElem?_getD, wk]
    · show c (xs.map wk ++ L).length = _
      rw [hl]; exact h0.2.2
    · have h1 := h j (by simp; omega)
      refine ⟨h1.1, ?_, h1.2.2⟩
      rw [h1.2.1, List.reverse_cons]
      congr 1
      rw [List.getD_eq_getElem?_getD, List.getD_eq_getElem?_getD, List.getElem?_append_left (by simp; omega)]
theorem k_workBelow_b38 {k : Nat} (hk : k ≤ 5) (a1 : Int32) (n l : Nat) (μ0 : Mem) (hn : n = l + k) (hn6 : n ≤ 6000) (ha1 : 0 ≤ a1.toInt ∧ a1.toInt < 800) (hbe : (μ0.1 9 a1.toNatClampNeg).toInt = (k : Int)) (hac : (μ0.1 0 65).toInt = (n : Int)) :
    ∀ (m i : Nat) (a3 : Int32) (μ : Mem), a3.toInt = (i : Int) → i ≤ k / 2 → k / 2 < m + i → IM μ → Fr [(1, 38, 0)] true μ0 μ → (∀ j, j < k → iv μ 38 (l + j) = iv μ0 38 (l + (if j < i ∨ k - 1 - j < i then k - 1 - j else j))) → (∀ j, (j < l ∨ n ≤ j) → iv μ 38 j = iv μ0 38 j) → ok (p_X12_workBelow_b38 m a1 a3 μ) (fun q => IM q ∧ Fr [(1, 38, 0)] true μ0 q ∧ (∀ j, j < k → iv q 38 (l + j) = iv μ0 38 (l + (k - 1 - j))) ∧ (∀ j, (j < l ∨ n ≤ j) → iv q 38 j = iv μ0 38 j)) := by
  intro m
  have e1 : (1 : Int32).toInt = 1 := by decide
  have e2 : (2 : Int32).toInt = 2 := by decide
  induction m with
  | zero => intro i a3 μ _ h1 h2; omega
  | succ m ih =>
    intro i a3 μ ha3 hik hm hI hF hA hO
    rw [p_X12_workBelow_b38_s]
    have b1 : inb a1 800 = true := inb_iff.mpr (by omega)
    have x9 : μ.1 9 a1.toNatClampNeg = μ0.1 9 a1.toNatClampNeg := hF.1 9 _ (by simp [hit])
    have x65 : μ.1 0 65 = μ0.1 0 65 := hF.1 0 65 (by simp [hit])
    rw [x9, x65]
    have hdiv : (μ0.1 9 a1.toNatClampNeg / 2).toInt = (k / 2 : Nat) := by
      rw [Int32.toInt_div_of_ne_right _ _ (by decide), hbe, e2]
      have : k = 0 ∨ k = 1 ∨ k = 2 ∨ k = 3 ∨ k = 4 ∨ k = 5 := by omega
      rcases this with rfl | rfl | rfl | rfl | rfl | rfl <;> rfl
    refine ok_gd b1 (ok_ite (fun hle => ok_some ⟨hI, hF, ?_, hO⟩) (fun hle => ?_))
    · rw [ti_le, hdiv] at hle
      have hi : i = k / 2 := by omega
      intro j hj
      rw [hA j hj]
      by_cases c : j < i ∨ k - 1 - j < i
      · rw [if_pos c]
      · rw [if_neg c]
        have : j = k - 1 - j := by omega
        rw [← this]
    · rw [ti_le, hdiv] at hle
      have t1 : (μ0.1 0 65 - 1).toInt = (n : Int) - 1 := by rw [ti_sub (by omega) (by omega), e1, hac]
      have t2 : ((μ0.1 0 65 - 1) - a3).toInt = (n : Int) - 1 - i := by rw [ti_sub (by omega) (by omega), t1, ha3]
      have n2 : ((μ0.1 0 65 - 1) - a3).toNatClampNeg = l + (k - 1 - i) := tn_of (by omega)
      have t3 : (μ0.1 0 65 - μ0.1 9 a1.toNatClampNeg).toInt = (n : Int) - k := by rw [ti_sub (by omega) (by omega), hac, hbe]
      have t4 : ((μ0.1 0 65 - μ0.1 9 a1.toNatClampNeg) + a3).toInt = (n : Int) - k + i := by rw [ti_add (by omega) (by omega), t3, ha3]
      have n4 : ((μ0.1 0 65 - μ0.1 9 a1.toNatClampNeg) + a3).toNatClampNeg = l + i := tn_of (by omega)
      rw [n2, n4]
      refine ok_gd (inb_iff.mpr (by omega)) (ok_bv (fun v4 ev4 => ok_gd b1 (ok_gd (inb_iff.mpr (by omega)) (ok_bv (fun v5 ev5 => ok_gd (inb_iff.mpr (by omega)) (ok_bv (fun μ6 em6 => ?_)))))))
      have y9 : μ6.1 9 a1.toNatClampNeg = μ0.1 9 a1.toNatClampNeg := by rw [em6, sF_i (by decide)]; exact x9
      have y65 : μ6.1 0 65 = μ0.1 0 65 := by rw [em6, sF_i (by decide)]; exact x65
      rw [y9, y65, n4]
      refine ok_gd b1 (ok_gd (inb_iff.mpr (by omega)) (ok_bv (fun μ7 em7 => ok_bv (fun v8 ev8 => ?_))))
      have v7 : ∀ j, iv μ7 38 j = if j = l + i then iv μ 38 (l + (k - 1 - i)) else if j = l + (k - 1 - i) then iv μ 38 (l + i) else iv μ 38 j := by
        intro j
        unfold iv
        rw [em7, sF_1, if_pos rfl, em6]
        by_cases c1 : j = l + i
        · rw [if_pos c1, if_pos c1, ev4]
        · rw [if_neg c1, if_neg c1, sF_1, if_pos rfl]
          by_cases c2 : j = l + (k - 1 - i)
          · rw [if_pos c2, if_pos c2, ev5]
          · rw [if_neg c2, if_neg c2]
      refine ih (i + 1) v8 μ7 (by rw [ev8, ti_add (by omega) (by omega), e1, ha3]; omega) (by omega) (by omega) ?_ ?_ (fun j hj => ?_) (fun j hj => ?_)
      · rw [em7]; refine IM_F ?_ (rtma_38 _ _)
        rw [em6]; exact IM_F hI (rtma_38 _ _)
      · rw [em7]; refine Fr.puta ?_ (by decide +kernel)
        rw [em6]; exact Fr.puta hF (by decide +kernel)
      · rw [v7]
        by_cases c1 : j = i
        · rw [if_pos (by omega), hA _ (by omega), if_neg (by omega), if_pos (by omega), c1]
        · rw [if_neg (by omega)]
          by_cases c2 : j = k - 1 - i
          · rw [if_pos (by omega), hA _ (by omega), if_neg (by omega), if_pos (by omega)]
            have : k - 1 - j = i := by omega
            rw [this]
          · rw [if_neg (by omega), hA j hj]
            by_cases c3 : j < i ∨ k - 1 - j < i
            · rw [if_pos c3, if_pos (by omega)]
            · rw [if_neg c3, if_neg (by omega)]
      · rw [v7, if_neg (by omega), if_neg (by omega)]; exact hO j hj
theorem k_workBelow {t : Bool} {b : Nat} {Vb : Nat → Prop} {ve : Nat} {th wo be bh : Nat → Int} {N : Nat} {μ : Mem} {L : List Act} {cs : List Nat} {R : List Fm} {Zs : List Zc} {V : Nat → Prop} (hM : Mx t b Vb ve μ L cs R Zs V) (hP : PA th wo be bh N μ) (hl : L.length ≤ 5000) {a : Int32} {p k q : Nat} {S : Nat → Prop} (ha : a.toInt = (p : Int)) (hp : p < 800) (hk : k ≤ 5) (hbe : be p = (k : Int)) (hF : Fo th wo be S k (p + 1) q) (hq : q ≤ N) : ok (p_X12_workBelow a μ) (fun r => Fr frPu true μ r ∧ Mx t b Vb ve r ((kids bh (p + 1) k).map wk ++ L) cs R Zs V) := by
  rw [p_X12_workBelow_eq]
  have e0 : (0 : Int32).toInt = 0 := by decide
  have e1 : (1 : Int32).toInt = 1 := by decide
  have ea : a.toNatClampNeg = p := tn_of ha
  obtain ⟨P1, P2, P3, P4, P5, P6, P7⟩ := hP
  have hBq : Bq be bh N := by
    intro r hr
    rw [← P3, ← P4, ← P5]
    rw [← P5] at hr
    exact P6.2 r (Nat.zero_le _) hr
  have hN8 : N ≤ 800 := by rw [← P5]; exact P6.1.1
  -- pushing
  have loop : ∀ (m i : Nat) (a2 a3 : Int32) (don : List Nat) (c : Nat) (μ1 : Mem), a2.toInt = (c : Int) → a3.toInt = (i : Int) → i ≤ k → k < m + i → don.length = i → kids bh (p + 1) k = don ++ kids bh c (k - i) → Fo th wo be S (k - i) c q → Fr frPu true μ μ1 → Mx t b Vb ve μ1 (don.reverse.map wk ++ L) cs R Zs V → ok (p_X12_workBelow_b6 m a a2 a3 μ1) (fun r => Fr frPu true μ r ∧ Mx t b Vb ve r ((kids bh (p + 1) k).map wk ++ L) cs R Zs V) := by
    intro m
    induction m with
    | zero => intro i a2 a3 don c μ1 _ _ h1 h2; omega
    | succ m ih =>
      intro i a2 a3 don c μ1 ha2 ha3 hik hm hdl hks hFo F1 hM1
      rw [p_X12_workBelow_b6_s, ea]
      have x9 : (μ1.1 9 p).toInt = (k : Int) := by
        have h1 := F1.a (c := 9) (by decide) p
        have h2 : iv μ 9 p = be p := by rw [P3]
        show iv μ1 9 p = _
        rw [h1, h2, hbe]
      refine ok_gd (inb_iff.mpr (by omega)) (ok_ite (fun hle => ?_) (fun hle => ?_))
      · rw [ti_le] at hle
        have hi : i = k := by omega
        have hk0 : k - i = 0 := by omega
        rw [hk0] at hks
        have hd : don = kids bh (p + 1) k := by rw [hks]; simp [kids]
        rw [hd] at hM1
        obtain ⟨m1, m2, m3, m4, m5⟩ := hM1
        obtain ⟨v1, v2, ⟨n1, n2⟩, v4, v5⟩ := m1
        have hlen : (((kids bh (p + 1) k).reverse.map wk) ++ L).length = L.length + k := by simp [kids_len]; omega
        rw [hlen] at n1
        refine ok_mono (k_workBelow_b38 hk a (L.length + k) L.length μ1 rfl (by omega) (by omega) (by rw [ea]; exact x9) n1 FUEL 0 0 μ1 e0 (by omega) (by show _ < 10000000000 + _; omega) v1 Fr.rf (fun j hj => by rw [if_neg (by omega)]) (fun j _ => rfl)) ?_
        rintro r ⟨r1, r2, r3, r4⟩
        obtain ⟨g1, g2⟩ := avs_get n2
        have hV : Vw r ((kids bh (p + 1) k).map wk ++ L) cs R := by
          refine ⟨r1, v2.fr r2 (by decide +kernel), ⟨?_, ?_⟩, v4.fr r2 (by decide +kernel), v5.fr r2 (by decide +kernel)⟩
          · rw [r2.v (by decide +kernel), n1]
            have : ((kids bh (p + 1) k).map wk ++ L).length = L.length + k := by simp [kids_len]; omega
            rw [this]
          · refine avs_set (g2.cong (fun i hi => ⟨r2.a (by decide) i, r4 i (Or.inl hi), r2.a (by decide) i⟩)) (fun j hj => ?_)
            rw [kids_len] at hj
            have hj2 : j < (kids bh (p + 1) k).reverse.length := by simp [kids_len]; exact hj
            have hj3 : k - 1 - j < (kids bh (p + 1) k).reverse.length := by simp [kids_len]; omega
            refine ⟨by rw [r2.a (by decide)]; exact (g1 j hj2).1, ?_, by rw [r2.a (by decide)]; exact (g1 j hj2).2.2⟩
            rw [r3 j hj, (g1 (k - 1 - j) hj3).2.1, List.reverse_reverse]
            congr 1
            rw [List.getD_eq_getElem?_getD, List.getD_eq_getElem?_getD, List.getElem?_reverse (by rw [kids_len]; exact hj), kids_len]
        exact ⟨F1.trans (Fr.mono r2 (by decide +kernel) (fun h => h)), hV, m2.gr (r2.gr (by decide +kernel)), by rw [r2.v (by decide +kernel)]; exact m3, fun ht => ⟨by rw [r2.v (by decide +kernel)]; exact (m4 ht).1, (m4 ht).2.fr r2 (by decide +kernel)⟩, fun ht => ⟨by rw [r2.v (by decide +kernel)]; exact (m5 ht).1, (m5 ht).2⟩⟩
      · rw [ti_le] at hle
        obtain ⟨j, hj⟩ : ∃ j, k - i = j + 1 := ⟨k - i - 1, by omega⟩
        rw [hj] at hFo hks
        obtain ⟨m1, f1, f2⟩ := hFo.one
        have l1 := f1.le
        have l2 := f2.le
        have ebh := hBq.at f1.sh (by omega)
        have hk2 : kids bh c (j + 1) = c :: kids bh m1 j := by
          show c :: kids bh (bh c).toNat j = _
          rw [ebh]; rfl
        have ec : a2.toNatClampNeg = c := tn_of ha2
        refine ok_bw (hM1.push (by simp; omega) (w := 0) (a := c) (c := 0) e0 ha2 e0) ?_
        rintro μ9 ⟨F9, hM9⟩
        rw [ec]
        refine ok_gd (inb_iff.mpr (by omega)) (ok_bv (fun v11 ev11 => ok_bv (fun v12 ev12 => ?_)))
        have x10 : v11.toInt = (m1 : Int) := by
          have h1 := (F1.trans F9).a (c := 10) (by decide) c
          rw [ev11]
          show iv μ9 10 c = _
          rw [h1, P4, ebh]
        refine ih (i + 1) v11 v12 (don ++ [c]) m1 μ9 x10 (by rw [ev12, ti_add (by omega) (by omega), e1, ha3]; omega) (by omega) (by omega) (by simp [hdl]) ?_ ?_ (F1.trans F9) ?_
        · have : k - (i + 1) = j := by omega
          rw [this, hks, hk2]; simp
        · have : k - (i + 1) = j := by omega
          rw [this]; exact f2
        · have : (don ++ [c]).reverse.map wk ++ L = wk c :: (don.reverse.map wk ++ L) := by simp
          rw [this]; exact hM9
  refine ok_bv (fun v1 ev1 => loop FUEL 0 v1 0 [] (p + 1) μ (by rw [ev1, ti_add (by omega) (by omega), e1, ha]; omega) e0 (by omega) (by show _ < 10000000000 + _; omega) rfl rfl hF Fr.rf hM)
