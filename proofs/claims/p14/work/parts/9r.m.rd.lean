theorem ok_two {α : Type} {x : Option α} {P Q : α → Prop} (h : ok x P) (h2 : ok x Q) : ok x (fun r => P r ∧ Q r) := by
  obtain ⟨r, e, hp⟩ := h
  obtain ⟨r2, e2, hq⟩ := h2
  rw [e] at e2
  cases e2
  exact ⟨r, e, hp, hq⟩
def Rc (μx μm : Mem) : Prop := Rb μx μm ∧ Tq μx μm ∧ Rfi μx
theorem rc_of {f g : Option (Int32 × Mem)} {μx μm : Mem} (h : Rc μx μm) (hb : ok f (fun q => ok g (fun z => Rb q.2 z.2))) (ht : ok f (fun q => ∀ j, q.2.1 1 j = μx.1 1 j)) (hw : pk f (fun q => Rfi q.2)) (hz : ok g (fun z => ∀ j, z.2.1 1 j = μm.1 1 j)) : ok f (fun q => ok g (fun z => Rc q.2 z.2)) := by
  refine ok_imp ?_ (ok_pk (ok_two hb ht) hw)
  rintro q ⟨⟨q1, q2⟩, q3⟩
  refine ok_imp ?_ (ok_two q1 hz)
  rintro z ⟨z1, z2⟩
  exact ⟨z1, fun j => by rw [q2 j, z2 j]; exact h.2.1 j, q3⟩
theorem ok_or {α : Type} {x : Option α} {P Q : α → Prop} (h : ok x P) (h2 : pk x Q) : ok x Q := ok_imp (fun _ h => h.2) (ok_pk h h2)
theorem rz_i {f : Option (Int32 × Mem)} {μ : Mem} (h : Rfi μ) (hw : pk f (fun q => Rz μ q.2)) : pk f (fun q => Rfi q.2) := pk_mono hw (fun _ hq => h.rz hq)
theorem tz_t {g : Option (Int32 × Mem)} {μ : Mem} {P : Int32 × Mem → Prop} (h : ok g P) (hw : pk g (fun z => Tz μ z.2)) : ok g (fun z => ∀ j, z.2.1 1 j = μ.1 1 j) := ok_or h (pk_mono hw (fun _ hq j => hq 1 j (Or.inl (Or.inl rfl))))
def nx (L : List (Nat × Nat × Nat)) (c : Nat) : Bool := L.all (fun t => if t.1 = 0 then !(c == t.2.1) else if t.1 = 1 then !(c == t.2.1) else if t.1 = 2 then !decide (sh 0 c = (0, t.2.1)) else !(decide (t.2.2 ≤ c) && decide (sh 0 (c - t.2.2) = (0, t.2.1))))
theorem nx_all {L : List (Nat × Nat × Nat)} {c : Nat} (h : nx L c = true) (k : Nat) : L.all (fun t => !hit t c k) = true := by
  refine List.all_eq_true.mpr (fun t ht => ?_)
  have h1 := List.all_eq_true.mp h t ht
  unfold hit
  by_cases e0 : t.1 = 0
  · rw [if_pos e0] at h1 ⊢
    simp only [Bool.not_eq_true'] at h1
    rw [h1]; rfl
  rw [if_neg e0] at h1 ⊢
  by_cases e1 : t.1 = 1
  · rw [if_pos e1] at h1 ⊢; exact h1
  rw [if_neg e1] at h1 ⊢
  by_cases e2 : t.1 = 2
  · rw [if_pos e2] at h1 ⊢
    simp only [Bool.not_eq_true'] at h1
    rw [h1]; rfl
  rw [if_neg e2] at h1 ⊢
  exact h1
theorem fr_t {L : List (Nat × Nat × Nat)} {bb : Bool} {μ q : Mem} (f : Fr L bb μ q) (n : nx L 1 = true) : ∀ j, q.1 1 j = μ.1 1 j := fun j => f.1 1 j (nx_all n j)
theorem q_val11 {μ : Mem} (hR : Rfi μ) : pk (p_X11_values μ) (fun r => Rfi r.2) := by
  rw [p_X11_values_eq]
  refine pk_bw (w_X11_takeTape μ) (fun μ1 z1 => pk_bd (w_X2_stars _ μ1) (fun r4 μ3 z3 => pk_bw (w_X4_readValues _ _ μ3) (fun μ5 z5 => pk_bd (w_X4_badPlace μ5) (fun r8 μ7 z7 => pk_bvy (fun μ9 m9 => ?_)))))
  have z3 : Rz μ1 μ3 := z3
  have z7 : Rz μ5 μ7 := z7
  have R9 : Rfi μ9 := by
    have : Rfi μ7 := (((hR.rz z1).rz z3).rz z5).rz z7
    rw [m9]; exact this
  refine pk_ite (fun _ => pk_bvy (fun μ11 m11 => pk_bvy (fun μ12 m12 => pk_bvy (fun μ13 m13 => pk_some ?_)))) (fun _ => pk_some R9)
  show Rfi μ13
  have r13 : ∀ k, μ13.2.2 0 k = if k = 9 then sel 1 (μ9.2.2 0 8) else if k = 8 then sel 1 (μ9.2.2 0 9) else μ9.2.2 0 k := by
    intro k
    rw [m13, sF_2, m12, sR_3, if_pos rfl, m11, sR_3, if_pos rfl]
  unfold Rfi
  rw [r13 6, r13 7, r13 8, r13 9, if_neg (by decide), if_neg (by decide), if_neg (by decide), if_neg (by decide), if_neg (by decide), if_pos rfl, if_pos rfl]
  refine ⟨R9.1, ?_⟩
  rcases R9.2 with ⟨x, y⟩ | ⟨x, y⟩
  · rw [x, y, sel_24, sel_27]; exact Or.inr ⟨rfl, rfl⟩
  · rw [x, y, sel_24, sel_27]; exact Or.inl ⟨rfl, rfl⟩
theorem rc_0 : Rc μX0 μM0 := ⟨rb_0, fun j => by show (0 : Int32) = 0 &&& 255; decide, by unfold Rfi; decide⟩
theorem Rc.T {μx μm : Mem} (h : Rc μx μm) : ∃ T : Nat, (μx.1 0 1).toInt = (T : Int) ∧ (μm.1 0 3).toInt = (T : Int) ∧ T ≤ 800 := by
  have g := rg_0_1 h.1.1
  exact ⟨(μx.1 0 1).toInt.toNat, by omega, by have := h.1.2.2; omega, by omega⟩
theorem rcq_feed (a1 a2 a3 a4 a5 : Int32) (μx μm : Mem) (h : Rc μx μm) : ok (p_X11_feed a1 a2 a3 a4 a5 μx) (fun q => ok (p_X12_feed a1 a2 a3 a4 a5 μm) (fun z => Rc q.2 z.2 ∧ q.1 = z.1)) := by
  obtain ⟨T, t1, t2, t3⟩ := h.T
  refine ok_imp ?_ (ok_pk (ok_pk (rb_feed a1 a2 a3 a4 a5 μx μm h.1) (q_feedt h.2.1 t1 t2 t3)) (rz_i h.2.2 (w_X11_feed a1 a2 a3 a4 a5 μx)))
  rintro q ⟨⟨q1, q2⟩, q3⟩
  refine ok_imp ?_ (ok_pk q1 q2)
  rintro z ⟨⟨z1, z2⟩, z3⟩
  exact ⟨⟨z1, z3, q3⟩, z2⟩
theorem rcf {f g : Option (Int32 × Mem)} (h : ok f (fun q => ok g (fun z => Rc q.2 z.2 ∧ q.1 = z.1))) : ok f (fun q => ok g (fun z => Rc q.2 z.2)) := ok_imp (fun q h => ok_imp (fun z h => h.1) h) h
theorem rc_end (a1 : Int32) (μx μm : Mem) (h : Rc μx μm) : ok (p_X11_end a1 μx) (fun q => ok (p_X12_end a1 μm) (fun z => Rc q.2 z.2)) := rc_of h (rb_end a1 μx μm h.1) (ok_imp (fun q h => fr_t h.2.1 (by decide +kernel)) (k_X11_end a1 μx h.1.1)) (rz_i h.2.2 (w_X11_end a1 μx)) (ok_imp (fun z h => fr_t h.2.1 (by decide +kernel)) (k_X12_end a1 μm h.1.2.1.1))
theorem rc_program (μx μm : Mem) (h : Rc μx μm) : ok (p_X11_program μx) (fun q => ok (p_X12_program μm) (fun z => Rc q.2 z.2)) := rc_of h (rb_program μx μm h.1) (ok_imp (fun q h => fr_t h.2.1 (by decide +kernel)) (k_X11_program μx h.1.1)) (rz_i h.2.2 (w_X11_program μx)) (ok_imp (fun z h => h.2.2.elim (fun f => fr_t f (by decide +kernel)) (fun f => fr_t f.1 (by decide +kernel))) (k_program μm h.1.2.1.1))
theorem rc_values (μx μm : Mem) (h : Rc μx μm) : ok (p_X11_values μx) (fun q => ok (p_X12_values μm) (fun z => Rc q.2 z.2)) := rc_of h (rb_values μx μm h.1) (ok_imp (fun q h => fr_t h.2.1 (by decide +kernel)) (k_X11_values μx h.1.1)) (q_val11 h.2.2) (ok_imp (fun z h => fr_t h.2.2.1 (by decide +kernel)) (k_values μm h.1.2.1.1))
theorem rcq_task (μx μm : Mem) (h : Rc μx μm) : ok (p_X11_task μx) (fun q => ok (p_X12_task μm) (fun z => Rc q.2 z.2 ∧ q.1 = z.1)) := by
  obtain ⟨T, t1, t2, t3⟩ := h.T
  have hs : Ms (fun j => μx.1 1 j) T μm := ⟨t2, t3, fun j _ => (h.2.1 j).symm⟩
  have h1 := rc_of h (rb_task μx μm h.1) (ok_imp (fun q h => fr_t h.2.1 (by decide +kernel)) (k_X11_task μx h.1.1)) (pk_mono (q_task11 t1 t3 h.2.2) (fun _ hq => hq.2)) (ok_imp (fun z h => h.2.2.elim (fun f => fr_t f (by decide +kernel)) (fun f => fr_t f.1 (by decide +kernel))) (k_task μm h.1.2.1.1))
  refine ok_imp ?_ (ok_pk h1 (q_task11 t1 t3 h.2.2))
  rintro q ⟨q1, q2, _⟩
  refine ok_imp ?_ (ok_pk q1 (q_task12 hs))
  rintro z ⟨z1, z2⟩
  refine ⟨z1, ?_⟩
  cases ho : rt (fun j => μx.1 1 j) T with
  | inl f => rw [ho] at q2 z2; exact Eq.trans q2 (Eq.symm z2)
  | inr s => rw [ho] at q2 z2; exact ti_eq.mpr (Eq.trans q2 (Eq.symm z2))
theorem rc_set (a1 a2 : Int32) (μx μm : Mem) (h : Rc μx μm) : ok (p_X11_set a1 a2 μx) (fun q => ok (p_X12_set a1 a2 μm) (fun z => Rc q.2 z.2)) := rc_of h (rb_set a1 a2 μx μm h.1) (ok_imp (fun q h => fr_t h.2.1 (by decide +kernel)) (k_X11_set a1 a2 μx h.1.1)) (rz_i h.2.2 (w_X11_set a1 a2 μx)) (ok_imp (fun z h => fr_t h.2.1 (by decide +kernel)) (k_X12_set a1 a2 μm h.1.2.1.1))
theorem rc_fault (μx μm : Mem) (h : Rc μx μm) : ok (p_X11_fault μx) (fun q => ok (p_X12_fault μm) (fun z => Rc q.2 z.2)) := rc_of h (rb_fault μx μm h.1) (ok_imp (fun q e => by have e : μx = q.2 := e; rw [← e]; exact fun _ => rfl) (k_X11_fault μx h.1.1)) (rz_i h.2.2 (w_X11_fault μx)) (tz_t (k_X12_fault μm h.1.2.1.1) (w_X12_fault μm))
theorem rc_is (a1 : Int32) (μx μm : Mem) (h : Rc μx μm) : ok (p_X11_is a1 μx) (fun q => ok (p_X12_is a1 μm) (fun z => Rc q.2 z.2)) := rc_of h (rb_is a1 μx μm h.1) (ok_imp (fun q e => by have e : μx = q.2 := e; rw [← e]; exact fun _ => rfl) (k_X11_is a1 μx h.1.1)) (rz_i h.2.2 (w_X11_is a1 μx)) (tz_t (k_X12_is a1 μm h.1.2.1.1) (w_X12_is a1 μm))
theorem rc_function (a1 a2 : Int32) (μx μm : Mem) (h : Rc μx μm) : ok (p_X11_function a1 a2 μx) (fun q => ok (p_X12_function a1 a2 μm) (fun z => Rc q.2 z.2)) := rc_of h (rb_function a1 a2 μx μm h.1) (ok_imp (fun q e => by have e : μx = q.2 := e; rw [← e]; exact fun _ => rfl) (k_X11_function a1 a2 μx h.1.1)) (rz_i h.2.2 (w_X11_function a1 a2 μx)) (tz_t (k_function h.1.2.1 a1 a2) (w_X12_function a1 a2 μm))
theorem rc_residue (a1 : Int32) (μx μm : Mem) (h : Rc μx μm) : ok (p_X11_residue a1 μx) (fun q => ok (p_X12_residue a1 μm) (fun z => Rc q.2 z.2)) := rc_of h (rb_residue a1 μx μm h.1) (ok_imp (fun q e => by have e : μx = q.2 := e; rw [← e]; exact fun _ => rfl) (k_X11_residue a1 μx h.1.1)) (rz_i h.2.2 (w_X11_residue a1 μx)) (tz_t (k_X12_residue a1 μm h.1.2.1.1) (w_X12_residue a1 μm))
theorem rc_variant (a1 a2 : Int32) (μx μm : Mem) (h : Rc μx μm) : ok (p_X11_variant a1 a2 μx) (fun q => ok (p_X12_variant a1 a2 μm) (fun z => Rc q.2 z.2)) := rc_of h (rb_variant a1 a2 μx μm h.1) (ok_imp (fun q e => by have e : μx = q.2 := e; rw [← e]; exact fun _ => rfl) (k_X11_variant a1 a2 μx h.1.1)) (rz_i h.2.2 (w_X11_variant a1 a2 μx)) (tz_t (k_X12_variant a1 a2 μm h.1.2.1.1) (w_X12_variant a1 a2 μm))
theorem rc_kinds (a1 a2 : Int32) (μx μm : Mem) (h : Rc μx μm) : ok (p_X11_kinds a1 a2 μx) (fun q => ok (p_X12_kinds a1 a2 μm) (fun z => Rc q.2 z.2)) := rc_of h (rb_kinds a1 a2 μx μm h.1) (ok_imp (fun q e => by have e : μx = q.2 := e; rw [← e]; exact fun _ => rfl) (k_X11_kinds a1 a2 μx h.1.1)) (rz_i h.2.2 (w_X11_kinds a1 a2 μx)) (tz_t (k_X12_kinds a1 a2 μm h.1.2.1.1) (w_X12_kinds a1 a2 μm))
theorem rc_output (a1 a2 : Int32) (μx μm : Mem) (h : Rc μx μm) : ok (p_X11_output a1 a2 μx) (fun q => ok (p_X12_output a1 a2 μm) (fun z => Rc q.2 z.2)) := rc_of h (rb_output a1 a2 μx μm h.1) (ok_imp (fun q e => by have e : μx = q.2 := e; rw [← e]; exact fun _ => rfl) (k_X11_output a1 a2 μx h.1.1)) (rz_i h.2.2 (w_X11_output a1 a2 μx)) (tz_t (k_X12_output a1 a2 μm h.1.2.1.1) (w_X12_output a1 a2 μm))
theorem rc_place (a1 : Int32) (μx μm : Mem) (h : Rc μx μm) : ok (p_X11_place a1 μx) (fun q => ok (p_X12_place a1 μm) (fun z => Rc q.2 z.2)) := rc_of h (rb_place a1 μx μm h.1) (ok_imp (fun q e => by have e : μx = q.2 := e; rw [← e]; exact fun _ => rfl) (k_X11_place a1 μx h.1.1)) (rz_i h.2.2 (w_X11_place a1 μx)) (tz_t (k_X12_place a1 μm h.1.2.1.1) (w_X12_place a1 μm))
theorem rc_octet (a1 : Int32) (μx μm : Mem) (h : Rc μx μm) : ok (p_X11_octet a1 μx) (fun q => ok (p_X12_octet a1 μm) (fun z => Rc q.2 z.2)) := rc_of h (rb_octet a1 μx μm h.1) (ok_imp (fun q e => by have e : μx = q.2 := e; rw [← e]; exact fun _ => rfl) (k_X11_octet a1 μx h.1.1)) (rz_i h.2.2 (w_X11_octet a1 μx)) (tz_t (k_X12_octet a1 μm h.1.2.1.1) (w_X12_octet a1 μm))
theorem rc_op (a1 a2 a3 : Int32) (μx μm : Mem) (h : Rc μx μm) : ok (p_X11_op a1 a2 a3 μx) (fun q => ok (p_X12_op a1 a2 a3 μm) (fun z => Rc q.2 z.2)) := rc_of h (rb_op a1 a2 a3 μx μm h.1) (ok_imp (fun q e => by have e : μx = q.2 := e; rw [← e]; exact fun _ => rfl) (k_X11_op a1 a2 a3 μx h.1.1)) (rz_i h.2.2 (w_X11_op a1 a2 a3 μx)) (tz_t (k_X12_op a1 a2 a3 μm h.1.2.1.1) (w_X12_op a1 a2 a3 μm))
theorem rc_specialise (μx μm : Mem) (h : Rc μx μm) : ok (p_X11_specialise μx) (fun q => ok (p_X12_specialise μm) (fun z => Rc q.2 z.2)) := rc_of h (rb_specialise μx μm h.1) (ok_imp (fun q h => fr_t h.2 (by decide +kernel)) (k_X11_specialise μx h.1.1)) (rz_i h.2.2 (w_X11_specialise μx)) (tz_t (k_specialiseW h.1.2.1) (w_X12_specialise μm))
theorem rc_run (a1 a2 : Int32) (μx μm : Mem) (h : Rc μx μm) : ok (p_X11_run a1 a2 μx) (fun q => ok (p_X12_run a1 a2 μm) (fun z => Rc q.2 z.2)) := rc_of h (rb_run a1 a2 μx μm h.1) (ok_imp (fun q h => fr_t h.2 (by decide +kernel)) (k_X11_run a1 a2 μx h.1.1)) (rz_i h.2.2 (w_X11_run a1 a2 μx)) (tz_t (k_run h.1.2.1 a1 a2) (w_X12_run a1 a2 μm))
theorem rc_value (μx μm : Mem) (h : Rc μx μm) : ok (p_X11_value μx) (fun q => ok (p_X12_value μm) (fun z => Rc q.2 z.2)) := rc_of h (rb_value μx μm h.1) (ok_imp (fun q h => fr_t h.2 (by decide +kernel)) (k_X11_value μx h.1.1)) (rz_i h.2.2 (w_X11_value μx)) (tz_t (k_value h.1.2.1) (w_X12_value μm))
theorem rc_agree (μx μm : Mem) (h : Rc μx μm) : ok (p_X11_agree μx) (fun q => ok (p_X12_agree μm) (fun z => Rc q.2 z.2)) := rc_of h (rb_agree μx μm h.1) (ok_imp (fun q h => fr_t h.2 (by decide +kernel)) (k_X11_agree μx h.1.1)) (rz_i h.2.2 (w_X11_agree μx)) (tz_t (k_agree h.1.2.1) (w_X12_agree μm))
theorem rc_saved (μx μm : Mem) (h : Rc μx μm) : ok (p_X11_saved μx) (fun q => ok (p_X12_saved μm) (fun z => Rc q.2 z.2)) := rc_of h (rb_saved μx μm h.1) (ok_imp (fun q h => fr_t h.2 (by decide +kernel)) (k_X11_saved μx h.1.1)) (rz_i h.2.2 (w_X11_saved μx)) (tz_t (k_saved h.1.2.1) (w_X12_saved μm))
theorem rc_write (a1 : Int32) (μx μm : Mem) (h : Rc μx μm) : ok (p_X11_write a1 μx) (fun q => ok (p_X12_write a1 μm) (fun z => Rc q.2 z.2)) := rc_of h (rb_k h.1 (ok_imp (fun q h => ⟨h.1, h.2.1 0 1 (by decide +kernel)⟩) (k_X11_write a1 μx h.1.1)) (k_write h.1.2.1 a1)) (ok_imp (fun q h => fr_t h.2 (by decide +kernel)) (k_X11_write a1 μx h.1.1)) (rz_i h.2.2 (w_X11_write a1 μx)) (tz_t (k_write h.1.2.1 a1) (w_X12_write a1 μm))
