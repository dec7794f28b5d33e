/-! ===== the changes keep what holds of rows, and the class's data agree with them ===== -/
theorem inv_stc {t : Nat} {e e' : Nat → Int32} (hi : s_inv t e) (hst : s_stc e e') (h1 : ∃ l, l ≤ 40 ∧ e' 1 = nI l) (h8 : ∃ l, l ≤ 40 ∧ e' 8 = nI l) (hc : ∀ j, j < s_cm e → s_colok e' j) (hu : ∀ k, 275 ≤ k → e' k = e k) (hv : s_vals e') : s_inv t e' := by
  obtain ⟨hwf, hcst, -, hs⟩ := hi
  have hs6 := hwf.smE.2
  refine ⟨⟨⟨?_, h1, ?_, h8⟩, fun j hj => hc j (by rw [hst.cm]; exact hj), fun s hs' => ?_, fun s hs' => ?_⟩, ?_, hv, fun s hs' => ?_⟩
  · rw [← hst 0 (by omega)]; exact hwf.cm
  · rw [← hst 2 (by omega)]; exact hwf.sm
  · rw [← hst.sm] at hs'
    obtain ⟨⟨f, g, g1, g2, g3, g4⟩, f1, f2⟩ := hwf.st s hs'
    refine ⟨⟨f, g, g1, g2, (hu _ (by omega)).trans g3, (hu _ (by omega)).trans g4⟩, hst.fok (by omega) f1, ?_⟩
    rw [← hst.from s (by omega), ← hst.to s (by omega)]
    exact fun k k1 k2 k3 => hst.ok (f2 k k1 k2 ((hst.cod k 0).trans k3))
  · rw [← hst.sm] at hs'
    exact s_kpok_of (hu _ (by omega)).symm hst.cm.symm (hwf.kp s hs')
  · unfold s_cst
    rw [← hst 4 (by omega), ← hst 5 (by omega), ← hst 6 (by omega)]
    exact hcst
  · rw [← hst.sm] at hs'
    obtain ⟨q1, ⟨a, a1, a2⟩, ⟨b, b1, b2⟩, ⟨d, d1, d2⟩, h4⟩ := hs s hs'
    refine ⟨q1.of (fun x hx => hu _ (by omega)), ⟨a, a1, (hu _ (by omega)).trans a2⟩, ⟨b, b1, (hu _ (by omega)).trans b2⟩, ⟨d, d1, (hu _ (by omega)).trans d2⟩, fun j hj => ?_⟩
    obtain ⟨f, f1, f2⟩ := h4 j hj
    exact ⟨f, f1, (hu _ (by omega)).trans f2⟩
theorem s_colok_of {e e' : Nat → Int32} {j : Nat} (h8 : e' 8 = e 8) (h : ∀ x, 8 ≤ x → x ≤ 12 → e' (10 + 13 * j + x) = e (10 + 13 * j + x)) (hc : s_colok e j) : s_colok e' j := by
  obtain ⟨h1, h2, ⟨u, u1, u2, u3⟩, a, b, b1, b2, b3, b4⟩ := hc
  refine ⟨?_, ?_, ⟨u, u1, (h 10 (by omega) (by omega)).trans u2, fun q => u3 (by rw [← h8]; exact q)⟩, a, b, b1, b2, (h 11 (by omega) (by omega)).trans b3, (h 12 (by omega) (by omega)).trans b4⟩
  · unfold s_col; rw [h 8 (by omega) (by omega)]; exact h1
  · unfold s_col; rw [h 9 (by omega) (by omega)]; exact h2
/-- rows that differ in their values and in how many there are -/
theorem inv_row {t : Nat} {e e' : Nat → Int32} (hi : s_inv t e) (h : ∀ k, k ≠ 1 → (k < 75 ∨ 275 ≤ k) → e' k = e k) (h1 : ∃ l, l ≤ 40 ∧ e' 1 = nI l) (hv : s_vals e') : s_inv t e' := by
  have hm5 := hi.1.cmE.2
  refine inv_stc hi (fun k hk => (h k (by omega) (by omega)).symm) h1 ?_ (fun j hj => s_colok_of (h 8 (by omega) (by omega)) (fun x x1 x2 => h _ (by omega) (by omega)) (hi.1.col j hj)) (fun k hk => h k (by omega) (by omega)) hv
  rw [h 8 (by omega) (by omega)]
  exact hi.1.seen
theorem s_icell_v {e : Nat → Int32} {j : Nat} {v : Int32} (h : s_icell e j v) (hj : j < s_cm e) : ∃ n, n ≤ 9999 ∧ v = nI n := by
  rcases h with ⟨-, h1, h2⟩ | ⟨h1, -⟩
  · exact m_rngc (m := 9999) (show (9999 : Int32) = nI 9999 from rfl) (by decide) ⟨h1, Int32.le_trans h2 (s_most_le _)⟩
  · exact absurd hj h1
theorem s_ins_o {e : Nat → Int32} {a b c d f : Int32} {k : Nat} (h1 : k ≠ 1) (h : k < 75 + 5 * s_lm e ∨ 75 + 5 * s_lm e + 5 ≤ k) : s_ins e a b c d f k = e k := by
  unfold s_ins
  rw [updI_ne h1, updI_ne (by omega), updI_ne (by omega), updI_ne (by omega), updI_ne (by omega), updI_ne (by omega)]
theorem s_ins_v {e : Nat → Int32} {a b c d f : Int32} : s_ins e a b c d f (75 + 5 * s_lm e + 0) = a ∧ s_ins e a b c d f (75 + 5 * s_lm e + 1) = b ∧ s_ins e a b c d f (75 + 5 * s_lm e + 2) = c ∧ s_ins e a b c d f (75 + 5 * s_lm e + 3) = d ∧ s_ins e a b c d f (75 + 5 * s_lm e + 4) = f := by
  unfold s_ins
  refine ⟨?_, ?_, ?_, ?_, ?_⟩
  · rw [updI_ne (by omega), updI_ne (by omega), updI_ne (by omega), updI_ne (by omega), updI_ne (by omega), updI_eq]
  · rw [updI_ne (by omega), updI_ne (by omega), updI_ne (by omega), updI_ne (by omega), updI_eq]
  · rw [updI_ne (by omega), updI_ne (by omega), updI_ne (by omega), updI_eq]
  · rw [updI_ne (by omega), updI_ne (by omega), updI_eq]
  · rw [updI_ne (by omega), updI_eq]
theorem s_insc_o {e : Nat → Int32} {a b c d f : Int32} {k l : Nat} (h1 : k ≠ 1) (h : k < 75 + 5 * l ∨ 75 + 5 * l + 5 ≤ k) : s_insc e l a b c d f k = e k := by
  unfold s_insc s_in5
  rw [updI_ne h1, updI_ne (by omega), updI_ne (by omega), updI_ne (by omega), updI_ne (by omega), updI_ne (by omega)]
theorem s_insc_v {e : Nat → Int32} {a b c d f : Int32} {l : Nat} : s_insc e l a b c d f (75 + 5 * l + 0) = a ∧ s_insc e l a b c d f (75 + 5 * l + 1) = b ∧ s_insc e l a b c d f (75 + 5 * l + 2) = c ∧ s_insc e l a b c d f (75 + 5 * l + 3) = d ∧ s_insc e l a b c d f (75 + 5 * l + 4) = f := by
  unfold s_insc s_in5
  refine ⟨?_, ?_, ?_, ?_, ?_⟩
  · rw [updI_ne (by omega), updI_ne (by omega), updI_ne (by omega), updI_ne (by omega), updI_ne (by omega), updI_eq]
  · rw [updI_ne (by omega), updI_ne (by omega), updI_ne (by omega), updI_ne (by omega), updI_eq]
  · rw [updI_ne (by omega), updI_ne (by omega), updI_ne (by omega), updI_eq]
  · rw [updI_ne (by omega), updI_ne (by omega), updI_eq]
  · rw [updI_ne (by omega), updI_eq]
theorem s_cm_of {e e' : Nat → Int32} (h : e' 0 = e 0) : s_cm e' = s_cm e := by unfold s_cm; rw [h]
theorem s_sm_of {e e' : Nat → Int32} (h : e' 2 = e 2) : s_sm e' = s_sm e := by unfold s_sm; rw [h]
theorem s_ins_inv {t : Nat} {e : Nat → Int32} {a b c d f : Int32} (hi : s_inv t e) (hl : s_lm e < 40) (h : s_icells e a b c d f) : s_inv t (s_ins e a b c d f) := by
  have hm5 := hi.1.cmE.2
  have e1 : s_ins e a b c d f 1 = nI (s_lm e + 1) := by
    show upd _ 1 (e 1 + 1) 1 = _
    rw [updI_eq, hi.1.lmE.1]
    exact nI_add _ 1
  have el : s_lm (s_ins e a b c d f) = s_lm e + 1 := n_of e1 (by omega)
  have em : s_cm (s_ins e a b c d f) = s_cm e := s_cm_of (s_ins_o (by omega) (by omega))
  refine inv_row hi (fun k k1 k2 => s_ins_o k1 (by omega)) ⟨_, by omega, e1⟩ (fun x hx j hj => ?_)
  rw [el] at hx
  rw [em] at hj
  by_cases ex : x = s_lm e
  · rw [ex]
    obtain ⟨v0, v1, v2, v3, v4⟩ := s_ins_v (e := e) (a := a) (b := b) (c := c) (d := d) (f := f)
    obtain ⟨h0, h1, h2, h3, h4⟩ := h
    rcases (show j = 0 ∨ j = 1 ∨ j = 2 ∨ j = 3 ∨ j = 4 by omega) with q | q | q | q | q
    · subst q; rw [v0]; exact s_icell_v h0 hj
    · subst q; rw [v1]; exact s_icell_v h1 hj
    · subst q; rw [v2]; exact s_icell_v h2 hj
    · subst q; rw [v3]; exact s_icell_v h3 hj
    · subst q; rw [v4]; exact s_icell_v h4 hj
  · rw [s_ins_o (by omega) (by omega)]
    exact hi.2.2.1 x (by omega) j hj
theorem s_ins_rel {t : Nat} {e k : Nat → Int32} {a b c d f : Int32} (hi : s_inv t e) (hl : s_lm e < 40) (hr : s_rel e k) : s_rel (s_ins e a b c d f) (s_insc k (s_lm e) a b c d f) := by
  have hm5 := hi.1.cmE.2
  have hs6 := hi.1.smE.2
  obtain ⟨⟨r1, r3, r8⟩, rc, rv, rs⟩ := hr
  have e1 : s_ins e a b c d f 1 = nI (s_lm e + 1) := by
    show upd _ 1 (e 1 + 1) 1 = _
    rw [updI_eq, hi.1.lmE.1]
    exact nI_add _ 1
  have el : s_lm (s_ins e a b c d f) = s_lm e + 1 := n_of e1 (by omega)
  have em : s_cm (s_ins e a b c d f) = s_cm e := s_cm_of (s_ins_o (by omega) (by omega))
  have es : s_sm (s_ins e a b c d f) = s_sm e := s_sm_of (s_ins_o (by omega) (by omega))
  refine ⟨⟨?_, ?_, ?_⟩, fun j hj x x1 x2 => ?_, fun x hx j hj => ?_, fun s hs x hx => ?_⟩
  · rw [e1]
    show _ = upd _ 1 (nI (s_lm e) + 1) 1
    rw [updI_eq]
    exact (nI_add _ 1).symm
  · rw [s_ins_o (by omega) (by omega), s_insc_o (by omega) (by omega)]; exact r3
  · rw [s_ins_o (by omega) (by omega), s_insc_o (by omega) (by omega)]; exact r8
  · rw [em] at hj
    show s_ins e a b c d f (10 + 13 * j + x) = s_insc k (s_lm e) a b c d f (10 + 13 * j + x)
    rw [s_ins_o (by omega) (by omega), s_insc_o (by omega) (by omega)]
    exact rc j hj x x1 x2
  · rw [el] at hx
    rw [em] at hj
    show s_ins e a b c d f (75 + 5 * x + j) = s_insc k (s_lm e) a b c d f (75 + 5 * x + j)
    by_cases ex : x = s_lm e
    · rw [ex]
      obtain ⟨v0, v1, v2, v3, v4⟩ := s_ins_v (e := e) (a := a) (b := b) (c := c) (d := d) (f := f)
      obtain ⟨w0, w1, w2, w3, w4⟩ := s_insc_v (e := k) (l := s_lm e) (a := a) (b := b) (c := c) (d := d) (f := f)
      rcases (show j = 0 ∨ j = 1 ∨ j = 2 ∨ j = 3 ∨ j = 4 by omega) with q | q | q | q | q
      · subst q; exact v0.trans w0.symm
      · subst q; exact v1.trans w1.symm
      · subst q; exact v2.trans w2.symm
      · subst q; exact v3.trans w3.symm
      · subst q; exact v4.trans w4.symm
    · rw [s_ins_o (by omega) (by omega), s_insc_o (by omega) (by omega)]
      exact rv x (by omega) j hj
  · rw [es] at hs
    show s_ins e a b c d f (275 + 30 * s + x) = s_insc k (s_lm e) a b c d f (275 + 30 * s + x)
    rw [s_ins_o (by omega) (by omega), s_insc_o (by omega) (by omega)]
    exact rs s hs x hx
/-- delete -/
theorem s_del_o {e : Nat → Int32} {x k : Nat} (h1 : k ≠ 1) (hx : x < s_lm e) (hl : s_lm e ≤ 40) (h : k < 75 ∨ 275 ≤ k) : s_del e x k = e k := by
  unfold s_del s_shift
  rw [if_neg (by omega), updI_ne h1]
theorem s_del_1 {e : Nat → Int32} {x : Nat} : s_del e x 1 = nI (s_lm e - 1) := by
  unfold s_del s_shift
  rw [if_neg (by omega), updI_eq]
theorem s_del_v {e : Nat → Int32} {x a b : Nat} (hx : x < s_lm e) (ha : a < s_lm e - 1) (hb : b < 5) : s_del e x (75 + 5 * a + b) = if x ≤ a then e (75 + 5 * (a + 1) + b) else e (75 + 5 * a + b) := by
  unfold s_del s_shift
  by_cases h : x ≤ a
  · rw [if_pos h, if_pos (by omega), updI_ne (by omega)]
    exact congrArg e (by omega)
  · rw [if_neg h, if_neg (by omega), updI_ne (by omega)]
def s_delc (c : Nat → Int32) (x l : Nat) : Nat → Int32 := upd (s_rmv c (75 + 5 * x) (5 * (l - 1 - x))) 1 (nI (l - 1))
theorem s_delc_o {c : Nat → Int32} {x k l : Nat} (h1 : k ≠ 1) (hx : x < l) (hl : l ≤ 40) (h : k < 75 ∨ 275 ≤ k) : s_delc c x l k = c k := by
  unfold s_delc
  rw [updI_ne h1, s_rmv_shift]
  unfold s_shift
  rw [if_neg (by omega)]
theorem s_delc_1 {c : Nat → Int32} {x l : Nat} : s_delc c x l 1 = nI (l - 1) := by
  unfold s_delc
  rw [updI_eq]
theorem s_delc_v {c : Nat → Int32} {x l a b : Nat} (hx : x < l) (ha : a < l - 1) (hb : b < 5) : s_delc c x l (75 + 5 * a + b) = if x ≤ a then c (75 + 5 * (a + 1) + b) else c (75 + 5 * a + b) := by
  unfold s_delc
  rw [updI_ne (by omega), s_rmv_shift]
  unfold s_shift
  by_cases h : x ≤ a
  · rw [if_pos h, if_pos (by omega)]
    exact congrArg c (by omega)
  · rw [if_neg h, if_neg (by omega)]
theorem s_del_inv {t : Nat} {e : Nat → Int32} {x : Nat} (hi : s_inv t e) (hx : x < s_lm e) : s_inv t (s_del e x) := by
  have hm5 := hi.1.cmE.2
  have hl4 := hi.1.lmE.2
  have el : s_lm (s_del e x) = s_lm e - 1 := n_of s_del_1 (by omega)
  have em : s_cm (s_del e x) = s_cm e := s_cm_of (s_del_o (by omega) hx hl4 (by omega))
  refine inv_row hi (fun k k1 k2 => s_del_o k1 hx hl4 k2) ⟨_, by omega, s_del_1⟩ (fun a ha j hj => ?_)
  rw [el] at ha
  rw [em] at hj
  rw [s_del_v hx ha (by omega)]
  by_cases h : x ≤ a
  · rw [if_pos h]; exact hi.2.2.1 (a + 1) (by omega) j hj
  · rw [if_neg h]; exact hi.2.2.1 a (by omega) j hj
theorem s_del_rel {t : Nat} {e k : Nat → Int32} {x : Nat} (hi : s_inv t e) (hx : x < s_lm e) (hr : s_rel e k) : s_rel (s_del e x) (s_delc k x (s_lm e)) := by
  have hm5 := hi.1.cmE.2
  have hl4 := hi.1.lmE.2
  have hs6 := hi.1.smE.2
  obtain ⟨⟨r1, r3, r8⟩, rc, rv, rs⟩ := hr
  have el : s_lm (s_del e x) = s_lm e - 1 := n_of s_del_1 (by omega)
  have em : s_cm (s_del e x) = s_cm e := s_cm_of (s_del_o (by omega) hx hl4 (by omega))
  have es : s_sm (s_del e x) = s_sm e := s_sm_of (s_del_o (by omega) hx hl4 (by omega))
  refine ⟨⟨s_del_1.trans s_delc_1.symm, ?_, ?_⟩, fun j hj y y1 y2 => ?_, fun a ha j hj => ?_, fun s hs y hy => ?_⟩
  · rw [s_del_o (by omega) hx hl4 (by omega), s_delc_o (by omega) hx hl4 (by omega)]; exact r3
  · rw [s_del_o (by omega) hx hl4 (by omega), s_delc_o (by omega) hx hl4 (by omega)]; exact r8
  · rw [em] at hj
    show s_del e x (10 + 13 * j + y) = s_delc k x (s_lm e) (10 + 13 * j + y)
    rw [s_del_o (by omega) hx hl4 (by omega), s_delc_o (by omega) hx hl4 (by omega)]
    exact rc j hj y y1 y2
  · rw [el] at ha
    rw [em] at hj
    show s_del e x (75 + 5 * a + j) = s_delc k x (s_lm e) (75 + 5 * a + j)
    rw [s_del_v hx ha (by omega), s_delc_v hx ha (by omega)]
    by_cases h : x ≤ a
    · rw [if_pos h, if_pos h]; exact rv (a + 1) (by omega) j hj
    · rw [if_neg h, if_neg h]; exact rv a (by omega) j hj
  · rw [es] at hs
    show s_del e x (275 + 30 * s + y) = s_delc k x (s_lm e) (275 + 30 * s + y)
    rw [s_del_o (by omega) hx hl4 (by omega), s_delc_o (by omega) hx hl4 (by omega)]
    exact rs s hs y hy
/-- analyze -/
theorem s_ana_inv {t : Nat} {e : Nat → Int32} (hi : s_inv t e) : s_inv t (s_ana e) := by
  have hm5 := hi.1.cmE.2
  have hl4 := hi.1.lmE.2
  have hag := s_look_ag (c := e) (q := s_lm e) (s_cm e) hm5
  have ho : ∀ k, k ≠ 3 → (k < 8 ∨ 75 ≤ k) → s_ana e k = e k := fun k k3 hk => (updI_ne k3).trans (hag k hk).symm
  have el : s_lm (s_ana e) = s_lm e := by unfold s_lm; rw [ho 1 (by omega) (by omega)]
  have em : s_cm (s_ana e) = s_cm e := s_cm_of (ho 0 (by omega) (by omega))
  have hst : s_stc e (s_ana e) := s_stc_upd (s_ldd_stc hm5) (by omega)
  refine inv_stc hi hst ?_ ?_ (fun j hj => ?_) (fun k hk => ho k (by omega) (by omega)) (fun a ha b hb => ?_)
  · rw [ho 1 (by omega) (by omega)]; exact hi.1.lm
  · refine ⟨s_lm e, hl4, (updI_ne (by omega)).trans ((s_look_8 _).trans hi.1.lmE.1)⟩
  · have h1 := hi.1.col j hj
    exact s_colok_of (e := s_look e (s_lm e) (s_cm e)) (updI_ne (by omega)) (fun x x1 x2 => updI_ne (by omega)) (s_look_col hi.1.lmE.1 hl4 hm5 (fun l hl b hb => hi.2.2.1 l hl b hb) hj h1.1 h1.2.1)
  · rw [el] at ha
    rw [em] at hb
    rw [ho _ (by omega) (by omega)]
    exact hi.2.2.1 a ha b hb
theorem s_ana_rel {t : Nat} {e c : Nat → Int32} (hi : s_inv t e) (hr : s_rel e c) : s_rel (s_ana e) (upd (s_look c (s_lm e) (s_cm e)) 3 (c 3 + 1)) := by
  have hm5 := hi.1.cmE.2
  have hl4 := hi.1.lmE.2
  have hs6 := hi.1.smE.2
  obtain ⟨⟨r1, r3, r8⟩, rc, rv, rs⟩ := hr
  have hag := s_look_ag (c := e) (q := s_lm e) (s_cm e) hm5
  have hagc := s_look_ag (c := c) (q := s_lm e) (s_cm e) hm5
  have ho : ∀ k, k ≠ 3 → (k < 8 ∨ 75 ≤ k) → s_ana e k = e k := fun k k3 hk => (updI_ne k3).trans (hag k hk).symm
  have hoc : ∀ k, k ≠ 3 → (k < 8 ∨ 75 ≤ k) → upd (s_look c (s_lm e) (s_cm e)) 3 (c 3 + 1) k = c k := fun k k3 hk => (updI_ne k3).trans (hagc k hk).symm
  have el : s_lm (s_ana e) = s_lm e := by unfold s_lm; rw [ho 1 (by omega) (by omega)]
  have em : s_cm (s_ana e) = s_cm e := s_cm_of (ho 0 (by omega) (by omega))
  have es : s_sm (s_ana e) = s_sm e := s_sm_of (ho 2 (by omega) (by omega))
  have c1 : c 1 = nI (s_lm e) := r1.symm.trans hi.1.lmE.1
  refine ⟨⟨?_, ?_, ?_⟩, fun j hj x x1 x2 => ?_, fun a ha b hb => ?_, fun s hs y hy => ?_⟩
  · rw [ho 1 (by omega) (by omega), hoc 1 (by omega) (by omega)]; exact r1
  · show upd _ 3 (e 3 + 1) 3 = upd _ 3 (c 3 + 1) 3
    rw [updI_eq, updI_eq, r3]
  · show upd _ 3 _ 8 = upd _ 3 _ 8
    rw [updI_ne (by omega), updI_ne (by omega), s_look_8, s_look_8]
    exact r1
  · rw [em] at hj
    show upd _ 3 _ (10 + 13 * j + x) = upd _ 3 _ (10 + 13 * j + x)
    rw [updI_ne (by omega), updI_ne (by omega)]
    by_cases e9 : x = 9
    · subst e9
      rw [s_look_o (by omega) _ (fun i hi x x1 x2 => by omega), s_look_o (by omega) _ (fun i hi x x1 x2 => by omega)]
      exact rc j hj 9 (by omega) (by omega)
    · exact s_look_rel hi.1.lmE.1 c1 hl4 rv hj x (by omega) x2
  · rw [el] at ha
    rw [em] at hb
    show s_ana e (75 + 5 * a + b) = upd _ 3 _ (75 + 5 * a + b)
    rw [ho _ (by omega) (by omega), hoc _ (by omega) (by omega)]
    exact rv a ha b hb
  · rw [es] at hs
    show s_ana e (275 + 30 * s + y) = upd _ 3 _ (275 + 30 * s + y)
    rw [ho _ (by omega) (by omega), hoc _ (by omega) (by omega)]
    exact rs s hs y hy
/-- a run leaves the first numbers of the class's data -/
theorem s_exc_lo {e c gv : Nat → Int32} {s k : Nat} (hk : k < 275) : s_exc e c gv s k = c k := by
  have h2 : s_ex2 e c gv s k = c k := by
    unfold s_ex2
    by_cases h : s_keep e gv s
    · rw [if_pos h]; exact s_ckr_ne (by omega)
    · rw [if_neg h, updI_ne (by omega), updI_ne (by omega)]; exact s_ckr_ne (by omega)
  have ha : ∀ t, s_exa e c gv s t k = c k := fun t => by
    unfold s_exa
    rw [updI_ne (by omega)]
    exact h2
  have h3 : s_ex3 e c gv s k = c k := by
    unfold s_ex3
    by_cases h : s_exq e gv s = -1
    · rw [if_pos h]; exact ha _
    · rw [if_neg h]
      unfold s_exb
      rw [updI_ne (by omega)]
      exact ha _
  unfold s_exc
  rw [updI_ne (by omega)]
  exact h3

