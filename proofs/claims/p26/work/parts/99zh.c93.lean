/-! ===== the changes keep what holds of rows, and the class's data agree with them ===== -/
theorem inv_stc {t : Nat} {e e' : Nat → Int32} (hi : s_inv t e) (hst : s_stc e e') (h1 : ∃ l, l ≤ 40 ∧ e' 1 = nI l) (h8 : ∃ l, l ≤ 40 ∧ e' 8 = nI l) (hc : ∀ j, j < s_cm e → s_colok e' j) (hu : ∀ k, 275 ≤ k → e' k = e k) (hv : s_vals e') : s_inv t e' := by
  obtain ⟨hwf, hcst, -, hs⟩ := hi
  have hs6 := hwf.smE.2
  refine ⟨⟨⟨?_, h1, ?_, h8⟩, fun j hj => hc j (by rw [hst.cm]; exact hj), fun s hs' => ?_, fun s hs' => ?_⟩, ?_, hv, fun s hs' => ?_⟩
  · rw [← hst 0 (by omega)]; exact hwf.cm
  · rw [← hst 2 (by omega)]; exact hwf.sm
  · rw [← hst.sm] at hs'
    obtain ⟨⟨f, g, g1, g2, g3, g4⟩, f1, f2⟩ := hwf.st s hs'
    refine ⟨⟨f, g, g1, g2, (hu _ (by omega)).trans g3, (hu _ (by omega)).trans g4⟩, hst.fok (by omega) f1, ?_⟩
    rw [← hst.from s (by omega), ← hst.to s (by omega)]
    exact fun k k1 k2 k3 => hst.ok (f2 k k1 k2 ((hst.cod k 0).trans k3))
  · rw [← hst.sm] at hs'
    exact s_kpok_of (hu _ (by omega)).symm hst.cm.symm (hwf.kp s hs')
  · unfold s_cst
    rw [← hst 4 (by omega), ← hst 5 (by omega), ← hst 6 (by omega)]
    exact hcst
  · rw [← hst.sm] at hs'
    obtain ⟨q1, ⟨a, a1, a2⟩, ⟨b, b1, b2⟩, ⟨d, d1, d2⟩, h4⟩ := hs s hs'
    refine ⟨q1.of (fun x hx => hu _ (by omega)), ⟨a, a1, (hu _ (by omega)).trans a2⟩, ⟨b, b1, (hu _ (by omega)).trans b2⟩, ⟨d, d1, (hu _ (by omega)).trans d2⟩, fun j hj => ?_⟩
    obtain ⟨f, f1, f2⟩ := h4 j hj
    exact ⟨f, f1, (hu _ (by omega)).trans f2⟩
theorem s_colok_of {e e' : Nat → Int32} {j : Nat} (h8 : e' 8 = e 8) (h : ∀ x, 8 ≤ x → x ≤ 12 → e' (10 + 13 * j + x) = e (10 + 13 * j + x)) (hc : s_colok e j) : s_colok e' j := by
  obtain ⟨h1, h2, ⟨u, u1, u2, u3⟩, a, b, b1, b2, b3, b4⟩ := hc
  refine ⟨?_, ?_, ⟨u, u1, (h 10 (by omega) (by omega)).trans u2, fun q => u3 (by rw [← h8]; exact q)⟩, a, b, b1, b2, (h 11 (by omega) (by omega)).trans b3, (h 12 (by omega) (by omega)).trans b4⟩
  · unfold s_col; rw [h 8 (by omega) (by omega)]; exact h1
  · unfold s_col; rw [h 9 (by omega) (by omega)]; exact h2
/-- rows that differ in their values and in how many there are -/
theorem inv_row {t : Nat} {e e' : Nat → Int32} (hi : s_inv t e) (h : ∀ k, k ≠ 1 → (k < 75 ∨ 275 ≤ k) → e' k = e k) (h1 : ∃ l, l ≤ 40 ∧ e' 1 = nI l) (hv : s_vals e') : s_inv t e' := by
  have hm5 := hi.1.cmE.2
  refine inv_stc hi (fun k hk => (h k (by omega) (by omega)).symm) h1 ?_ (fun j hj => s_colok_of (h 8 (by omega) (by omega)) (fun x x1 x2 => h _ (by omega) (by omega)) (hi.1.col j hj)) (fun k hk => h k (by omega) (by omega)) hv
  rw [h 8 (by omega) (by omega)]
  exact hi.1.seen
theorem s_icell_v {e : Nat → Int32} {j : Nat} {v : Int32} (h : s_icell e j v) (hj : j < s_cm e) : ∃ n, n ≤ 9999 ∧ v = nI n := by
  rcases h with ⟨-, h1, h2⟩ | ⟨h1, -⟩
  · exact m_rngc (m := 9999) (show (9999 : Int32) = nI 9999 from rfl) (by decide) ⟨h1, Int32.le_trans h2 (s_most_le _)⟩
  · exact absurd hj h1
theorem s_ins_o {e : Nat → Int32} {a b c d f : Int32} {k : Nat} (h1 : k ≠ 1) (h : k < 75 + 5 * s_lm e ∨ 75 + 5 * s_lm e + 5 ≤ k) : s_ins e a b c d f k = e k := by
  unfold s_ins
  rw [updI_ne h1, updI_ne (by omega), updI_ne (by omega), updI_ne (by omega), updI_ne (by omega), updI_ne (by omega)]
theorem s_ins_v {e : Nat → Int32} {a b c d f : Int32} : s_ins e a b c d f (75 + 5 * s_lm e + 0) = a ∧ s_ins e a b c d f (75 + 5 * s_lm e + 1) = b ∧ s_ins e a b c d f (75 + 5 * s_lm e + 2) = c ∧ s_ins e a b c d f (75 + 5 * s_lm e + 3) = d ∧ s_ins e a b c d f (75 + 5 * s_lm e + 4) = f := by
  unfold s_ins
  refine ⟨?_, ?_, ?_, ?_, ?_⟩
  · rw [updI_ne (by omega), updI_ne (by omega), updI_ne (by omega), updI_ne (by omega), updI_ne (by omega), updI_eq]
  · rw [updI_ne (by omega), updI_ne (by omega), updI_ne (by omega), updI_ne (by omega), updI_eq]
  · rw [updI_ne (by omega), updI_ne (by omega), updI_ne (by omega), updI_eq]
  · rw [updI_ne (by omega), updI_ne (by omega), updI_eq]
  · rw [updI_ne (by omega), updI_eq]
theorem s_cm_of {e e' : Nat → Int32} (h : e' 0 = e 0) : s_cm e' = s_cm e := by unfold s_cm; rw [h]
theorem s_ins_inv {t : Nat} {e : Nat → Int32} {a b c d f : Int32} (hi : s_inv t e) (hl : s_lm e < 40) (h : s_icells e a b c d f) : s_inv t (s_ins e a b c d f) := by
  have hm5 := hi.1.cmE.2
  have e1 : s_ins e a b c d f 1 = nI (s_lm e + 1) := by
    show upd _ 1 (e 1 + 1) 1 = _
    rw [updI_eq, hi.1.lmE.1]
    exact nI_add _ 1
  have el : s_lm (s_ins e a b c d f) = s_lm e + 1 := n_of e1 (by omega)
  have em : s_cm (s_ins e a b c d f) = s_cm e := s_cm_of (s_ins_o (by omega) (by omega))
  refine inv_row hi (fun k k1 k2 => s_ins_o k1 (by omega)) ⟨_, by omega, e1⟩ (fun x hx j hj => ?_)
  rw [el] at hx
  rw [em] at hj
  by_cases ex : x = s_lm e
  · rw [ex]
    obtain ⟨v0, v1, v2, v3, v4⟩ := s_ins_v (e := e) (a := a) (b := b) (c := c) (d := d) (f := f)
    obtain ⟨h0, h1, h2, h3, h4⟩ := h
    rcases (show j = 0 ∨ j = 1 ∨ j = 2 ∨ j = 3 ∨ j = 4 by omega) with q | q | q | q | q
    · subst q; rw [v0]; exact s_icell_v h0 hj
    · subst q; rw [v1]; exact s_icell_v h1 hj
    · subst q; rw [v2]; exact s_icell_v h2 hj
    · subst q; rw [v3]; exact s_icell_v h3 hj
    · subst q; rw [v4]; exact s_icell_v h4 hj
  · rw [s_ins_o (by omega) (by omega)]
    exact hi.2.2.1 x (by omega) j hj
/-- delete -/
theorem s_del_o {e : Nat → Int32} {x k : Nat} (h1 : k ≠ 1) (hx : x < s_lm e) (hl : s_lm e ≤ 40) (h : k < 75 ∨ 275 ≤ k) : s_del e x k = e k := by
  unfold s_del s_shift
  rw [if_neg (by omega), updI_ne h1]
theorem s_del_1 {e : Nat → Int32} {x : Nat} : s_del e x 1 = nI (s_lm e - 1) := by
  unfold s_del s_shift
  rw [if_neg (by omega), updI_eq]
theorem s_del_v {e : Nat → Int32} {x a b : Nat} (hx : x < s_lm e) (ha : a < s_lm e - 1) (hb : b < 5) : s_del e x (75 + 5 * a + b) = if x ≤ a then e (75 + 5 * (a + 1) + b) else e (75 + 5 * a + b) := by
  unfold s_del s_shift
  by_cases h : x ≤ a
  · rw [if_pos h, if_pos (by omega), updI_ne (by omega)]
    exact congrArg e (by omega)
  · rw [if_neg h, if_neg (by omega), updI_ne (by omega)]
theorem s_del_inv {t : Nat} {e : Nat → Int32} {x : Nat} (hi : s_inv t e) (hx : x < s_lm e) : s_inv t (s_del e x) := by
  have hm5 := hi.1.cmE.2
  have hl4 := hi.1.lmE.2
  have el : s_lm (s_del e x) = s_lm e - 1 := n_of s_del_1 (by omega)
  have em : s_cm (s_del e x) = s_cm e := s_cm_of (s_del_o (by omega) hx hl4 (by omega))
  refine inv_row hi (fun k k1 k2 => s_del_o k1 hx hl4 k2) ⟨_, by omega, s_del_1⟩ (fun a ha j hj => ?_)
  rw [el] at ha
  rw [em] at hj
  rw [s_del_v hx ha (by omega)]
  by_cases h : x ≤ a
  · rw [if_pos h]; exact hi.2.2.1 (a + 1) (by omega) j hj
  · rw [if_neg h]; exact hi.2.2.1 a (by omega) j hj
/-- analyze -/
theorem s_ana_inv {t : Nat} {e : Nat → Int32} (hi : s_inv t e) : s_inv t (s_ana e) := by
  have hm5 := hi.1.cmE.2
  have hl4 := hi.1.lmE.2
  have hag := s_look_ag (c := e) (q := s_lm e) (s_cm e) hm5
  have ho : ∀ k, k ≠ 3 → (k < 8 ∨ 75 ≤ k) → s_ana e k = e k := fun k k3 hk => (updI_ne k3).trans (hag k hk).symm
  have el : s_lm (s_ana e) = s_lm e := by unfold s_lm; rw [ho 1 (by omega) (by omega)]
  have em : s_cm (s_ana e) = s_cm e := s_cm_of (ho 0 (by omega) (by omega))
  have hst : s_stc e (s_ana e) := s_stc_upd (s_ldd_stc hm5) (by omega)
  refine inv_stc hi hst ?_ ?_ (fun j hj => ?_) (fun k hk => ho k (by omega) (by omega)) (fun a ha b hb => ?_)
  · rw [ho 1 (by omega) (by omega)]; exact hi.1.lm
  · refine ⟨s_lm e, hl4, (updI_ne (by omega)).trans ((s_look_8 _).trans hi.1.lmE.1)⟩
  · have h1 := hi.1.col j hj
    exact s_colok_of (e := s_look e (s_lm e) (s_cm e)) (updI_ne (by omega)) (fun x x1 x2 => updI_ne (by omega)) (s_look_col hi.1.lmE.1 hl4 hm5 (fun l hl b hb => hi.2.2.1 l hl b hb) hj h1.1 h1.2.1)
  · rw [el] at ha
    rw [em] at hb
    rw [ho _ (by omega) (by omega)]
    exact hi.2.2.1 a ha b hb
