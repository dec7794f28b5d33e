/-! ===== a run keeps what holds of rows ===== -/
theorem s_tch_b {c gv : Nat → Int32} {k : Nat} : ∀ n, ∃ a, a ≤ n ∧ s_tch c gv k n = nI a
  | 0 => ⟨0, Nat.le_refl _, rfl⟩
  | n + 1 => by
    obtain ⟨a, a1, a2⟩ := s_tch_b (c := c) (gv := gv) (k := k) n
    show ∃ b, b ≤ n + 1 ∧ s_tch c gv k n + (bif s_tru c gv k n then 1 else 0) = nI b
    rw [a2]
    cases s_tru c gv k n with
    | true => exact ⟨a + 1, by omega, nI_add a 1⟩
    | false => exact ⟨a, by omega, nI_add a 0⟩
theorem s_lrn_b {c gv : Nat → Int32} {s j k : Nat} {z : Bool} {a p q : Nat} (ha : a ≤ 40) (hp : p ≤ 1000) (hq : q ≤ 40) (h1 : s_st c s (21 + j) = nI p) (h2 : s_est c gv k z = nI q) : ∃ r, r ≤ 1000 ∧ s_lrn c gv s j k z (nI a) = nI r := by
  unfold s_lrn
  rw [h1, h2, show (1 : Int32) = nI 1 from rfl, y_maxN (by omega) (by omega), show (100 : Int32) = nI 100 from rfl, pk_mul]
  have hm : 1 ≤ (if 1 < q then q else 1) ∧ (if 1 < q then q else 1) ≤ 40 := by
    by_cases h : 1 < q
    · rw [if_pos h]; omega
    · rw [if_neg h]; omega
  generalize (if 1 < q then q else 1) = m at hm
  rw [pk_div (by omega) (by omega) (by omega), show (1000 : Int32) = nI 1000 from rfl]
  have hd : 100 * a / m ≤ 4000 := Nat.le_trans (Nat.div_le_self _ _) (by omega)
  rw [y_minN (by omega) (by omega)]
  have hx : (if 100 * a / m < 1000 then 100 * a / m else 1000) ≤ 1000 := by
    by_cases h : 100 * a / m < 1000
    · rw [if_pos h]; omega
    · rw [if_neg h]; omega
  generalize (if 100 * a / m < 1000 then 100 * a / m else 1000) = x at hx
  rw [show (3 : Int32) = nI 3 from rfl, pk_mul, nI_add, show (4 : Int32) = nI 4 from rfl, pk_div (by omega) (by omega) (by omega)]
  exact ⟨_, by omega, rfl⟩
theorem s_rplan_5 {c gv : Nat → Int32} {s : Nat} (hwf : s_wf c) (hs : s < s_sm c) : s_rplan c gv s = -1 ∨ ∃ j, j < 5 ∧ s_rplan c gv s = nI j := by
  have hm5 := hwf.cmE.2
  rcases s_rplan_ok (gv := gv) hwf hs with h | ⟨j, j1, j2⟩
  · exact Or.inl h
  · exact Or.inr ⟨j, by omega, j2⟩
theorem s_r1_unb {t : Nat} {c gv : Nat → Int32} {s : Nat} (hi : s_inv t c) (hs : s < s_sm c) : s_unb t (s_r1 c gv s) s := by
  unfold s_r1
  by_cases h : s_late c s
  · rw [if_pos h]; exact s_mkg_unb hi hs
  · rw [if_neg h]; exact (hi.2.2.2 s hs).2
theorem s_r3_unb {t : Nat} {c gv : Nat → Int32} {s : Nat} (hi : s_inv t c) (hs : s < s_sm c) : s_unb (t + 1) (s_r3 c gv s) s := by
  have h2 : s_unb (t + 1) (s_r2 c gv s) s := by
    unfold s_r2
    by_cases h : s_keep c gv s
    · rw [if_pos h]; exact s_unb_mono (by omega) (s_mkg_unb hi hs)
    · rw [if_neg h]
      obtain ⟨⟨a, a1, a2⟩, ⟨b, b1, b2⟩, ⟨d, d1, d2⟩, h4⟩ := s_r1_unb (gv := gv) hi hs
      have hpl : s_rplan c gv s = s_best c gv s (s_cm c) true := if_neg h
      obtain ⟨r, r1, r2⟩ := s_best_b (gv := gv) (z := true) hi hs
      refine ⟨⟨a + 1, by omega, ?_⟩, ⟨b + r, by omega, ?_⟩, ⟨d, d1, ?_⟩, fun j hj => ?_⟩
      · show upd _ _ _ _ = _
        rw [updI_ne (by omega), updI_eq, a2]
        exact nI_add a 1
      · show upd _ _ _ _ = _
        rw [updI_eq, b2, hpl, r2]
        exact nI_add b r
      · show upd _ _ _ _ = _
        rw [updI_ne (by omega), updI_ne (by omega)]
        exact d2
      · obtain ⟨f, f1, f2⟩ := h4 j hj
        refine ⟨f, f1, ?_⟩
        show upd _ _ _ _ = _
        rw [updI_ne (by omega), updI_ne (by omega)]
        exact f2
  obtain ⟨⟨a, a1, a2⟩, ⟨b, b1, b2⟩, ⟨d, d1, d2⟩, h4⟩ := h2
  unfold s_r3
  refine ⟨⟨a, a1, (updI_ne (by omega)).trans a2⟩, ⟨b, b1, (updI_ne (by omega)).trans b2⟩, ⟨d, d1, (updI_ne (by omega)).trans d2⟩, fun j hj => ?_⟩
  obtain ⟨f, f1, f2⟩ := h4 j hj
  exact ⟨f, f1, (updI_ne (by omega)).trans f2⟩
theorem s_unb_13 {t : Nat} {c : Nat → Int32} {s : Nat} {v : Int32} (h : s_unb t c s) : s_unb t (upd c (275 + 30 * s + 13) v) s := by
  obtain ⟨⟨a, a1, a2⟩, ⟨b, b1, b2⟩, ⟨d, d1, d2⟩, h4⟩ := h
  refine ⟨⟨a, a1, (updI_ne (by omega)).trans a2⟩, ⟨b, b1, (updI_ne (by omega)).trans b2⟩, ⟨d, d1, (updI_ne (by omega)).trans d2⟩, fun j hj => ?_⟩
  obtain ⟨f, f1, f2⟩ := h4 j hj
  exact ⟨f, f1, (updI_ne (by omega)).trans f2⟩
theorem s_unb_21 {t : Nat} {c : Nat → Int32} {s j r : Nat} (h : s_unb t c s) (hr : r ≤ 1000) : s_unb t (upd c (275 + 30 * s + (21 + j)) (nI r)) s := by
  obtain ⟨⟨a, a1, a2⟩, ⟨b, b1, b2⟩, ⟨d, d1, d2⟩, h4⟩ := h
  refine ⟨⟨a, a1, (updI_ne (by omega)).trans a2⟩, ⟨b, b1, (updI_ne (by omega)).trans b2⟩, ⟨d, d1, (updI_ne (by omega)).trans d2⟩, fun i hi => ?_⟩
  by_cases e : i = j
  · subst e
    exact ⟨r, hr, updI_eq⟩
  · obtain ⟨f, f1, f2⟩ := h4 i hi
    exact ⟨f, f1, (updI_ne (by omega)).trans f2⟩
theorem s_run_unb {t : Nat} {c gv : Nat → Int32} {s : Nat} (hi : s_inv t c) (hs : s < s_sm c) : s_unb (t + 1) (s_run c gv s) s := by
  have hwf := hi.1
  have hs6 : s < 6 := Nat.lt_of_lt_of_le hs hwf.smE.2
  have h3 := s_r3_unb (gv := gv) hi hs
  have w3 : s_wf (s_r3 c gv s) := s_r3_wf hwf hs
  have ag3 : s_agr c (s_r3 c gv s) := s_r3_agr hs6
  have hs3 : s < s_sm (s_r3 c gv s) := by rw [ag3.F.sm]; exact hs
  have hl3 := w3.lmE.2
  have hp := s_rplan_5 (gv := gv) hwf hs
  unfold s_run s_tou s_tou1
  generalize (!decide (s_keep c gv s)) = z
  by_cases e0 : s_rplan c gv s = -1
  · rw [if_pos e0, if_pos rfl]
    exact s_unb_13 h3
  · rw [if_neg e0]
    obtain ⟨j, hj, ej⟩ := hp.resolve_left e0
    have en : (s_rplan c gv s).toNatClampNeg = j := n_of ej (by omega)
    by_cases e1 : s_chosen (s_r3 c gv s) gv s (s_rplan c gv s) z = -1
    · rw [if_pos e1]
      exact s_unb_13 h3
    · rw [if_neg e1, en]
      obtain ⟨k, k1, k2⟩ := (s_chosen_ok (gv := gv) (col := s_rplan c gv s) (z := z) (w3.kok hs3)).resolve_left e1
      have hk325 := (s_kok_ft (w3.kok hs3)).2.1
      have ek : (s_chosen (s_r3 c gv s) gv s (s_rplan c gv s) z).toNatClampNeg = k := n_of k2 (by omega)
      rw [ek]
      obtain ⟨q, q1, q2⟩ := s_est_b (gv := gv) (z := z) w3 ((w3.st s hs3).2.2 k k1.1 k1.2.1 k1.2.2.1)
      obtain ⟨a, a1, a2⟩ := s_tch_b (c := s_r3 c gv s) (gv := gv) (k := k) (s_lm (s_r3 c gv s))
      obtain ⟨p, p1, p2⟩ := h3.2.2.2 j hj
      obtain ⟨r, r1, r2⟩ := s_lrn_b (c := s_r3 c gv s) (gv := gv) (s := s) (j := j) (k := k) (z := z) (a := a) (by omega) p1 q1 p2 q2
      rw [a2, r2]
      exact s_unb_21 (s_unb_13 h3) r1
theorem s_run_inv {t : Nat} {c d gv : Nat → Int32} {s : Nat} (hi : s_inv t c) (hs : s < s_sm c) (hrel : s_rel c d) : s_inv (t + 1) (s_run c gv s) := by
  obtain ⟨hF, hw, hst, -⟩ := s_run_bun (gv := gv) hi.1 hs hrel
  have hm5 := hi.1.cmE.2
  have hl4 := hi.1.lmE.2
  have hs6 := hi.1.smE.2
  refine ⟨hw, ?_, fun l hl j hj => ?_, fun q hq => ?_⟩
  · unfold s_cst
    rw [← hF 4 (by omega), ← hF 5 (by omega), ← hF 6 (by omega)]
    exact hi.2.1
  · rw [hF.lm] at hl
    rw [hF.cm] at hj
    rw [← hF _ (by omega)]
    exact hi.2.2.1 l hl j hj
  · rw [hF.sm] at hq
    refine ⟨(hi.2.2.2 q hq).1.of (fun x hx => (hst _ (by omega)).symm), ?_⟩
    by_cases e : q = s
    · subst e
      exact s_run_unb hi hq
    · exact s_unb_oth (s_run_oth (s_rplan_5 hi.1 hs)) e (s_unb_mono (by omega) (hi.2.2.2 q hq).2)

