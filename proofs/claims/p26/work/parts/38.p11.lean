/-! ===== the reference's reader: the whole text ===== -/
/-- lines that begin with word w, as long as there are -/
def l_rep (tx : Nat → Int32) (n w : Nat) (g : Nat → Nat → (Nat → Int32) → LR) : Nat → Nat → (Nat → Int32) → LR
  | 0, _, _ => .inl (0, 0)
  | f + 1, p, rd => if l_isw tx n p (x_w w) = true then l_bi (g (l_sk tx n p) (l_tk tx n p (x_w w)) rd) fun x => l_rep tx n w g f x.1 x.2 else .inr (l_sk tx n p, rd)
def g_col (tx : Nat → Int32) (n a p : Nat) (rd : Nat → Int32) : LR := l_colLine tx n (n_ (rd 0)) a p rd
def g_idx (tx : Nat → Int32) (n _a p : Nat) (rd : Nat → Int32) : LR := l_idxLine tx n (n_ (rd 0)) p rd
def g_row (tx : Nat → Int32) (n a p : Nat) (rd : Nat → Int32) : LR := l_rowLine tx n (n_ (rd 0)) (n_ (rd 1)) a p rd
def g_prep (tx : Nat → Int32) (n a p : Nat) (rd : Nat → Int32) : LR := l_prepLine tx n (n_ (rd 0)) (n_ (rd 2)) a p rd
def l_t6 (tx : Nat → Int32) (n : Nat) (x : Nat × (Nat → Int32)) : LR := if l_see tx n x.1 = -1 then .inr (l_sk tx n x.1, x.2) else .inl (-2, l_sk tx n x.1)
def l_t5 (tx : Nat → Int32) (n : Nat) (x : Nat × (Nat → Int32)) : LR := l_bi (if l_isw tx n x.1 (x_w 12) = true then l_triesLine tx n (l_tk tx n x.1 (x_w 12)) x.2 else .inr (l_sk tx n x.1, x.2)) (l_t6 tx n)
def l_t4 (tx : Nat → Int32) (n : Nat) (x : Nat × (Nat → Int32)) : LR := l_bi (if l_isw tx n x.1 (x_w 11) = true then l_costLine tx n (l_tk tx n x.1 (x_w 11)) x.2 else .inr (l_sk tx n x.1, x.2)) (l_t5 tx n)
def l_t3 (tx : Nat → Int32) (n : Nat) (x : Nat × (Nat → Int32)) : LR := l_bi (l_rep tx n 10 (g_prep tx n) (n + 1 - x.1) x.1 x.2) (l_t4 tx n)
def l_t2 (tx : Nat → Int32) (n : Nat) (x : Nat × (Nat → Int32)) : LR := l_bi (l_rep tx n 9 (g_row tx n) (n + 1 - x.1) x.1 x.2) (l_t3 tx n)
def l_t1 (tx : Nat → Int32) (n : Nat) (x : Nat × (Nat → Int32)) : LR := l_bi (l_rep tx n 8 (g_idx tx n) (n + 1 - x.1) x.1 x.2) (l_t2 tx n)
def l_t0 (tx : Nat → Int32) (n : Nat) (x : Nat × (Nat → Int32)) : LR := l_bi (l_rep tx n 1 (g_col tx n) (n + 1 - x.1) x.1 x.2) (l_t1 tx n)
/-- nothing read yet -/
def s_pl : Nat → Int32 := upd (upd (upd (upd (fun _ => 0) 4 1) 5 3) 6 2) 7 3
/-- a setup text -/
def l_txt (tx : Nat → Int32) (n : Nat) : LR := if l_isw tx n 0 (x_w 0) = true then l_bi (l_want tx n 59 (l_tk tx n 0 (x_w 0)) s_pl) (l_t0 tx n) else .inl (-2, l_sk tx n 0)
/-- what holds between lines -/
def s_iv (n p : Nat) (rd : Nat → Int32) : Prop := p ≤ n ∧ (∃ m, m ≤ 5 ∧ rd 0 = nI m) ∧ (∃ l, l ≤ 40 ∧ rd 1 = nI l) ∧ (∃ s, s ≤ 6 ∧ rd 2 = nI s) ∧ ∃ k, rd 9 = nI k ∧ 5 * k ≤ 2 * p
section
variable {tx rd rd1 : Nat → Int32} {n p q a : Nat}
theorem s_iv_sk (h : s_iv n p rd) : s_iv n (l_sk tx n p) rd := by
  obtain ⟨h1, h2, h3, h4, k, h5, h6⟩ := h
  have hs := l_sk_le (tx := tx) h1
  exact ⟨hs.2, h2, h3, h4, k, h5, by omega⟩
theorem s_iv_tk {w : Nat} (h : s_iv n p rd) : s_iv n (l_tk tx n p (x_w w)) rd := by
  obtain ⟨h1, h2, h3, h4, k, h5, h6⟩ := h
  have hs := l_sk_le (tx := tx) h1
  have ht := l_tk_le (tx := tx) (w := x_w w) h1
  exact ⟨ht.2, h2, h3, h4, k, h5, by omega⟩
theorem l_type_ok {y : Nat} {ty : Int32} (h : l_type tx n q = .inr (y, ty)) (hq : q ≤ n) : (q ≤ y ∧ y ≤ n) ∧ (ty = 0 ∨ ty = 1 ∨ ty = 2) := by
  have hs := l_sk_le (tx := tx) hq
  have h5 := l_tk_le (tx := tx) (w := x_w 5) hq
  have h6 := l_tk_le (tx := tx) (w := x_w 6) hq
  have h7 := l_tk_le (tx := tx) (w := x_w 7) hq
  unfold l_type at h
  by_cases c1 : l_isw tx n q (x_w 5) = true
  · rw [if_pos c1] at h; cases h; exact ⟨by omega, Or.inl rfl⟩
  · rw [if_neg c1] at h
    by_cases c2 : l_isw tx n q (x_w 6) = true
    · rw [if_pos c2] at h; cases h; exact ⟨by omega, Or.inr (Or.inl rfl)⟩
    · rw [if_neg c2] at h
      by_cases c3 : l_isw tx n q (x_w 7) = true
      · rw [if_pos c3] at h; cases h; exact ⟨by omega, Or.inr (Or.inr rfl)⟩
      · rw [if_neg c3] at h; cases h
theorem g_col_ok (h : s_iv n p rd) (hR : g_col tx n a p rd = .inr (q, rd1)) : s_iv n q rd1 ∧ p ≤ q := by
  obtain ⟨h1, ⟨m, hm, h2⟩, ⟨l, hl, h3⟩, ⟨s, hs, h4⟩, k, h5, h6⟩ := h
  unfold g_col at hR
  rw [n_of h2 (by omega)] at hR
  unfold l_colLine at hR
  by_cases c1 : m = 5
  · rw [if_pos c1] at hR; cases hR
  · rw [if_neg c1] at hR
    obtain ⟨x, h7, h8⟩ := l_bi_inr hR
    obtain ⟨⟨y, ty⟩, h9, h10⟩ := l_bi_inr h8
    have g1 := l_fresh_ok h7 h1
    have g2 := l_type_ok h9 g1.1.2
    obtain ⟨g3, g4⟩ := l_want_ok h10 (by decide) g2.1.2
    have gs := l_sk_le (tx := tx) h1
    subst g4
    refine ⟨⟨g3.2, ⟨m + 1, by omega, updI_eq⟩, ⟨l, hl, ?_⟩, ⟨s, hs, ?_⟩, k, ?_, by omega⟩, by omega⟩
    · rw [updI_ne (by omega), updI_ne (by omega), g1.2 1 (by omega)]; exact h3
    · rw [updI_ne (by omega), updI_ne (by omega), g1.2 2 (by omega)]; exact h4
    · rw [updI_ne (by omega), updI_ne (by omega), g1.2 9 (by omega)]; exact h5
theorem g_idx_ok (h : s_iv n p rd) (hR : g_idx tx n a p rd = .inr (q, rd1)) : s_iv n q rd1 ∧ p ≤ q := by
  obtain ⟨h1, ⟨m, hm, h2⟩, ⟨l, hl, h3⟩, ⟨s, hs, h4⟩, k, h5, h6⟩ := h
  unfold g_idx at hR
  rw [n_of h2 (by omega)] at hR
  unfold l_idxLine at hR
  obtain ⟨⟨x, v⟩, h7, h8⟩ := l_bi_inr hR
  have g1 := l_known_ok h7 h1 (by omega)
  obtain ⟨j, hj, rfl⟩ := g1.2
  have gs := l_sk_le (tx := tx) h1
  have ej : n_ (nI j) = j := nI_clamp (by omega)
  change (if rd (10 + 13 * n_ (nI j) + 9) = 1 then (.inl (-5, l_sk tx n p) : LR) else l_want tx n 59 x (upd rd (10 + 13 * n_ (nI j) + 9) 1)) = _ at h8
  rw [ej] at h8
  by_cases c1 : rd (10 + 13 * j + 9) = 1
  · rw [if_pos c1] at h8; cases h8
  · rw [if_neg c1] at h8
    obtain ⟨g3, g4⟩ := l_want_ok h8 (by decide) g1.1.2
    subst g4
    refine ⟨⟨g3.2, ⟨m, hm, ?_⟩, ⟨l, hl, ?_⟩, ⟨s, hs, ?_⟩, k, ?_, by omega⟩, by omega⟩
    · rw [updI_ne (by omega)]; exact h2
    · rw [updI_ne (by omega)]; exact h3
    · rw [updI_ne (by omega)]; exact h4
    · rw [updI_ne (by omega)]; exact h5
theorem g_row_ok (h : s_iv n p rd) (hR : g_row tx n a p rd = .inr (q, rd1)) : s_iv n q rd1 ∧ p ≤ q := by
  obtain ⟨h1, ⟨m, hm, h2⟩, ⟨l, hl, h3⟩, ⟨s, hs, h4⟩, k, h5, h6⟩ := h
  unfold g_row at hR
  rw [n_of h2 (by omega), n_of h3 (by omega)] at hR
  unfold l_rowLine at hR
  by_cases c1 : m = 0
  · rw [if_pos c1] at hR; cases hR
  · rw [if_neg c1] at hR
    by_cases c2 : l = 40
    · rw [if_pos c2] at hR; cases hR
    · rw [if_neg c2] at hR
      obtain ⟨⟨x, r4⟩, h7, h8⟩ := l_bi_inr hR
      have g1 := l_vals_ok m 0 p rd r4 x h1 (by omega) (by omega) h7
      obtain ⟨g3, g4⟩ := l_want_ok h8 (by decide) g1.1.2
      subst g4
      refine ⟨⟨g3.2, ⟨m, hm, ?_⟩, ⟨l + 1, by omega, updI_eq⟩, ⟨s, hs, ?_⟩, k, ?_, by omega⟩, by omega⟩
      · rw [updI_ne (by omega)]; exact (g1.2 0 (by omega)).trans h2
      · rw [updI_ne (by omega)]; exact (g1.2 2 (by omega)).trans h4
      · rw [updI_ne (by omega)]; exact (g1.2 9 (by omega)).trans h5
theorem g_prep_ok (hn8 : n ≤ 800) (h : s_iv n p rd) (hR : g_prep tx n a p rd = .inr (q, rd1)) : s_iv n q rd1 ∧ p ≤ q := by
  obtain ⟨h1, ⟨m, hm, h2⟩, ⟨l, hl, h3⟩, ⟨s, hs, h4⟩, k, h5, h6⟩ := h
  unfold g_prep at hR
  rw [n_of h2 (by omega), n_of h4 (by omega)] at hR
  unfold l_prepLine at hR
  by_cases c1 : s = 6
  · rw [if_pos c1] at hR; cases hR
  · rw [if_neg c1] at hR
    obtain ⟨x, h7, h8⟩ := l_bi_inr hR
    obtain ⟨⟨y, r4⟩, h9, h10⟩ := l_bi_inr h8
    have g1 := l_fresh_ok h7 h1
    have gs := l_sk_le (tx := tx) h1
    have hk1 : s_prep x.2 s 9 = nI k := (s_prep_ne (by omega)).trans ((g1.2 9 (by omega)).trans h5)
    obtain ⟨g5, g6, k', g7, g8, g9⟩ := l_prs_ok hn8 (by omega) _ 3 true 0 0 x.1 k _ r4 y g1.1.2 hk1 (by omega) h9
    obtain ⟨g3, g4⟩ := l_want_ok h10 (by decide) g5.2
    subst g4
    have gg : ∀ j, j < 275 → j ≠ 9 → j ≠ 2 → upd (upd r4 (275 + 30 * s + 27) (r4 9)) 2 (nI (s + 1)) j = rd j := fun j hj j9 j2 => by
      rw [updI_ne j2, updI_ne (by omega), g6 j hj j9, s_prep_ne hj, g1.2 j (by omega)]
    refine ⟨⟨g3.2, ⟨m, hm, (gg 0 (by omega) (by omega) (by omega)).trans h2⟩, ⟨l, hl, (gg 1 (by omega) (by omega) (by omega)).trans h3⟩, ⟨s + 1, by omega, updI_eq⟩, k', ?_, by omega⟩, by omega⟩
    rw [updI_ne (by omega), updI_ne (by omega)]
    exact g7
end
section
variable {I J K : Nat → Int32} {n q : Nat}
end
