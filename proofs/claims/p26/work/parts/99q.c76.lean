/-! ===== the class's reader: the whole text ===== -/
theorem l_want_rd {tx rd rd1 : Nat → Int32} {n p q : Nat} {sg : Int32} (h : l_want tx n sg p rd = .inr (q, rd1)) : rd1 = rd := by
  unfold l_want at h
  by_cases e : l_see tx n p = sg
  · rw [if_pos e] at h; cases h; rfl
  · rw [if_neg e] at h; cases h
theorem l_t4_inv {tx rd rd1 : Nat → Int32} {n p q : Nat} (h : l_t4 tx n (p, rd) = .inr (q, rd1)) : ∀ j, (j < 4 ∨ 8 ≤ j) → rd1 j = rd j := fun j hj => by
  obtain ⟨x, h1, h2⟩ := l_bi_inr h
  obtain ⟨y, h3, h4⟩ := l_bi_inr h2
  have e1 : x.2 j = rd j := by
    by_cases e : l_isw tx n p (x_w 11) = true
    · rw [if_pos e] at h1
      obtain ⟨a, -, h5⟩ := l_bi_inr h1
      obtain ⟨b, -, h6⟩ := l_bi_inr h5
      obtain ⟨c, -, h7⟩ := l_bi_inr h6
      rw [l_want_rd (rd1 := x.2) (q := x.1) h7, updI_ne (by omega), updI_ne (by omega), updI_ne (by omega)]
    · rw [if_neg e] at h1
      cases h1
      rfl
  have e2 : y.2 j = x.2 j := by
    by_cases e : l_isw tx n x.1 (x_w 12) = true
    · rw [if_pos e] at h3
      obtain ⟨a, -, h5⟩ := l_bi_inr h3
      rw [l_want_rd (rd1 := y.2) (q := y.1) h5, updI_ne (by omega)]
    · rw [if_neg e] at h3
      cases h3
      rfl
  have e3 : rd1 = y.2 := by
    unfold l_t6 at h4
    by_cases e : l_see tx n y.1 = -1
    · rw [if_pos e] at h4; cases h4; rfl
    · rw [if_neg e] at h4; cases h4
  rw [e3, e2, e1]
theorem s_ic_0 {rd : Nat → Int32} : ∀ n, (∀ j, j < n → rd (10 + 13 * j + 9) = 0) → s_ic rd n = 0
  | 0, _ => rfl
  | n + 1, h => by
    show s_ic rd n + (if rd (10 + 13 * n + 9) = 1 then 1 else 0) = 0
    rw [s_ic_0 n (fun j hj => h j (by omega)), h n (by omega)]
    rfl
theorem s_cl1_1 {e : Nat → Int32} : s_cl1 e 1 = 0 := by unfold s_cl1; rw [updI_ne (by decide), updI_eq]
theorem s_clx_ne {e : Nat → Int32} {j : Nat} : ∀ k, (∀ x, x < k → j ≠ 10 + 13 * x + 9) → s_clx e k j = e j
  | 0, _ => rfl
  | k + 1, h => by
    show upd (s_clx e k) (10 + 13 * k + 9) 0 j = e j
    rw [updI_ne (h k (by omega))]
    exact s_clx_ne k (fun x hx => h x (by omega))
theorem s_clx_at {e : Nat → Int32} {x : Nat} : ∀ k, x < k → s_clx e k (10 + 13 * x + 9) = 0
  | 0, h => absurd h (Nat.not_lt_zero _)
  | k + 1, h => by
    show upd (s_clx e k) (10 + 13 * k + 9) 0 (10 + 13 * x + 9) = 0
    by_cases e1 : x = k
    · rw [e1, updI_eq]
    · rw [updI_ne (by omega)]
      exact s_clx_at k (by omega)
/-- the first token -/
theorem z_at0 {tx bf K tk ts : Nat → Int32} {tv : Nat → Int64} {n c : Nat} {tl : Int64} (hsp : z_split bf tx n tk ts tv c) (h3 : K 3 = nI c) : z_at tx bf n c (y_adK K tk ts c 0) (y_adl tl tv c 0) 0 := by
  obtain ⟨hc, hlast, hlt, hf⟩ := hsp
  have h0 : 0 < c := hc.1
  obtain ⟨f1, f2, f3⟩ := hf 0 h0
  refine ⟨Nat.zero_le _, 0, h0, rfl, ?_, ?_, ?_, ?_, ?_⟩
  · unfold y_adK; rw [if_pos h0, updI_ne (by decide), updI_ne (by decide), updI_ne (by decide)]; exact h3
  · unfold y_adK; rw [if_pos h0, updI_eq]
  · unfold y_adK; rw [if_pos h0, updI_ne (by decide), updI_ne (by decide), updI_eq, f1]; rfl
  · unfold y_adK; rw [if_pos h0, updI_ne (by decide), updI_eq, f2]; rfl
  · unfold y_adl; rw [if_pos h0, f3]; rfl

