/-! ===== the reference's reader: rows, statements ===== -/
theorem l_vals_ok {tx : Nat → Int32} {n l : Nat} : ∀ (r c p : Nat) (rd rd1 : Nat → Int32) (q : Nat), p ≤ n → c + r ≤ 5 → l < 40 → l_vals tx n l r c p rd = .inr (q, rd1) → (p ≤ q ∧ q ≤ n) ∧ ∀ j, j < 75 → rd1 j = rd j
  | 0, c, p, rd, rd1, q, hp, hc, hl, h => by cases h; exact ⟨⟨Nat.le_refl _, hp⟩, fun _ _ => rfl⟩
  | r + 1, c, p, rd, rd1, q, hp, hc, hl, h => by
    obtain ⟨x, h1, h2⟩ := l_bi_inr (show l_bi (l_reads tx n p (s_most (rd (10 + 13 * c + 8)))) (fun x => l_vals tx n l r (c + 1) x.1 (upd rd (75 + 5 * l + c) x.2)) = _ from h)
    have h3 := l_reads_ok h1 hp
    have h4 := l_sk_le (tx := tx) hp
    obtain ⟨h5, h6⟩ := l_vals_ok r (c + 1) x.1 _ _ _ h3.1.2 (by omega) hl h2
    exact ⟨by omega, fun j hj => (h6 j hj).trans (updI_ne (by omega))⟩
