/-! ===== the reference's reader: the whole text ===== -/
/-- lines that begin with word w, as long as there are -/
def l_rep (tx : Nat → Int32) (n w : Nat) (g : Nat → Nat → (Nat → Int32) → LR) : Nat → Nat → (Nat → Int32) → LR
  | 0, _, _ => .inl (0, 0)
  | f + 1, p, rd => if l_isw tx n p (x_w w) = true then l_bi (g (l_sk tx n p) (l_tk tx n p (x_w w)) rd) fun x => l_rep tx n w g f x.1 x.2 else .inr (l_sk tx n p, rd)
def g_col (tx : Nat → Int32) (n a p : Nat) (rd : Nat → Int32) : LR := l_colLine tx n (n_ (rd 0)) a p rd
def g_idx (tx : Nat → Int32) (n _a p : Nat) (rd : Nat → Int32) : LR := l_idxLine tx n (n_ (rd 0)) p rd
def g_row (tx : Nat → Int32) (n a p : Nat) (rd : Nat → Int32) : LR := l_rowLine tx n (n_ (rd 0)) (n_ (rd 1)) a p rd
def g_prep (tx : Nat → Int32) (n a p : Nat) (rd : Nat → Int32) : LR := l_prepLine tx n (n_ (rd 0)) (n_ (rd 2)) a p rd
def l_t6 (tx : Nat → Int32) (n : Nat) (x : Nat × (Nat → Int32)) : LR := if l_see tx n x.1 = -1 then .inr (l_sk tx n x.1, x.2) else .inl (-2, l_sk tx n x.1)
def l_t5 (tx : Nat → Int32) (n : Nat) (x : Nat × (Nat → Int32)) : LR := l_bi (if l_isw tx n x.1 (x_w 12) = true then l_triesLine tx n (l_tk tx n x.1 (x_w 12)) x.2 else .inr (l_sk tx n x.1, x.2)) (l_t6 tx n)
def l_t4 (tx : Nat → Int32) (n : Nat) (x : Nat × (Nat → Int32)) : LR := l_bi (if l_isw tx n x.1 (x_w 11) = true then l_costLine tx n (l_tk tx n x.1 (x_w 11)) x.2 else .inr (l_sk tx n x.1, x.2)) (l_t5 tx n)
def l_t3 (tx : Nat → Int32) (n : Nat) (x : Nat × (Nat → Int32)) : LR := l_bi (l_rep tx n 10 (g_prep tx n) (n + 1 - x.1) x.1 x.2) (l_t4 tx n)
def l_t2 (tx : Nat → Int32) (n : Nat) (x : Nat × (Nat → Int32)) : LR := l_bi (l_rep tx n 9 (g_row tx n) (n + 1 - x.1) x.1 x.2) (l_t3 tx n)
def l_t1 (tx : Nat → Int32) (n : Nat) (x : Nat × (Nat → Int32)) : LR := l_bi (l_rep tx n 8 (g_idx tx n) (n + 1 - x.1) x.1 x.2) (l_t2 tx n)
def l_t0 (tx : Nat → Int32) (n : Nat) (x : Nat × (Nat → Int32)) : LR := l_bi (l_rep tx n 1 (g_col tx n) (n + 1 - x.1) x.1 x.2) (l_t1 tx n)
/-- nothing read yet -/
def s_pl : Nat → Int32 := upd (upd (upd (upd (fun _ => 0) 4 1) 5 3) 6 2) 7 3
/-- a setup text -/
def l_txt (tx : Nat → Int32) (n : Nat) : LR := if l_isw tx n 0 (x_w 0) = true then l_bi (l_want tx n 59 (l_tk tx n 0 (x_w 0)) s_pl) (l_t0 tx n) else .inl (-2, l_sk tx n 0)
section
variable {tx rd rd1 : Nat → Int32} {n p q a : Nat}
theorem l_type_ok {y : Nat} {ty : Int32} (h : l_type tx n q = .inr (y, ty)) (hq : q ≤ n) : (q ≤ y ∧ y ≤ n) ∧ (ty = 0 ∨ ty = 1 ∨ ty = 2) := by
  have hs := l_sk_le (tx := tx) hq
  have h5 := l_tk_le (tx := tx) (w := x_w 5) hq
  have h6 := l_tk_le (tx := tx) (w := x_w 6) hq
  have h7 := l_tk_le (tx := tx) (w := x_w 7) hq
  unfold l_type at h
  by_cases c1 : l_isw tx n q (x_w 5) = true
  · rw [if_pos c1] at h; cases h; exact ⟨by omega, Or.inl rfl⟩
  · rw [if_neg c1] at h
    by_cases c2 : l_isw tx n q (x_w 6) = true
    · rw [if_pos c2] at h; cases h; exact ⟨by omega, Or.inr (Or.inl rfl)⟩
    · rw [if_neg c2] at h
      by_cases c3 : l_isw tx n q (x_w 7) = true
      · rw [if_pos c3] at h; cases h; exact ⟨by omega, Or.inr (Or.inr rfl)⟩
      · rw [if_neg c3] at h; cases h
end
section
variable {I J K : Nat → Int32} {n q : Nat}
end
