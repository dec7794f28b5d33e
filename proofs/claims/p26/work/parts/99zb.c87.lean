/-! ===== what a text that is read leaves: the numbers that are in range ===== -/
def s_ht (x : Int32) : Prop := x = -1 ∨ x = 0 ∨ x = 1 ∨ x = 2
def s_hts (rd : Nat → Int32) (w : Nat) : Prop := ∀ h, h < 4 → s_ht (rd (275 + 30 * w + (17 + h)))
def s_ctyp (rd : Nat → Int32) (m : Nat) : Prop := ∀ j, j < m → rd (10 + 13 * j + 8) = 0 ∨ rd (10 + 13 * j + 8) = 1 ∨ rd (10 + 13 * j + 8) = 2
theorem s_ctyp.of {rd rd1 : Nat → Int32} {m : Nat} (h : s_ctyp rd m) (hm : m ≤ 5) (hc : ∀ j, j < 275 → j ≠ 9 → rd1 j = rd j) : s_ctyp rd1 m := fun j hj => by
  rw [hc _ (by omega) (by omega)]
  exact h j hj
theorem s_hts.of {rd rd1 : Nat → Int32} {w : Nat} (h : s_hts rd w) (hc : ∀ j, j < 4 → rd1 (275 + 30 * w + (17 + j)) = rd (275 + 30 * w + (17 + j))) : s_hts rd1 w := fun j hj => by
  rw [hc j hj]
  exact h j hj
theorem s_most_le (t : Int32) : s_most t ≤ 9999 := by
  unfold s_most
  by_cases h : t = 0
  · rw [if_pos h]; decide
  · rw [if_neg h]
    by_cases h1 : t = 1
    · rw [if_pos h1]; decide
    · rw [if_neg h1]; decide
section HT
variable {tx : Nat → Int32} {n m w : Nat}
end HT
/-- the codes' bounds and the holes of a statement that is read -/
def s_ps1 (rd : Nat → Int32) (t : Nat) : Prop := s_hts rd t ∧ ∃ f g, rd (275 + 30 * t + 26) = nI f ∧ rd (275 + 30 * t + 27) = nI g ∧ f ≤ 320 ∧ g ≤ 320
theorem s_ps1.of {rd rd1 : Nat → Int32} {t : Nat} (h : s_ps1 rd t) (hc : ∀ x, 17 ≤ x → x < 28 → rd1 (275 + 30 * t + x) = rd (275 + 30 * t + x)) : s_ps1 rd1 t := by
  obtain ⟨h1, f, g, h2, h3, h4⟩ := h
  exact ⟨h1.of (fun j hj => hc _ (by omega) (by omega)), f, g, (hc 26 (by omega) (by omega)).trans h2, (hc 27 (by omega) (by omega)).trans h3, h4⟩
