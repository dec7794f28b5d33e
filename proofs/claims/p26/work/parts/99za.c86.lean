/-! ===== the usage numbers of statements that are read ===== -/
/-- the usage numbers of s statements that are read, and of those that aren't -/
def s_usg (rd : Nat → Int32) (s : Nat) : Prop := (∀ t, t < s → rd (275 + 30 * t + 14) = -2 ∧ (∀ c, c < 5 → rd (275 + 30 * t + (21 + c)) = 100) ∧ ∀ x, ((8 ≤ x ∧ x ≤ 13) ∨ x = 15 ∨ x = 16) → rd (275 + 30 * t + x) = 0) ∧ ∀ t, s ≤ t → t < 6 → ∀ x, 8 ≤ x → x ≤ 16 → rd (275 + 30 * t + x) = 0
