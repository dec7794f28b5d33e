/-! ===== the reference: checksum, append, named, and what the reader begins with ===== -/
/-- is it a letter -/
abbrev s_let (x : Int32) : Prop := (97 : Int32) ≤ x ∧ x ≤ 122
/-- the first of the first m things; -1 -/
def s_first (P : Nat → Bool) : Nat → Int32
  | 0 => -1
  | m + 1 => if s_first P m = -1 then (bif P m then nI m else -1) else s_first P m
theorem s_first_no {P : Nat → Bool} : ∀ m, (∀ j, j < m → P j = false) → s_first P m = -1
  | 0, _ => rfl
  | m + 1, h => by
    show (if s_first P m = -1 then (bif P m then nI m else -1) else s_first P m) = -1
    rw [if_pos (s_first_no m (fun j hj => h j (by omega))), h m (by omega)]
    rfl
theorem s_first_yes {P : Nat → Bool} {s : Nat} (hs : s < 2147483648) (hP : P s = true) (h : ∀ j, j < s → P j = false) : ∀ m, s < m → s_first P m = nI s
  | 0, h0 => absurd h0 (Nat.not_lt_zero _)
  | m + 1, h0 => by
    show (if s_first P m = -1 then (bif P m then nI m else -1) else s_first P m) = nI s
    by_cases e : s = m
    · subst e
      rw [if_pos (s_first_no s h), hP]
      rfl
    · have e1 := s_first_yes hs hP h m (by omega)
      rw [e1, if_neg (nI_ne_m1 hs)]
theorem s_first_ok {P : Nat → Bool} : ∀ m, m < 2147483648 → (s_first P m = -1 ∧ ∀ j, j < m → P j = false) ∨ ∃ s, s < m ∧ s_first P m = nI s ∧ P s = true ∧ ∀ j, j < s → P j = false
  | 0, _ => Or.inl ⟨rfl, fun j hj => absurd hj (Nat.not_lt_zero _)⟩
  | m + 1, hb => by
    show ((if s_first P m = -1 then (bif P m then nI m else -1) else s_first P m) = -1 ∧ _) ∨ ∃ s, s < m + 1 ∧ (if s_first P m = -1 then (bif P m then nI m else -1) else s_first P m) = nI s ∧ _
    rcases s_first_ok (P := P) m (by omega) with ⟨h1, h2⟩ | ⟨s, h1, h2, h3, h4⟩
    · rw [if_pos h1]
      cases hm : P m with
      | false =>
        refine Or.inl ⟨rfl, fun j hj => ?_⟩
        by_cases e : j = m
        · rw [e]; exact hm
        · exact h2 j (by omega)
      | true => exact Or.inr ⟨m, by omega, rfl, hm, h2⟩
    · rw [h2, if_neg (nI_ne_m1 (by omega))]
      exact Or.inr ⟨s, by omega, rfl, h3, h4⟩
/-- the letter at k of a name of L letters -/
def s_ltr (tx : Nat → Int32) (a L k : Nat) : Int32 := if a + k < L then tx (a + k) else 0
/-- do the first k cells at c agree with the word from a to L -/
def s_eqn (c tx : Nat → Int32) (at_ a L : Nat) : Nat → Bool
  | 0 => true
  | k + 1 => s_eqn c tx at_ a L k && decide (c (at_ + k) = s_ltr tx a L k)
theorem m_below {P : Nat → Bool} {s : Nat} (h : ∀ j, j < s → P j = false) (hs : P s = false) : ∀ j, j < s + 1 → P j = false := fun j hj => by
  by_cases e : j = s
  · rw [e]; exact hs
  · exact h j (by omega)
