/-! ===== the reference's reader: a statement's line ===== -/
theorem s_p4_ne {rd : Nat → Int32} {s j : Nat} (hj : j < 275 + 30 * s + 17 ∨ 275 + 30 * s + 21 ≤ j) : ∀ h, h ≤ 4 → s_p4 rd s h j = rd j
  | 0, _ => rfl
  | h + 1, hh => by
    show upd (s_p4 rd s h) (275 + 30 * s + (17 + h)) (-1) j = rd j
    rw [updI_ne (by omega)]
    exact s_p4_ne hj h (by omega)
theorem s_p5_ne {rd : Nat → Int32} {s j : Nat} (hj : j < 275 + 30 * s + 21 ∨ 275 + 30 * s + 26 ≤ j) : ∀ c, c ≤ 5 → s_p5 rd s c j = rd j
  | 0, _ => rfl
  | c + 1, hh => by
    show upd (s_p5 rd s c) (275 + 30 * s + (21 + c)) 100 j = rd j
    rw [updI_ne (by omega)]
    exact s_p5_ne hj c (by omega)
theorem s_prep_ne {rd : Nat → Int32} {s j : Nat} (hj : j < 275) : s_prep rd s j = rd j := by
  unfold s_prep
  rw [updI_ne (by omega), updI_ne (by omega), s_p5_ne (by omega) 5 (Nat.le_refl _), s_p4_ne (by omega) 4 (Nat.le_refl _)]
