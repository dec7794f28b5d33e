/-! ===== what a text that is read leaves: all of it ===== -/
def s_vals (rd : Nat → Int32) : Prop := ∀ l, l < s_lm rd → ∀ j, j < s_cm rd → ∃ v, v ≤ 9999 ∧ rd (75 + 5 * l + j) = nI v
def s_n99 (x : Int32) : Prop := ∃ a, a ≤ 99 ∧ x = nI a
def s_cst (rd : Nat → Int32) : Prop := s_n99 (rd 4) ∧ s_n99 (rd 5) ∧ s_n99 (rd 6)
/-- what is known of the numbers of a text that is read -/
def s_rdok (rd : Nat → Int32) : Prop := rd 3 = 0 ∧ s_cst rd ∧ s_ctyp rd (s_cm rd) ∧ s_vals rd ∧ s_usg rd (s_sm rd) ∧ ∀ t, t < s_sm rd → s_ps1 rd t
