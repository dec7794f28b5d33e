/-! ===== the class: load, before the text is read ===== -/
theorem y_ds_new {B : XH} {r st a1 a2 a3 ht : Nat} {c : XC} (s0 : s_out r ∧ B r = none ∧ 64 ≤ r) (s1 : s_out st ∧ B st = none ∧ 64 ≤ st) (s2 : s_out a1 ∧ B a1 = none ∧ 64 ≤ a1) (s3 : s_out a2 ∧ B a2 = none ∧ 64 ≤ a2) (s4 : s_out ht ∧ B ht = none ∧ 64 ≤ ht) (h1 : st ≠ r) (h2 : a1 ≠ r) (h3 : a2 ≠ r) (h4 : a3 ≠ r) (h5 : ht ≠ r) (d1 : a1 ≠ a2) (d2 : a1 ≠ a3) (d3 : a2 ≠ a3) (d4 : a1 ≠ st) (d5 : a2 ≠ st) (d6 : a3 ≠ st) (u1 : ht ≠ a1) (u2 : ht ≠ a2) (u3 : ht ≠ a3) (u4 : ht ≠ st) : y_ds (y_rho r st a1 a2 ht a3) (x_set B a3 c) := by
  refine ⟨fun a b ha hb h => ?_, fun a ha => ?_⟩
  · have ca : a = 0 ∨ a = 1 ∨ a = 2 ∨ a = 3 ∨ a = 4 := by omega
    have cb : b = 0 ∨ b = 1 ∨ b = 2 ∨ b = 3 ∨ b = 4 := by omega
    rcases ca with rfl | rfl | rfl | rfl | rfl <;> rcases cb with rfl | rfl | rfl | rfl | rfl <;> first | rfl | exact absurd h h1 | exact absurd h.symm h1 | exact absurd h h2 | exact absurd h.symm h2 | exact absurd h h3 | exact absurd h.symm h3 | exact absurd h h5 | exact absurd h.symm h5 | exact absurd h d1 | exact absurd h.symm d1 | exact absurd h d4 | exact absurd h.symm d4 | exact absurd h d5 | exact absurd h.symm d5 | exact absurd h u1 | exact absurd h.symm u1 | exact absurd h u2 | exact absurd h.symm u2 | exact absurd h u4 | exact absurd h.symm u4
  · have ca : a = 0 ∨ a = 1 ∨ a = 2 ∨ a = 3 ∨ a = 4 := by omega
    rcases ca with rfl | rfl | rfl | rfl | rfl
    · exact ⟨s0.1, (x_set_ne (Ne.symm h4)).trans s0.2.1, s0.2.2⟩
    · exact ⟨s1.1, (x_set_ne (Ne.symm d6)).trans s1.2.1, s1.2.2⟩
    · exact ⟨s2.1, (x_set_ne d2).trans s2.2.1, s2.2.2⟩
    · exact ⟨s3.1, (x_set_ne d3).trans s3.2.1, s3.2.2⟩
    · exact ⟨s4.1, (x_set_ne u3).trans s4.2.1, s4.2.2⟩
theorem y_ST_0 {B : XH} {r st a1 a2 a3 ht : Nat} {hv : Nat → Int32} {pS : Nat → Nat} (hB : B 2 = none) (s0 : B r = none) (s1 : B st = none) (s2 : B a1 = none) (s3 : B a2 = none) (s4 : B ht = none) (s5 : s_out a3 ∧ B a3 = none) : y_ST B (x_set B a3 (.inl (0, lV 0 2 0))) (y_rho r st a1 a2 ht a3) hv s_pl 0 2 0 pS := by
  refine ⟨y_le_set s5.2, ⟨fun a ha => ?_, s5.2, hB⟩, ⟨s5.1, x_set_eq, Or.inl ⟨rfl, rfl⟩⟩, fun t ht => absurd ht (Nat.not_lt_zero _)⟩
  have ca : a = 0 ∨ a = 1 ∨ a = 2 ∨ a = 3 ∨ a = 4 := by omega
  rcases ca with rfl | rfl | rfl | rfl | rfl
  · exact s0
  · exact s1
  · exact s2
  · exact s3
  · exact s4
