/-! ===== the class: rows over its cells ===== -/
section CROWS
variable {B : XH} {J bf K tk ts : Nat → Int32} {tl : Int64} {tv : Nat → Int64} {su : Nat → Nat} {D : Nat → Nat → Int32} {i s k : Nat} {x : Int32}
theorem c_D (hi : i < 10) : cset B J bf K tk ts tl tv su D (75 + 20 * i) = some (.inl (3, dV (su i) i (D i))) := c_at (t := 0) hi (by decide)
theorem c_A (hi : i < 10) : cset B J bf K tk ts tl tv su D (75 + 20 * i + 1) = some (.inr (true, .int, 200, cI 200 75 1 0 (D i))) := c_at (t := 1) hi (by decide)
theorem c_X (hi : i < 10) : cset B J bf K tk ts tl tv su D (75 + 20 * i + 2) = some (.inr (true, .boolean, 5, cI 5 10 13 9 (D i))) := c_at (t := 2) hi (by decide)
theorem c_S (hi : i < 10) : cset B J bf K tk ts tl tv su D (75 + 20 * i + 3) = some (.inl (7, sV i (D i))) := c_at (t := 3) hi (by decide)
theorem c_S4 (hi : i < 10) : cset B J bf K tk ts tl tv su D (75 + 20 * i + 4) = some (.inr (true, .int, 5, cI 5 10 13 10 (D i))) := c_at (t := 4) hi (by decide)
theorem c_S5 (hi : i < 10) : cset B J bf K tk ts tl tv su D (75 + 20 * i + 5) = some (.inr (true, .int, 5, cI 5 10 13 11 (D i))) := c_at (t := 5) hi (by decide)
theorem c_S6 (hi : i < 10) : cset B J bf K tk ts tl tv su D (75 + 20 * i + 6) = some (.inr (true, .int, 5, cI 5 10 13 12 (D i))) := c_at (t := 6) hi (by decide)
theorem c_U (hi : i < 10) : cset B J bf K tk ts tl tv su D (75 + 20 * i + 7) = some (.inr (true, .object "PreparedPlans$Usage", 6, fun j => .ref (75 + 20 * i + (8 + 2 * j)))) := c_at (t := 7) hi (by decide)
theorem c_u (hi : i < 10) (hs : s < 6) : cset B J bf K tk ts tl tv su D (75 + 20 * i + (8 + 2 * s)) = some (.inl (9, uV i s (D i))) := (c_at (t := 8 + 2 * s) hi (by omega)).trans (congrArg some (dc_u hs))
theorem c_p (hi : i < 10) (hs : s < 6) : cset B J bf K tk ts tl tv su D (75 + 20 * i + (9 + 2 * s)) = some (.inr (true, .int, 5, cI 5 (275 + 30 * s) 1 21 (D i))) := (c_at (t := 9 + 2 * s) hi (by omega)).trans (congrArg some (dc_p hs))
theorem p_D1 (hi : i < 10) : x_set (cset B J bf K tk ts tl tv su D) (75 + 20 * i) (.inl (3, updV (dV (su i) i (D i)) 1 (.int x))) = cset B J bf K tk ts tl tv su (updS D i 1 x) :=
  c_put1 (t := 0) (p := 1) hi (by decide) (fun t' h q => by unfold rdP at q; omega) (by
    rw [dc_0]
    congr 2
    funext k
    unfold updV
    by_cases h : k = 1
    · rw [if_pos h, h]; exact congrArg Value.int updI_eq
    · rw [if_neg h]
      unfold dV
      split <;> first | rfl | exact absurd rfl h | rw [updI_ne (by decide)])
theorem p_D3 (hi : i < 10) : x_set (cset B J bf K tk ts tl tv su D) (75 + 20 * i) (.inl (3, updV (dV (su i) i (D i)) 2 (.int x))) = cset B J bf K tk ts tl tv su (updS D i 3 x) :=
  c_put1 (t := 0) (p := 3) hi (by decide) (fun t' h q => by unfold rdP at q; omega) (by
    rw [dc_0]
    congr 2
    funext k
    unfold updV
    by_cases h : k = 2
    · rw [if_pos h, h]; exact congrArg Value.int updI_eq
    · rw [if_neg h]
      unfold dV
      split <;> first | rfl | exact absurd rfl h | rw [updI_ne (by decide)])
theorem p_A (hi : i < 10) (hk : k < 200) : x_set (cset B J bf K tk ts tl tv su D) (75 + 20 * i + 1) (.inr (true, .int, 200, updV (cI 200 75 1 0 (D i)) k (.int x))) = cset B J bf K tk ts tl tv su (updS D i (75 + k) x) := by
  have e : 75 + k = 75 + 1 * k + 0 := by omega
  rw [e]
  exact c_put1 (t := 1) hi (by decide) (fun t' h q => by unfold rdP at q; omega) (congrArg (fun f => (Sum.inr (true, FieldType.int, 200, f) : XC)) (cI_eq hk (Or.inl rfl)))
theorem p_X (hi : i < 10) (hk : k < 5) : x_set (cset B J bf K tk ts tl tv su D) (75 + 20 * i + 2) (.inr (true, .boolean, 5, updV (cI 5 10 13 9 (D i)) k (.int x))) = cset B J bf K tk ts tl tv su (updS D i (10 + 13 * k + 9) x) :=
  c_put1 (t := 2) hi (by decide) (fun t' h q => by unfold rdP at q; omega) (congrArg (fun f => (Sum.inr (true, FieldType.boolean, 5, f) : XC)) (cI_eq hk (Or.inr rfl)))
theorem p_S (hi : i < 10) : x_set (cset B J bf K tk ts tl tv su D) (75 + 20 * i + 3) (.inl (7, updV (sV i (D i)) 0 (.int x))) = cset B J bf K tk ts tl tv su (updS D i 8 x) :=
  c_put1 (t := 3) (p := 8) hi (by decide) (fun t' h q => by unfold rdP at q; omega) (by
    rw [dc_3]
    congr 2
    funext k
    unfold updV
    by_cases h : k = 0
    · rw [if_pos h, h]; exact congrArg Value.int updI_eq
    · rw [if_neg h]
      unfold sV
      split <;> first | rfl | exact absurd rfl h)
theorem p_S4 (hi : i < 10) (hk : k < 5) : x_set (cset B J bf K tk ts tl tv su D) (75 + 20 * i + 4) (.inr (true, .int, 5, updV (cI 5 10 13 10 (D i)) k (.int x))) = cset B J bf K tk ts tl tv su (updS D i (10 + 13 * k + 10) x) :=
  c_put1 (t := 4) hi (by decide) (fun t' h q => by unfold rdP at q; omega) (congrArg (fun f => (Sum.inr (true, FieldType.int, 5, f) : XC)) (cI_eq hk (Or.inr rfl)))
theorem p_S5 (hi : i < 10) (hk : k < 5) : x_set (cset B J bf K tk ts tl tv su D) (75 + 20 * i + 5) (.inr (true, .int, 5, updV (cI 5 10 13 11 (D i)) k (.int x))) = cset B J bf K tk ts tl tv su (updS D i (10 + 13 * k + 11) x) :=
  c_put1 (t := 5) hi (by decide) (fun t' h q => by unfold rdP at q; omega) (congrArg (fun f => (Sum.inr (true, FieldType.int, 5, f) : XC)) (cI_eq hk (Or.inr rfl)))
theorem p_S6 (hi : i < 10) (hk : k < 5) : x_set (cset B J bf K tk ts tl tv su D) (75 + 20 * i + 6) (.inr (true, .int, 5, updV (cI 5 10 13 12 (D i)) k (.int x))) = cset B J bf K tk ts tl tv su (updS D i (10 + 13 * k + 12) x) :=
  c_put1 (t := 6) hi (by decide) (fun t' h q => by unfold rdP at q; omega) (congrArg (fun f => (Sum.inr (true, FieldType.int, 5, f) : XC)) (cI_eq hk (Or.inr rfl)))
theorem p_u (hi : i < 10) (hs : s < 6) (hk : k < 8) : x_set (cset B J bf K tk ts tl tv su D) (75 + 20 * i + (8 + 2 * s)) (.inl (9, updV (uV i s (D i)) k (.int x))) = cset B J bf K tk ts tl tv su (updS D i (275 + 30 * s + uP k) x) :=
  c_put1 (t := 8 + 2 * s) hi (by omega) (fun t' h q => by have hu := uP_le k; unfold rdP at q; omega) (by
    rw [dc_u hs]
    congr 2
    funext j
    have hk8 : k = 0 ∨ k = 1 ∨ k = 2 ∨ k = 3 ∨ k = 4 ∨ k = 5 ∨ k = 6 ∨ k = 7 := by omega
    unfold updV
    rcases hk8 with rfl | rfl | rfl | rfl | rfl | rfl | rfl | rfl
    · by_cases h : j = 0
      · rw [if_pos h, h]; exact congrArg Value.int updI_eq
      · rw [if_neg h]
        unfold uV
        split <;> first | rfl | exact absurd rfl h | exact congrArg Value.int (updI_ne (fun e => absurd (Nat.add_left_cancel e) (by decide)))
    · by_cases h : j = 1
      · rw [if_pos h, h]; exact congrArg Value.int updI_eq
      · rw [if_neg h]
        unfold uV
        split <;> first | rfl | exact absurd rfl h | exact congrArg Value.int (updI_ne (fun e => absurd (Nat.add_left_cancel e) (by decide)))
    · by_cases h : j = 2
      · rw [if_pos h, h]; exact congrArg Value.int updI_eq
      · rw [if_neg h]
        unfold uV
        split <;> first | rfl | exact absurd rfl h | exact congrArg Value.int (updI_ne (fun e => absurd (Nat.add_left_cancel e) (by decide)))
    · by_cases h : j = 3
      · rw [if_pos h, h]; exact congrArg Value.int updI_eq
      · rw [if_neg h]
        unfold uV
        split <;> first | rfl | exact absurd rfl h | exact congrArg Value.int (updI_ne (fun e => absurd (Nat.add_left_cancel e) (by decide)))
    · by_cases h : j = 4
      · rw [if_pos h, h]; exact congrArg Value.int updI_eq
      · rw [if_neg h]
        unfold uV
        split <;> first | rfl | exact absurd rfl h | exact congrArg Value.int (updI_ne (fun e => absurd (Nat.add_left_cancel e) (by decide)))
    · by_cases h : j = 5
      · rw [if_pos h, h]; exact congrArg Value.int updI_eq
      · rw [if_neg h]
        unfold uV
        split <;> first | rfl | exact absurd rfl h | exact congrArg Value.int (updI_ne (fun e => absurd (Nat.add_left_cancel e) (by decide)))
    · by_cases h : j = 6
      · rw [if_pos h, h]; exact congrArg Value.int updI_eq
      · rw [if_neg h]
        unfold uV
        split <;> first | rfl | exact absurd rfl h | exact congrArg Value.int (updI_ne (fun e => absurd (Nat.add_left_cancel e) (by decide)))
    · by_cases h : j = 7
      · rw [if_pos h, h]; exact congrArg Value.int updI_eq
      · rw [if_neg h]
        unfold uV
        split <;> first | rfl | exact absurd rfl h | exact congrArg Value.int (updI_ne (fun e => absurd (Nat.add_left_cancel e) (by decide))))
theorem p_p (hi : i < 10) (hs : s < 6) (hk : k < 5) : x_set (cset B J bf K tk ts tl tv su D) (75 + 20 * i + (9 + 2 * s)) (.inr (true, .int, 5, updV (cI 5 (275 + 30 * s) 1 21 (D i)) k (.int x))) = cset B J bf K tk ts tl tv su (updS D i (275 + 30 * s + (21 + k)) x) := by
  have e : 275 + 30 * s + (21 + k) = 275 + 30 * s + 1 * k + 21 := by omega
  rw [e]
  exact c_put1 (t := 9 + 2 * s) hi (by omega) (fun t' h q => by unfold rdP at q; omega) ((dc_p hs).trans (congrArg (fun f => (Sum.inr (true, FieldType.int, 5, f) : XC)) (cI_eq hk (Or.inl rfl))))
end CROWS
