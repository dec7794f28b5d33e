/-! ===== what the statistics are; what a text that is read leaves, as a row ===== -/
theorem y_minN {a b : Nat} (ha : a < 2147483648) (hb : b < 2147483648) : x_min (nI a) (nI b) = nI (if b < a then b else a) := by
  unfold x_min
  by_cases h : b < a
  · rw [if_pos h, if_pos ((n_lt rfl rfl hb ha).mpr h)]
  · rw [if_neg h, if_neg (fun q => h ((n_lt rfl rfl hb ha).mp q))]
theorem y_maxN {a b : Nat} (ha : a < 2147483648) (hb : b < 2147483648) : x_max (nI a) (nI b) = nI (if a < b then b else a) := by
  unfold x_max
  by_cases h : a < b
  · rw [if_pos h, if_pos ((n_lt rfl rfl ha hb).mpr h)]
  · rw [if_neg h, if_neg (fun q => h ((n_lt rfl rfl ha hb).mp q))]
/-- how many values are unlike: some, if there is a row -/
theorem s_unl_b {c : Nat → Int32} {j : Nat} : ∀ l, ∃ u, u ≤ l ∧ s_unl c j l = nI u ∧ (1 ≤ l → 1 ≤ u)
  | 0 => ⟨0, Nat.le_refl _, rfl, fun h => h⟩
  | l + 1 => by
    obtain ⟨u, h1, h2, h3⟩ := s_unl_b (c := c) (j := j) l
    show ∃ u, u ≤ l + 1 ∧ s_unl c j l + (bif s_new c j l l then 1 else 0) = nI u ∧ (1 ≤ l + 1 → 1 ≤ u)
    cases hn : s_new c j l l with
    | true =>
      refine ⟨u + 1, by omega, ?_, fun _ => by omega⟩
      rw [h2]
      exact nI_add u 1
    | false =>
      have hl : 1 ≤ l := by
        cases l with
        | zero => cases hn
        | succ l => omega
      refine ⟨u, by omega, ?_, fun _ => h3 hl⟩
      rw [h2]
      exact nI_add u 0
/-- the least and the greatest value -/
theorem s_ext_b {c : Nat → Int32} {j q : Nat} (h1 : c 1 = nI q) (hq : q ≤ 40) (hv : ∀ l, l < q → ∃ v, v ≤ 9999 ∧ s_val c l j = nI v) : ∀ l, l ≤ q → ∃ a b, a ≤ b ∧ b ≤ 9999 ∧ s_ext c j false l = nI a ∧ s_ext c j true l = nI b
  | 0, _ => by
    show ∃ a b, a ≤ b ∧ b ≤ 9999 ∧ (if c 1 = 0 then (0 : Int32) else s_val c 0 j) = nI a ∧ (if c 1 = 0 then (0 : Int32) else s_val c 0 j) = nI b
    by_cases e : c 1 = 0
    · rw [if_pos e]
      exact ⟨0, 0, Nat.le_refl _, by omega, rfl, rfl⟩
    · rw [if_neg e]
      have hq0 : 0 < q := by
        refine Nat.pos_of_ne_zero (fun z => e ?_)
        rw [h1, z]
        rfl
      obtain ⟨v, v1, v2⟩ := hv 0 hq0
      exact ⟨v, v, Nat.le_refl _, v1, v2, v2⟩
  | l + 1, hl => by
    obtain ⟨a, b, e1, e2, e3, e4⟩ := s_ext_b h1 hq hv l (by omega)
    obtain ⟨v, v1, v2⟩ := hv l (by omega)
    show ∃ a b, a ≤ b ∧ b ≤ 9999 ∧ x_min (s_ext c j false l) (s_val c l j) = nI a ∧ x_max (s_ext c j true l) (s_val c l j) = nI b
    rw [e3, e4, v2, y_minN (by omega) (by omega), y_maxN (by omega) (by omega)]
    refine ⟨_, _, ?_, ?_, rfl, rfl⟩
    · by_cases c1 : v < a
      · rw [if_pos c1]
        by_cases c2 : b < v
        · rw [if_pos c2]; exact Nat.le_refl _
        · rw [if_neg c2]; omega
      · rw [if_neg c1]
        by_cases c2 : b < v
        · rw [if_pos c2]; omega
        · rw [if_neg c2]; exact e1
    · by_cases c2 : b < v
      · rw [if_pos c2]; exact v1
      · rw [if_neg c2]; exact e2
theorem s_new_cg {c c' : Nat → Int32} {j l : Nat} (h : ∀ k, k ≤ l → s_val c k j = s_val c' k j) : ∀ m, m ≤ l → s_new c j l m = s_new c' j l m
  | 0, _ => rfl
  | m + 1, hm => by
    show (s_new c j l m && !decide (s_val c m j = s_val c l j)) = (s_new c' j l m && !decide (s_val c' m j = s_val c' l j))
    rw [s_new_cg h m (by omega), h m (by omega), h l (Nat.le_refl _)]
theorem s_unl_cg {c c' : Nat → Int32} {j q : Nat} (h : ∀ k, k < q → s_val c k j = s_val c' k j) : ∀ l, l ≤ q → s_unl c j l = s_unl c' j l
  | 0, _ => rfl
  | l + 1, hl => by
    show s_unl c j l + (bif s_new c j l l then 1 else 0) = s_unl c' j l + (bif s_new c' j l l then 1 else 0)
    rw [s_unl_cg h l (by omega), s_new_cg (fun k hk => h k (by omega)) l (Nat.le_refl _)]
theorem s_ext_cg {c c' : Nat → Int32} {j q : Nat} {z : Bool} (h1 : c 1 = c' 1) (hq : c 1 = nI q) (hq4 : q ≤ 40) (h : ∀ k, k < q → s_val c k j = s_val c' k j) : ∀ l, l ≤ q → s_ext c j z l = s_ext c' j z l
  | 0, _ => by
    show (if c 1 = 0 then (0 : Int32) else s_val c 0 j) = (if c' 1 = 0 then (0 : Int32) else s_val c' 0 j)
    rw [← h1]
    by_cases e : c 1 = 0
    · rw [if_pos e, if_pos e]
    · rw [if_neg e, if_neg e]
      have hq0 : 0 < q := by
        refine Nat.pos_of_ne_zero (fun z => e ?_)
        rw [hq, z]
        rfl
      exact h 0 hq0
  | l + 1, hl => by
    show (bif z then x_max (s_ext c j z l) (s_val c l j) else x_min (s_ext c j z l) (s_val c l j)) = (bif z then x_max (s_ext c' j z l) (s_val c' l j) else x_min (s_ext c' j z l) (s_val c' l j))
    rw [s_ext_cg h1 hq hq4 h l (by omega), h l (by omega)]
/-- what looks leaves alone, and what it writes -/
theorem s_look_o {c : Nat → Int32} {q k : Nat} (h8 : k ≠ 8) : ∀ m, (∀ j, j < m → ∀ x, 10 ≤ x → x ≤ 12 → k ≠ 10 + 13 * j + x) → s_look c q m k = c k
  | 0, _ => updI_ne h8
  | m + 1, h => by
    show upd (upd (upd (s_look c q m) (10 + 13 * m + 10) _) (10 + 13 * m + 11) _) (10 + 13 * m + 12) _ k = c k
    rw [updI_ne (h m (by omega) 12 (by omega) (by omega)), updI_ne (h m (by omega) 11 (by omega) (by omega)), updI_ne (h m (by omega) 10 (by omega) (by omega))]
    exact s_look_o h8 m (fun j hj => h j (by omega))
theorem s_look_8 {c : Nat → Int32} {q : Nat} : ∀ m, s_look c q m 8 = c 1
  | 0 => updI_eq
  | m + 1 => by
    show upd (upd (upd (s_look c q m) (10 + 13 * m + 10) (s_unl c m q)) (10 + 13 * m + 11) (s_ext c m false q)) (10 + 13 * m + 12) (s_ext c m true q) 8 = c 1
    rw [updI_ne (by omega), updI_ne (by omega), updI_ne (by omega)]
    exact s_look_8 m
theorem s_look_v {c : Nat → Int32} {q j : Nat} : ∀ m, j < m → s_look c q m (10 + 13 * j + 10) = s_unl c j q ∧ s_look c q m (10 + 13 * j + 11) = s_ext c j false q ∧ s_look c q m (10 + 13 * j + 12) = s_ext c j true q
  | 0, h => absurd h (Nat.not_lt_zero _)
  | m + 1, h => by
    show upd (upd (upd (s_look c q m) (10 + 13 * m + 10) (s_unl c m q)) (10 + 13 * m + 11) (s_ext c m false q)) (10 + 13 * m + 12) (s_ext c m true q) (10 + 13 * j + 10) = _ ∧ upd (upd (upd (s_look c q m) (10 + 13 * m + 10) (s_unl c m q)) (10 + 13 * m + 11) (s_ext c m false q)) (10 + 13 * m + 12) (s_ext c m true q) (10 + 13 * j + 11) = _ ∧ upd (upd (upd (s_look c q m) (10 + 13 * m + 10) (s_unl c m q)) (10 + 13 * m + 11) (s_ext c m false q)) (10 + 13 * m + 12) (s_ext c m true q) (10 + 13 * j + 12) = _
    by_cases e : j = m
    · subst e
      refine ⟨?_, ?_, ?_⟩
      · rw [updI_ne (by omega), updI_ne (by omega), updI_eq]
      · rw [updI_ne (by omega), updI_eq]
      · rw [updI_eq]
    · obtain ⟨h1, h2, h3⟩ := s_look_v (c := c) (q := q) (j := j) m (by omega)
      refine ⟨?_, ?_, ?_⟩
      · rw [updI_ne (by omega), updI_ne (by omega), updI_ne (by omega)]; exact h1
      · rw [updI_ne (by omega), updI_ne (by omega), updI_ne (by omega)]; exact h2
      · rw [updI_ne (by omega), updI_ne (by omega), updI_ne (by omega)]; exact h3
/-- a row that is looked at has all that a row must have of its columns -/
theorem s_look_col {c : Nat → Int32} {q m : Nat} (h1 : c 1 = nI q) (hq : q ≤ 40) (hm : m ≤ 5) (hv : ∀ l, l < q → ∀ j, j < m → ∃ v, v ≤ 9999 ∧ s_val c l j = nI v) {j : Nat} (hj : j < m) (ht : s_col c j 8 = 0 ∨ s_col c j 8 = 1 ∨ s_col c j 8 = 2) (hx : s_col c j 9 = 0 ∨ s_col c j 9 = 1) : s_colok (s_look c q m) j := by
  obtain ⟨v1, v2, v3⟩ := s_look_v (c := c) (q := q) (j := j) m hj
  obtain ⟨u, u1, u2, u3⟩ := s_unl_b (c := c) (j := j) q
  obtain ⟨a, b, b1, b2, b3, b4⟩ := s_ext_b h1 hq (fun l hl => hv l hl j hj) q (Nat.le_refl _)
  have o8 : s_look c q m (10 + 13 * j + 8) = c (10 + 13 * j + 8) := s_look_o (by omega) m (fun i hi x x1 x2 => by omega)
  have o9 : s_look c q m (10 + 13 * j + 9) = c (10 + 13 * j + 9) := s_look_o (by omega) m (fun i hi x x1 x2 => by omega)
  refine ⟨?_, ?_, ⟨u, by omega, v1.trans u2, fun h => u3 ?_⟩, a, b, b1, b2, v2.trans b3, v3.trans b4⟩
  · unfold s_col; rw [o8]; exact ht
  · unfold s_col; rw [o9]; exact hx
  · rw [s_look_8, h1] at h
    refine Nat.pos_of_ne_zero (fun z => h ?_)
    rw [z]
    rfl
/-- and of two rows that have the same values the same is written -/
theorem s_look_rel {c c' : Nat → Int32} {q m : Nat} (h1 : c 1 = nI q) (h1' : c' 1 = nI q) (hq : q ≤ 40) (hv : ∀ l, l < q → ∀ j, j < m → s_val c l j = s_val c' l j) {j : Nat} (hj : j < m) : ∀ x, 10 ≤ x → x ≤ 12 → s_col (s_look c q m) j x = s_col (s_look c' q m) j x := fun x x1 x2 => by
  obtain ⟨v1, v2, v3⟩ := s_look_v (c := c) (q := q) (j := j) m hj
  obtain ⟨w1, w2, w3⟩ := s_look_v (c := c') (q := q) (j := j) m hj
  have hv1 : ∀ k, k < q → s_val c k j = s_val c' k j := fun k hk => hv k hk j hj
  rcases (show x = 10 ∨ x = 11 ∨ x = 12 by omega) with e | e | e
  · subst e
    exact v1.trans ((s_unl_cg hv1 q (Nat.le_refl _)).trans w1.symm)
  · subst e
    exact v2.trans ((s_ext_cg (h1.trans h1'.symm) h1 hq hv1 q (Nat.le_refl _)).trans w2.symm)
  · subst e
    exact v3.trans ((s_ext_cg (h1.trans h1'.symm) h1 hq hv1 q (Nat.le_refl _)).trans w3.symm)

