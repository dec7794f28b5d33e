/-! ===== the reference: estimates, plans, costs ===== -/
def s_up (a b : Int32) : Int32 := (a + b - 1) / b
abbrev s_col (c : Nat → Int32) (j x : Nat) : Int32 := c (10 + 13 * j + x)
abbrev s_st (c : Nat → Int32) (s x : Nat) : Int32 := c (275 + 30 * s + x)
abbrev s_cod (c : Nat → Int32) (k x : Nat) : Int32 := c (455 + 6 * k + x)
abbrev s_val (c : Nat → Int32) (l j : Nat) : Int32 := c (75 + 5 * l + j)
/-- the estimate of comparison k, of column j, with value v -/
def s_seen (c : Nat → Int32) (k j : Nat) (v : Int32) : Int32 :=
  if s_cod c k 2 = 61 then (if v < s_col c j 11 then 0 else if s_col c j 12 < v then 0 else s_up (c 8) (s_col c j 10))
  else x_max 0 (x_min (c 8) (c 8 * (if s_cod c k 2 = 60 then v - s_col c j 11 else s_col c j 12 - v) / (s_col c j 12 - s_col c j 11 + 1)))
def s_est0 (c gv : Nat → Int32) (k j : Nat) (z : Bool) : Int32 :=
  if c 8 = 0 then 0 else
  if s_cod c k 3 = 2 then (bif z then s_seen c k j (gv (s_cod c k 4).toNatClampNeg) else (if s_cod c k 2 = 61 then s_up (c 8) (s_col c j 10) else (c 8 + 2) / 3))
  else s_seen c k j (s_cod c k 4)
/-- the estimate of comparison k, its values seen or not -/
def s_est (c gv : Nat → Int32) (k : Nat) (z : Bool) : Int32 := s_est0 c gv k (s_cod c k 1).toNatClampNeg z
/-- a comparison that can be estimated -/
def s_eok (c : Nat → Int32) (k : Nat) : Prop :=
  ∃ j, j < 5 ∧ s_cod c k 1 = nI j ∧ (s_cod c k 3 = 2 → ∃ h, h < 4 ∧ s_cod c k 4 = nI h) ∧ (¬ c 8 = 0 → ¬ s_col c j 10 = 0) ∧ ¬ s_col c j 12 - s_col c j 11 + 1 = 0
def s_pick (c gv : Nat → Int32) (col : Int32) (z : Bool) (k : Nat) (b : Int32) : Int32 :=
  if s_cod c k 0 = 0 then (if s_cod c k 5 = 1 then (if s_cod c k 1 = col then (if b = -1 then nI k else if s_est c gv k z < s_est c gv b.toNatClampNeg z then nI k else b) else b) else b) else b
def s_chos (c gv : Nat → Int32) (col : Int32) (z : Bool) (f : Nat) : Nat → Int32
  | 0 => -1
  | n + 1 => s_pick c gv col z (f + n) (s_chos c gv col z f n)
def s_from (c : Nat → Int32) (s : Nat) : Nat := (s_st c s 26).toNatClampNeg
def s_to (c : Nat → Int32) (s : Nat) : Nat := (s_st c s 27).toNatClampNeg
/-- the comparison that a plan by a column chooses; -1 -/
def s_chosen (c gv : Nat → Int32) (s : Nat) (col : Int32) (z : Bool) : Int32 := s_chos c gv col z (s_from c s) (s_to c s - s_from c s)
/-- a statement's codes: where they lie, and that its comparisons can be estimated -/
def s_kok (c : Nat → Int32) (s : Nat) : Prop :=
  (∃ f t, f ≤ t ∧ t < 325 ∧ s_st c s 26 = nI f ∧ s_st c s 27 = nI t) ∧ ∀ k, s_from c s ≤ k → k < s_to c s → s_cod c k 0 = 0 → s_eok c k
theorem s_kok_ft {c : Nat → Int32} {s : Nat} (h : s_kok c s) : s_from c s ≤ s_to c s ∧ s_to c s < 325 ∧ s_st c s 26 = nI (s_from c s) ∧ s_st c s 27 = nI (s_to c s) := by
  obtain ⟨⟨f, t, h1, h2, h3, h4⟩, -⟩ := h
  have ef : s_from c s = f := by unfold s_from; rw [h3]; exact nI_clamp (by omega)
  have et : s_to c s = t := by unfold s_to; rw [h4]; exact nI_clamp (by omega)
  rw [ef, et]
  exact ⟨h1, h2, h3, h4⟩
theorem s_pick_ok {c gv : Nat → Int32} {col : Int32} {z : Bool} {k : Nat} {b : Int32} {P : Nat → Prop} (hb : b = -1 ∨ ∃ q, P q ∧ b = nI q) (hk : s_cod c k 0 = 0 → s_cod c k 5 = 1 → s_cod c k 1 = col → P k) : s_pick c gv col z k b = -1 ∨ ∃ q, P q ∧ s_pick c gv col z k b = nI q := by
  unfold s_pick
  by_cases h1 : s_cod c k 0 = 0
  · rw [if_pos h1]
    by_cases h2 : s_cod c k 5 = 1
    · rw [if_pos h2]
      by_cases h3 : s_cod c k 1 = col
      · rw [if_pos h3]
        repeat' split
        all_goals first | exact hb | exact Or.inr ⟨k, hk h1 h2 h3, rfl⟩
      · rw [if_neg h3]; exact hb
    · rw [if_neg h2]; exact hb
  · rw [if_neg h1]
    exact hb
/-- the chosen comparison is one of the statement's, of this column -/
theorem s_chos_ok {c gv : Nat → Int32} {col : Int32} {z : Bool} {f : Nat} : ∀ n, s_chos c gv col z f n = -1 ∨ ∃ q, (f ≤ q ∧ q < f + n ∧ s_cod c q 0 = 0 ∧ s_cod c q 5 = 1 ∧ s_cod c q 1 = col) ∧ s_chos c gv col z f n = nI q
  | 0 => Or.inl rfl
  | n + 1 => by
    have hb : s_chos c gv col z f n = -1 ∨ ∃ q, (f ≤ q ∧ q < f + (n + 1) ∧ s_cod c q 0 = 0 ∧ s_cod c q 5 = 1 ∧ s_cod c q 1 = col) ∧ s_chos c gv col z f n = nI q := by
      rcases s_chos_ok n with h | ⟨q, h1, h2⟩
      · exact Or.inl h
      · exact Or.inr ⟨q, ⟨h1.1, by omega, h1.2.2⟩, h2⟩
    exact s_pick_ok hb fun h1 h2 h3 => ⟨by omega, by omega, h1, h2, h3⟩
theorem s_chosen_ok {c gv : Nat → Int32} {s : Nat} {col : Int32} {z : Bool} (h : s_kok c s) : s_chosen c gv s col z = -1 ∨ ∃ q, (s_from c s ≤ q ∧ q < s_to c s ∧ s_cod c q 0 = 0 ∧ s_cod c q 5 = 1 ∧ s_cod c q 1 = col) ∧ s_chosen c gv s col z = nI q := by
  have h0 := s_kok_ft h
  rcases s_chos_ok (c := c) (gv := gv) (col := col) (z := z) (f := s_from c s) (s_to c s - s_from c s) with h | ⟨q, h1, h2⟩
  · exact Or.inl h
  · exact Or.inr ⟨q, ⟨h1.1, by omega, h1.2.2⟩, h2⟩
def s_cost1 (c gv : Nat → Int32) (s j : Nat) (p : Int32) (z : Bool) : Int32 :=
  if s_col c j 9 = 1 then (if s_chosen c gv s p z = -1 then -1 else c 5 + c 6 * (s_est c gv (s_chosen c gv s p z).toNatClampNeg z * s_st c s (21 + j) / 100)) else -1
/-- what a plan costs; -1 -/
def s_cost (c gv : Nat → Int32) (s : Nat) (p : Int32) (z : Bool) : Int32 := if p = -1 then c 4 * c 8 else s_cost1 c gv s p.toNatClampNeg p z
def s_bst1 (q : Int32 × Int32) (n : Nat) (x : Int32) : Int32 × Int32 := if x = -1 then q else if x < q.2 then (nI n, x) else q
def s_bst (c gv : Nat → Int32) (s : Nat) (z : Bool) : Nat → Int32 × Int32
  | 0 => (-1, s_cost c gv s (-1) z)
  | n + 1 => s_bst1 (s_bst c gv s z n) n (s_cost c gv s (nI n) z)
/-- the best of the plans by m columns and the scan -/
def s_best (c gv : Nat → Int32) (s : Nat) (m : Nat) (z : Bool) : Int32 := (s_bst c gv s z m).1
theorem s_best_ok {c gv : Nat → Int32} {s : Nat} {z : Bool} : ∀ m, s_best c gv s m z = -1 ∨ ∃ j, j < m ∧ s_best c gv s m z = nI j
  | 0 => Or.inl rfl
  | n + 1 => by
    have h0 := s_best_ok (c := c) (gv := gv) (s := s) (z := z) n
    unfold s_best at h0 ⊢
    show (s_bst1 _ _ _).1 = -1 ∨ ∃ j, j < n + 1 ∧ (s_bst1 _ _ _).1 = nI j
    unfold s_bst1
    have hb : (s_bst c gv s z n).1 = -1 ∨ ∃ j, j < n + 1 ∧ (s_bst c gv s z n).1 = nI j := by
      rcases h0 with h | ⟨j, h1, h2⟩
      · exact Or.inl h
      · exact Or.inr ⟨j, by omega, h2⟩
    repeat' split
    all_goals first | exact hb | exact Or.inr ⟨n, by omega, rfl⟩
def s_cmp (sg a b : Int32) : Bool := if sg = 60 then decide (a < b) else if sg = 61 then decide (a = b) else decide (b < a)
def s_rhs (c gv : Nat → Int32) (k l : Nat) : Int32 :=
  if s_cod c k 3 = 0 then s_cod c k 4 else if s_cod c k 3 = 1 then s_val c l (s_cod c k 4).toNatClampNeg else gv (s_cod c k 4).toNatClampNeg
/-- does comparison k hold in line l -/
def s_tru (c gv : Nat → Int32) (k l : Nat) : Bool := s_cmp (s_cod c k 2) (s_val c l (s_cod c k 1).toNatClampNeg) (s_rhs c gv k l)
/-- a comparison that can be asked -/
def s_tok (c : Nat → Int32) (k : Nat) : Prop :=
  (∃ j, j < 5 ∧ s_cod c k 1 = nI j) ∧ (s_cod c k 3 = 1 → ∃ j, j < 5 ∧ s_cod c k 4 = nI j) ∧ (¬ s_cod c k 3 = 0 → ¬ s_cod c k 3 = 1 → ∃ h, h < 4 ∧ s_cod c k 4 = nI h)
def s_hg1 (op : Int32) (h : Nat) : Nat := if op = 0 then h + 1 else if op = 3 then h else h - 1
/-- how many truths lie on the pile after n codes -/
def s_hg (c : Nat → Int32) (f : Nat) : Nat → Nat
  | 0 => 0
  | n + 1 => s_hg1 (s_cod c (f + n) 0) (s_hg c f n)
def s_px1 (op : Int32) (h : Nat) (t : Bool) (P : Nat → Bool) : Nat → Bool :=
  if op = 0 then s_upb P h t else if op = 3 then s_upb P (h - 1) (!P (h - 1)) else s_upb P (h - 1 - 1) (if op = 1 then P (h - 1 - 1) && P (h - 1) else P (h - 1 - 1) || P (h - 1))
/-- the pile after n codes -/
def s_px (c gv : Nat → Int32) (l f : Nat) (P : Nat → Bool) : Nat → Nat → Bool
  | 0 => P
  | n + 1 => s_px1 (s_cod c (f + n) 0) (s_hg c f n) (s_tru c gv (f + n) l) (s_px c gv l f P n)
/-- the codes from f, n of them, can be reckoned -/
def s_pok (c : Nat → Int32) (f n : Nat) : Prop :=
  ∀ k, k < n → (s_cod c (f + k) 0 = 0 ∧ s_tok c (f + k)) ∨ (s_cod c (f + k) 0 = 3 ∧ 1 ≤ s_hg c f k) ∨ (¬ s_cod c (f + k) 0 = 0 ∧ ¬ s_cod c (f + k) 0 = 3 ∧ 2 ≤ s_hg c f k)
theorem s_pok_tok {c : Nat → Int32} {f n k : Nat} (h : s_pok c f n) (hk : k < n) (h0 : s_cod c (f + k) 0 = 0) : s_tok c (f + k) := by
  rcases h k hk with h | h | h
  · exact h.2
  · exact absurd (h0.symm.trans h.1) (by decide)
  · exact absurd h0 h.1
/-- is the statement's condition true of line l -/
def s_find (c gv : Nat → Int32) (s l : Nat) : Bool := s_px c gv l (s_from c s) (fun _ => false) (s_to c s - s_from c s) 0
/-- a statement whose condition can be asked -/
def s_fok (c : Nat → Int32) (s : Nat) : Prop := s_pok c (s_from c s) (s_to c s - s_from c s) ∧ s_hg c (s_from c s) (s_to c s - s_from c s) = 1
