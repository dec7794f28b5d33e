/-! ===== the reference: the calls that change nothing ===== -/
abbrev s_fresh (c : Nat → Int32) (s : Nat) : Prop := ¬ s_st c s 14 = -2 ∧ s_st c s 16 = c 3
abbrev s_gen (c : Nat → Int32) (s : Nat) (cost : Int32) : Prop := cost.toInt64 * (s_st c s 9).toInt64 ≤ (s_st c s 10).toInt64
def s_cm (c : Nat → Int32) : Nat := (c 0).toNatClampNeg
def s_lm (c : Nat → Int32) : Nat := (c 1).toNatClampNeg
def s_sm (c : Nat → Int32) : Nat := (c 2).toNatClampNeg
/-- a column's numbers -/
def s_colok (c : Nat → Int32) (j : Nat) : Prop :=
  (s_col c j 8 = 0 ∨ s_col c j 8 = 1 ∨ s_col c j 8 = 2) ∧ (s_col c j 9 = 0 ∨ s_col c j 9 = 1) ∧ (∃ u, u ≤ 40 ∧ s_col c j 10 = nI u ∧ (¬ c 8 = 0 → 1 ≤ u)) ∧ ∃ a b, a ≤ b ∧ b ≤ 9999 ∧ s_col c j 11 = nI a ∧ s_col c j 12 = nI b
/-- a comparison's code -/
def s_cmpok (c : Nat → Int32) (k : Nat) : Prop :=
  (∃ j, j < s_cm c ∧ s_cod c k 1 = nI j) ∧ (s_cod c k 2 = 60 ∨ s_cod c k 2 = 61 ∨ s_cod c k 2 = 62) ∧ ((s_cod c k 3 = 0 ∧ ∃ v, v ≤ 9999 ∧ s_cod c k 4 = nI v) ∨ (s_cod c k 3 = 1 ∧ ∃ j, j < s_cm c ∧ s_cod c k 4 = nI j) ∨ (s_cod c k 3 = 2 ∧ ∃ h, h < 4 ∧ s_cod c k 4 = nI h))
/-- a statement's codes -/
def s_stok (c : Nat → Int32) (s : Nat) : Prop :=
  (∃ f t, f ≤ t ∧ t < 325 ∧ s_st c s 26 = nI f ∧ s_st c s 27 = nI t) ∧ s_fok c s ∧ (∀ k, s_from c s ≤ k → k < s_to c s → s_cod c k 0 = 0 → s_cmpok c k)
/-- what a plan that is kept may be -/
def s_kpok (c : Nat → Int32) (s : Nat) : Prop := s_st c s 14 = -2 ∨ s_st c s 14 = -1 ∨ ∃ j, j < s_cm c ∧ s_st c s 14 = nI j
/-- a row of the reference as calls make it -/
def s_wf (c : Nat → Int32) : Prop :=
  ((∃ m, m ≤ 5 ∧ c 0 = nI m) ∧ (∃ m, m ≤ 40 ∧ c 1 = nI m) ∧ (∃ m, m ≤ 6 ∧ c 2 = nI m) ∧ (∃ m, m ≤ 40 ∧ c 8 = nI m)) ∧ (∀ j, j < s_cm c → s_colok c j) ∧ (∀ s, s < s_sm c → s_stok c s) ∧ (∀ s, s < s_sm c → s_kpok c s)
theorem s_wf.cm {c : Nat → Int32} (h : s_wf c) : ∃ m, m ≤ 5 ∧ c 0 = nI m := h.1.1
theorem s_wf.lm {c : Nat → Int32} (h : s_wf c) : ∃ m, m ≤ 40 ∧ c 1 = nI m := h.1.2.1
theorem s_wf.sm {c : Nat → Int32} (h : s_wf c) : ∃ m, m ≤ 6 ∧ c 2 = nI m := h.1.2.2.1
theorem s_wf.seen {c : Nat → Int32} (h : s_wf c) : ∃ m, m ≤ 40 ∧ c 8 = nI m := h.1.2.2.2
theorem s_wf.col {c : Nat → Int32} (h : s_wf c) : ∀ j, j < s_cm c → s_colok c j := h.2.1
theorem s_wf.st {c : Nat → Int32} (h : s_wf c) : ∀ s, s < s_sm c → s_stok c s := h.2.2.1
theorem s_wf.kp {c : Nat → Int32} (h : s_wf c) : ∀ s, s < s_sm c → s_kpok c s := h.2.2.2
theorem s_wf.cmE {c : Nat → Int32} (h : s_wf c) : c 0 = nI (s_cm c) ∧ s_cm c ≤ 5 := by
  obtain ⟨m, h1, h2⟩ := h.cm
  have e : s_cm c = m := by unfold s_cm; rw [h2]; exact nI_clamp (by omega)
  rw [e]; exact ⟨h2, h1⟩
theorem s_wf.lmE {c : Nat → Int32} (h : s_wf c) : c 1 = nI (s_lm c) ∧ s_lm c ≤ 40 := by
  obtain ⟨m, h1, h2⟩ := h.lm
  have e : s_lm c = m := by unfold s_lm; rw [h2]; exact nI_clamp (by omega)
  rw [e]; exact ⟨h2, h1⟩
theorem s_wf.smE {c : Nat → Int32} (h : s_wf c) : c 2 = nI (s_sm c) ∧ s_sm c ≤ 6 := by
  obtain ⟨m, h1, h2⟩ := h.sm
  have e : s_sm c = m := by unfold s_sm; rw [h2]; exact nI_clamp (by omega)
  rw [e]; exact ⟨h2, h1⟩
theorem s_wf.kok {c : Nat → Int32} (h : s_wf c) {s : Nat} (hs : s < s_sm c) : s_kok c s := by
  obtain ⟨h1, -, h3⟩ := h.st s hs
  refine ⟨h1, fun k hk1 hk2 h0 => ?_⟩
  obtain ⟨⟨j, hj1, hj2⟩, -, hw⟩ := h3 k hk1 hk2 h0
  obtain ⟨-, -, ⟨u, hu0, hu1, hu2⟩, a, b, hab, hb, ha1, hb1⟩ := h.col j hj1
  refine ⟨j, Nat.lt_of_lt_of_le hj1 h.cmE.2, hj2, fun hk => ?_, fun h8 => ?_, ?_⟩
  · rcases hw with ⟨e, -⟩ | ⟨e, -⟩ | ⟨-, hh⟩
    · rw [e] at hk; exact absurd hk (by decide)
    · rw [e] at hk; exact absurd hk (by decide)
    · exact hh
  · rw [hu1]
    exact fun q => absurd ((n_eq (b := 0) rfl rfl (by omega) (by omega)).mp q) (by have := hu2 h8; omega)
  · rw [ha1, hb1, m_subc hab rfl]
    exact fun q => absurd ((n_eq (b := 0) (m_inc rfl) rfl (by omega) (by omega)).mp q) (by omega)
theorem s_wf.fok {c : Nat → Int32} (h : s_wf c) {s : Nat} (hs : s < s_sm c) : s_fok c s := (h.st s hs).2.1
abbrev n_ (x : Int32) : Nat := x.toNatClampNeg
def a_count (c : Nat → Int32) (x : Int32) : Int32 × Int32 := if (0 : Int32) ≤ x ∧ x ≤ 8 then (0, c (n_ x)) else (1, 0)
def a_column (c : Nat → Int32) (x y : Int32) : Int32 × Int32 :=
  if (0 : Int32) ≤ x ∧ x ≤ c 0 - 1 then (if (0 : Int32) ≤ y ∧ y ≤ 4 then (0, s_col c (n_ x) (8 + n_ y)) else (2, 0)) else (1, 0)
def a_hole (c : Nat → Int32) (x y : Int32) : Int32 × Int32 :=
  if (0 : Int32) ≤ x ∧ x ≤ c 2 - 1 then (if (0 : Int32) ≤ y ∧ y ≤ 3 then (0, s_st c (n_ x) (17 + n_ y)) else (2, 0)) else (1, 0)
def s_state (c : Nat → Int32) (s : Nat) : Int32 := if s_st c s 14 = -2 then 0 else if s_st c s 16 = c 3 then 1 else 2
def s_told (c : Nat → Int32) (s n : Nat) : Int32 := if n = 4 then s_state c s else s_st c s (8 + n)
def a_statement (c : Nat → Int32) (x y : Int32) : Int32 × Int32 :=
  if (0 : Int32) ≤ x ∧ x ≤ c 2 - 1 then (if (0 : Int32) ≤ y ∧ y ≤ 5 then (0, s_told c (n_ x) (n_ y)) else (2, 0)) else (1, 0)
def a_learned (c : Nat → Int32) (x y : Int32) : Int32 × Int32 :=
  if (0 : Int32) ≤ x ∧ x ≤ c 2 - 1 then (if (0 : Int32) ≤ y ∧ y ≤ c 0 - 1 then (0, s_st c (n_ x) (21 + n_ y)) else (1, 0)) else (1, 0)
def a_kept (c : Nat → Int32) (x : Int32) : Int32 × Int32 := if (0 : Int32) ≤ x ∧ x ≤ c 2 - 1 then (0, s_st c (n_ x) 14) else (1, 0)
def a_genericCost (c gv : Nat → Int32) (x y : Int32) : Int32 × Int32 :=
  if (0 : Int32) ≤ x ∧ x ≤ c 2 - 1 then (if (-1 : Int32) ≤ y ∧ y ≤ c 0 - 1 then (0, s_cost c gv (n_ x) y false) else (2, 0)) else (1, 0)
abbrev s_isv (c : Nat → Int32) (s h : Nat) (v : Int32) : Prop := (s_st c s (17 + h) = -1 ∧ v = 0) ∨ (¬ s_st c s (17 + h) = -1 ∧ (0 : Int32) ≤ v ∧ v ≤ s_most (s_st c s (17 + h)))
abbrev s_vok (c : Nat → Int32) (s : Nat) (v0 v1 v2 v3 : Int32) : Prop := s_isv c s 0 v0 ∧ s_isv c s 1 v1 ∧ s_isv c s 2 v2 ∧ s_isv c s 3 v3
def s_giv (gv : Nat → Int32) (v0 v1 v2 v3 : Int32) : Nat → Int32 := upd (upd (upd (upd gv 0 v0) 1 v1) 2 v2) 3 v3
/-- the values that a call takes -/
def s_gv (v0 v1 v2 v3 : Int32) : Nat → Int32 := fun k => if k = 0 then v0 else if k = 1 then v1 else if k = 2 then v2 else v3
section
variable {B : XH} {I : Nat → Int32} {T : Int64} {S : Nat → Nat → Int32} {rd tx gv : Nat → Int32} {P : Nat → Bool}
end
abbrev a_ifv (c : Nat → Int32) (x v0 v1 v2 v3 : Int32) {α : Type} (z v : α) : Int32 × α := if (0 : Int32) ≤ x ∧ x ≤ c 2 - 1 then (if s_vok c (n_ x) v0 v1 v2 v3 then (0, v) else (2, z)) else (1, z)
def a_specialCost (c : Nat → Int32) (x y v0 v1 v2 v3 : Int32) : Int32 × Int32 :=
  if (0 : Int32) ≤ x ∧ x ≤ c 2 - 1 then (if (-1 : Int32) ≤ y ∧ y ≤ c 0 - 1 then (if s_vok c (n_ x) v0 v1 v2 v3 then (0, s_cost c (s_gv v0 v1 v2 v3) (n_ x) y true) else (2, 0)) else (2, 0)) else (1, 0)
def s_wplan (c gv : Nat → Int32) (s : Nat) : Int32 := if s_fresh c s then s_st c s 14 else s_best c gv s (s_cm c) false
def s_wcost (c gv : Nat → Int32) (s : Nat) : Int32 := if s_fresh c s then s_st c s 15 else s_cost c gv s (s_wplan c gv s) false
/-- what a run would use -/
def s_would (c gv : Nat → Int32) (s : Nat) : Int32 :=
  if s_st c s 8 < c 7 then 2 * (s_best c gv s (s_cm c) true + 1) else if s_gen c s (s_wcost c gv s) then 2 * (s_wplan c gv s + 1) + 1 else 2 * (s_best c gv s (s_cm c) true + 1)
def s_bit (n : Nat) : Int64 := 1 <<< ((nI n).toInt64 &&& 63)
/-- the first n lines that a statement finds -/
def s_rws (c gv : Nat → Int32) (s : Nat) : Nat → Int64
  | 0 => 0
  | n + 1 => s_rws c gv s n ||| (bif s_find c gv s n then s_bit n else 0)
