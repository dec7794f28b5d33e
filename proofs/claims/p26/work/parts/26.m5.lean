/-! ===== the reference: insert, delete, setIndex, analyze, undo, checksum ===== -/
abbrev s_icell (c : Nat → Int32) (j : Nat) (v : Int32) : Prop := (j < s_cm c ∧ (0 : Int32) ≤ v ∧ v ≤ s_most (s_col c j 8)) ∨ (¬ j < s_cm c ∧ v = 0)
def s_ins (c : Nat → Int32) (a b e f g : Int32) : Nat → Int32 :=
  upd (upd (upd (upd (upd (upd c (75 + 5 * s_lm c + 0) a) (75 + 5 * s_lm c + 0 + 1) b) (75 + 5 * s_lm c + 0 + 2) e) (75 + 5 * s_lm c + 0 + 3) f) (75 + 5 * s_lm c + 0 + 4) g) 1 (c 1 + 1)
abbrev s_icells (c : Nat → Int32) (a b e f g : Int32) : Prop := s_icell c 0 a ∧ s_icell c 1 b ∧ s_icell c 2 e ∧ s_icell c 3 f ∧ s_icell c 4 g
/-- n cells from a on are those five behind -/
def s_shift (c : Nat → Int32) (a n : Nat) : Nat → Int32 := fun j => if a ≤ j ∧ j < a + n then c (j + 5) else c j
theorem s_shift_0 {c : Nat → Int32} {a : Nat} : s_shift c a 0 = c := by
  funext j
  unfold s_shift
  rw [if_neg (by omega)]
theorem s_shift_1 {c : Nat → Int32} {a n : Nat} : upd (s_shift c a n) (a + n) (s_shift c a n (a + n + 5)) = s_shift c a (n + 1) := by
  funext j
  by_cases h : j = a + n
  · rw [h, updI_eq]
    unfold s_shift
    rw [if_neg (by omega), if_pos (by omega)]
  · rw [updI_ne h]
    unfold s_shift
    by_cases h2 : a ≤ j ∧ j < a + n
    · rw [if_pos h2, if_pos (by omega)]
    · rw [if_neg h2, if_neg (by omega)]
/-- the row without line l -/
def s_del (c : Nat → Int32) (l : Nat) : Nat → Int32 := s_shift (upd c 1 (nI (s_lm c - 1))) (75 + 5 * l + 0) (5 * (s_lm c - 1 - l))
/-- is line l's value in column j another than those of the first m lines -/
def s_new (c : Nat → Int32) (j l : Nat) : Nat → Bool
  | 0 => true
  | m + 1 => s_new c j l m && !decide (s_val c m j = s_val c l j)
def s_unl (c : Nat → Int32) (j : Nat) : Nat → Int32
  | 0 => 0
  | l + 1 => s_unl c j l + (bif s_new c j l l then 1 else 0)
def s_ext (c : Nat → Int32) (j : Nat) (z : Bool) : Nat → Int32
  | 0 => if c 1 = 0 then 0 else s_val c 0 j
  | l + 1 => bif z then x_max (s_ext c j z l) (s_val c l j) else x_min (s_ext c j z l) (s_val c l j)
/-- two rows that agree but for the columns and what was seen -/
def s_agV (c c' : Nat → Int32) : Prop := ∀ k, (k < 8 ∨ 75 ≤ k) → c k = c' k
theorem s_agV_upd {c c' : Nat → Int32} {k : Nat} {v : Int32} (h : s_agV c c') (hk : 8 ≤ k ∧ k < 75) : s_agV c (upd c' k v) := fun i hi => by
  rw [updI_ne (by omega)]; exact h i hi
theorem s_agV.new {c c' : Nat → Int32} (h : s_agV c c') {j l : Nat} : ∀ m, s_new c j l m = s_new c' j l m
  | 0 => rfl
  | m + 1 => by
    show (s_new c j l m && !decide (s_val c m j = s_val c l j)) = (s_new c' j l m && !decide (s_val c' m j = s_val c' l j))
    rw [s_agV.new h m, show s_val c m j = s_val c' m j from h _ (by omega), show s_val c l j = s_val c' l j from h _ (by omega)]
theorem s_agV.unl {c c' : Nat → Int32} (h : s_agV c c') {j : Nat} : ∀ l, s_unl c j l = s_unl c' j l
  | 0 => rfl
  | l + 1 => by
    show s_unl c j l + (bif s_new c j l l then 1 else 0) = s_unl c' j l + (bif s_new c' j l l then 1 else 0)
    rw [s_agV.unl h l, h.new]
theorem s_agV.ext {c c' : Nat → Int32} (h : s_agV c c') {j : Nat} {z : Bool} : ∀ l, s_ext c j z l = s_ext c' j z l
  | 0 => by
    show (if c 1 = 0 then 0 else s_val c 0 j) = (if c' 1 = 0 then 0 else s_val c' 0 j)
    rw [h 1 (by omega), show s_val c 0 j = s_val c' 0 j from h _ (by omega)]
  | l + 1 => by
    show (bif z then x_max (s_ext c j z l) (s_val c l j) else x_min (s_ext c j z l) (s_val c l j)) = (bif z then x_max (s_ext c' j z l) (s_val c' l j) else x_min (s_ext c' j z l) (s_val c' l j))
    rw [s_agV.ext h l, show s_val c l j = s_val c' l j from h _ (by omega)]
def s_look1 (c e : Nat → Int32) (q j : Nat) : Nat → Int32 :=
  upd (upd (upd e (10 + 13 * j + 10) (s_unl c j q)) (10 + 13 * j + 11) (s_ext c j false q)) (10 + 13 * j + 12) (s_ext c j true q)
/-- the statistics of the first columns are taken -/
def s_look (c : Nat → Int32) (q : Nat) : Nat → Nat → Int32
  | 0 => upd c 8 (c 1)
  | j + 1 => s_look1 c (s_look c q j) q j
theorem s_look_ag {c : Nat → Int32} {q : Nat} : ∀ m, m ≤ 5 → s_agV c (s_look c q m)
  | 0, _ => s_agV_upd (fun _ _ => rfl) (by omega)
  | m + 1, hm => s_agV_upd (s_agV_upd (s_agV_upd (s_look_ag m (by omega)) (by omega)) (by omega)) (by omega)
def s_ana (c : Nat → Int32) : Nat → Int32 := upd (s_look c (s_lm c) (s_cm c)) 3 (c 3 + 1)
