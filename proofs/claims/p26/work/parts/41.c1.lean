/-! ===== the class: its cells ===== -/
/-- the class's object: its numbers -/
def cO (J : Nat → Int32) : Nat → Value := fun k => match k with
  | 0 => .ref 65
  | 3 => .ref 66
  | 4 => .ref 70
  | k => .int (J k)
/-- the tokens' object -/
def tO (K : Nat → Int32) (tl : Int64) : Nat → Value := fun k => match k with
  | 0 => .ref 67
  | 1 => .ref 68
  | 2 => .ref 69
  | 7 => .long tl
  | k => .int (K k)
/-- a Data at place i: its Setup's name, its numbers as a row of the reference has them -/
def dV (o i : Nat) (d : Nat → Int32) : Nat → Value := fun k => match k with
  | 0 => .ref o
  | 1 => .int (d 1)
  | 2 => .int (d 3)
  | 3 => .ref (75 + 20 * i + 1)
  | 4 => .ref (75 + 20 * i + 2)
  | 5 => .ref (75 + 20 * i + 3)
  | _ => .ref (75 + 20 * i + 7)
def sV (i : Nat) (d : Nat → Int32) : Nat → Value := fun k => match k with
  | 0 => .int (d 8)
  | 1 => .ref (75 + 20 * i + 4)
  | 2 => .ref (75 + 20 * i + 5)
  | _ => .ref (75 + 20 * i + 6)
/-- where a usage's field stands in the row -/
def uP : Nat → Nat
  | 0 => 8
  | 1 => 9
  | 2 => 10
  | 3 => 11
  | 4 => 14
  | 5 => 15
  | 6 => 16
  | _ => 13
def uV (i s : Nat) (d : Nat → Int32) : Nat → Value := fun k => match k with
  | 0 => .int (d (275 + 30 * s + 8))
  | 1 => .int (d (275 + 30 * s + 9))
  | 2 => .int (d (275 + 30 * s + 10))
  | 3 => .int (d (275 + 30 * s + 11))
  | 4 => .int (d (275 + 30 * s + 14))
  | 5 => .int (d (275 + 30 * s + 15))
  | 6 => .int (d (275 + 30 * s + 16))
  | 7 => .int (d (275 + 30 * s + 13))
  | _ => .ref (75 + 20 * i + (9 + 2 * s))
def cI (n b e x : Nat) (d : Nat → Int32) : Nat → Value := fun j => .int (if j < n then d (b + e * j + x) else 0)
def dcell (o : Nat) (d : Nat → Int32) (i t : Nat) : XC :=
  bif Nat.beq t 0 then .inl (3, dV o i d) else
  bif Nat.beq t 1 then .inr (true, .int, 200, cI 200 75 1 0 d) else
  bif Nat.beq t 2 then .inr (true, .boolean, 5, cI 5 10 13 9 d) else
  bif Nat.beq t 3 then .inl (7, sV i d) else
  bif Nat.beq t 4 then .inr (true, .int, 5, cI 5 10 13 10 d) else
  bif Nat.beq t 5 then .inr (true, .int, 5, cI 5 10 13 11 d) else
  bif Nat.beq t 6 then .inr (true, .int, 5, cI 5 10 13 12 d) else
  bif Nat.beq t 7 then .inr (true, .object "PreparedPlans$Usage", 6, fun j => .ref (75 + 20 * i + (8 + 2 * j))) else
  bif Nat.beq (t % 2) 0 then .inl (9, uV i ((t - 8) / 2) d) else .inr (true, .int, 5, cI 5 (275 + 30 * ((t - 8) / 2)) 1 21 d)
/-- the class over the other cells B: its numbers J, the buffer, the tokens, of each Data its Setup and its numbers -/
def cset (B : XH) (J bf K tk ts : Nat → Int32) (tl : Int64) (tv : Nat → Int64) (su : Nat → Nat) (D : Nat → Nat → Int32) : XH := fun k =>
  bif Nat.beq k 64 then some (.inl (10, cO J)) else
  bif Nat.beq k 65 then some (.inr (true, .byte, 800, fun j => .int (bf j))) else
  bif Nat.beq k 66 then some (.inl (8, tO K tl)) else
  bif Nat.beq k 67 then some (.inr (true, .int, 801, fun j => .int (tk j))) else
  bif Nat.beq k 68 then some (.inr (true, .int, 801, fun j => .int (ts j))) else
  bif Nat.beq k 69 then some (.inr (true, .long, 801, fun j => .long (tv j))) else
  bif Nat.beq k 70 then some (.inr (true, .object "PreparedPlans$Data", 10, fun j => .ref (75 + 20 * j))) else
  bif Nat.ble 75 k && Nat.ble k 274 then some (dcell (su ((k - 75) / 20)) (D ((k - 75) / 20)) ((k - 75) / 20) ((k - 75) % 20)) else B k
def updN (su : Nat → Nat) (i x : Nat) : Nat → Nat := fun a => if a = i then x else su a
theorem updN_eq {su : Nat → Nat} {i x : Nat} : updN su i x i = x := if_pos rfl
theorem updN_ne {su : Nat → Nat} {i x a : Nat} (h : a ≠ i) : updN su i x a = su a := if_neg h
theorem updN_self {su : Nat → Nat} {i : Nat} : updN su i (su i) = su := by
  funext a
  unfold updN
  by_cases h : a = i
  · rw [if_pos h, h]
  · rw [if_neg h]
section CLASS
variable {B : XH} {J bf K tk ts : Nat → Int32} {tl : Int64} {tv : Nat → Int64} {su : Nat → Nat} {D : Nat → Nat → Int32} {i s t k : Nat} {x : Int32}
theorem c_at (hi : i < 10) (ht : t < 20) : cset B J bf K tk ts tl tv su D (75 + 20 * i + t) = some (dcell (su i) (D i) i t) := by
  unfold cset
  rw [beq_ne (show ¬ 75 + 20 * i + t = 64 by omega), beq_ne (show ¬ 75 + 20 * i + t = 65 by omega), beq_ne (show ¬ 75 + 20 * i + t = 66 by omega), beq_ne (show ¬ 75 + 20 * i + t = 67 by omega), beq_ne (show ¬ 75 + 20 * i + t = 68 by omega), beq_ne (show ¬ 75 + 20 * i + t = 69 by omega), beq_ne (show ¬ 75 + 20 * i + t = 70 by omega)]
  rw [Nat.ble_eq_true_of_le (show 75 ≤ 75 + 20 * i + t by omega), Nat.ble_eq_true_of_le (show 75 + 20 * i + t ≤ 274 by omega)]
  rw [show (75 + 20 * i + t - 75) / 20 = i by omega, show (75 + 20 * i + t - 75) % 20 = t by omega]
  rfl
theorem c_out (h1 : ¬ (64 ≤ k ∧ k ≤ 70)) (h2 : ¬ (75 ≤ k ∧ k ≤ 274)) : cset B J bf K tk ts tl tv su D k = B k := by
  unfold cset
  rw [beq_ne (show ¬ k = 64 by omega), beq_ne (show ¬ k = 65 by omega), beq_ne (show ¬ k = 66 by omega), beq_ne (show ¬ k = 67 by omega), beq_ne (show ¬ k = 68 by omega), beq_ne (show ¬ k = 69 by omega), beq_ne (show ¬ k = 70 by omega)]
  have e : (Nat.ble 75 k && Nat.ble k 274) = false := by
    cases h3 : Nat.ble 75 k with
    | false => rfl
    | true =>
      cases h4 : Nat.ble k 274 with
      | false => rfl
      | true => exact absurd ⟨Nat.le_of_ble_eq_true h3, Nat.le_of_ble_eq_true h4⟩ h2
  rw [e]
  rfl
/-- a cell of a Data is written -/
theorem c_set {o' : Nat} {d' : Nat → Int32} {c : XC} (hi : i < 10) (ht : t < 20) (h : ∀ t', t' < 20 → dcell o' d' i t' = if t' = t then c else dcell (su i) (D i) i t') : x_set (cset B J bf K tk ts tl tv su D) (75 + 20 * i + t) c = cset B J bf K tk ts tl tv (updN su i o') (updR D i d') := by
  funext k
  by_cases hk : 75 ≤ k ∧ k ≤ 274
  · obtain ⟨a, b, ha, hb, rfl⟩ : ∃ a b, a < 10 ∧ b < 20 ∧ k = 75 + 20 * a + b := ⟨(k - 75) / 20, (k - 75) % 20, by omega, by omega, by omega⟩
    rw [c_at ha hb]
    unfold x_set
    by_cases e : a = i
    · subst a
      rw [updN_eq, updR_eq, h b hb]
      by_cases e2 : b = t
      · rw [if_pos (by omega), if_pos e2]
      · rw [if_neg (by omega), if_neg e2, c_at hi hb]
    · rw [if_neg (by omega), c_at ha hb, updN_ne e, updR_ne e]
  · unfold x_set
    rw [if_neg (by omega)]
    by_cases h1 : 64 ≤ k ∧ k ≤ 70
    · have h7 : k = 64 ∨ k = 65 ∨ k = 66 ∨ k = 67 ∨ k = 68 ∨ k = 69 ∨ k = 70 := by omega
      rcases h7 with rfl | rfl | rfl | rfl | rfl | rfl | rfl <;> rfl
    · rw [c_out h1 hk, c_out h1 hk]
abbrev XC_arr (n : Nat) (f : Nat → Value) : XC := .inr (true, .int, n, f)
/-- the places of a row that cell t tells -/
def rdP (t p : Nat) : Prop :=
  (t = 0 ∧ (p = 1 ∨ p = 3)) ∨ (t = 1 ∧ 75 ≤ p ∧ p < 275) ∨ (t = 2 ∧ 19 ≤ p ∧ p ≤ 71 ∧ (p - 19) % 13 = 0) ∨ (t = 3 ∧ p = 8) ∨ (t = 4 ∧ 20 ≤ p ∧ p ≤ 72 ∧ (p - 20) % 13 = 0) ∨ (t = 5 ∧ 21 ≤ p ∧ p ≤ 73 ∧ (p - 21) % 13 = 0) ∨ (t = 6 ∧ 22 ≤ p ∧ p ≤ 74 ∧ (p - 22) % 13 = 0) ∨
  (8 ≤ t ∧ t % 2 = 0 ∧ 275 + 30 * ((t - 8) / 2) + 8 ≤ p ∧ p ≤ 275 + 30 * ((t - 8) / 2) + 16) ∨ (8 ≤ t ∧ t % 2 = 1 ∧ 275 + 30 * ((t - 8) / 2) + 21 ≤ p ∧ p ≤ 275 + 30 * ((t - 8) / 2) + 25)
theorem uP_le (k : Nat) : 8 ≤ uP k ∧ uP k ≤ 16 := by
  unfold uP
  split <;> decide
theorem cI_ne {n b e y p : Nat} {d : Nat → Int32} (h : ∀ j, j < n → ¬ b + e * j + y = p) : cI n b e y (upd d p x) = cI n b e y d := by
  funext j
  unfold cI
  by_cases hj : j < n
  · rw [if_pos hj, if_pos hj, updI_ne (h j hj)]
  · rw [if_neg hj, if_neg hj]
theorem cI_eq {n b e y : Nat} {d : Nat → Int32} (hk : k < n) (he : e = 1 ∨ e = 13) : cI n b e y (upd d (b + e * k + y) x) = updV (cI n b e y d) k (.int x) := by
  funext j
  unfold cI updV
  by_cases hj : j = k
  · rw [if_pos hj, if_pos (by omega), hj, updI_eq]
  · rw [if_neg hj]
    show _ = Value.int (if j < n then d (b + e * j + y) else 0)
    by_cases h2 : j < n
    · rw [if_pos h2, if_pos h2, updI_ne (by rcases he with rfl | rfl <;> omega)]
    · rw [if_neg h2, if_neg h2]
theorem cI_at {n b e y : Nat} {d : Nat → Int32} (hk : k < n) : cI n b e y d k = .int (d (b + e * k + y)) := by
  unfold cI
  rw [if_pos hk]
theorem dV_ne {o p : Nat} {d : Nat → Int32} (h : ¬ (p = 1 ∨ p = 3)) : dV o i (upd d p x) = dV o i d := by
  funext k
  unfold dV
  split <;> first | rfl | rw [updI_ne (by omega)]
theorem sV_ne {p : Nat} {d : Nat → Int32} (h : ¬ p = 8) : sV i (upd d p x) = sV i d := by
  funext k
  unfold sV
  split <;> first | rfl | rw [updI_ne (by omega)]
theorem uV_ne {p : Nat} {d : Nat → Int32} (h : ¬ (275 + 30 * s + 8 ≤ p ∧ p ≤ 275 + 30 * s + 16)) : uV i s (upd d p x) = uV i s d := by
  funext k
  unfold uV
  split <;> first | rfl | rw [updI_ne (by omega)]
theorem dc_0 {o : Nat} {d : Nat → Int32} : dcell o d i 0 = .inl (3, dV o i d) := rfl
theorem dc_3 {o : Nat} {d : Nat → Int32} : dcell o d i 3 = .inl (7, sV i d) := rfl
theorem dc_u {o : Nat} {d : Nat → Int32} (hs : s < 6) : dcell o d i (8 + 2 * s) = .inl (9, uV i s d) := by
  unfold dcell
  rw [beq_ne (show ¬ 8 + 2 * s = 0 by omega), beq_ne (show ¬ 8 + 2 * s = 1 by omega), beq_ne (show ¬ 8 + 2 * s = 2 by omega), beq_ne (show ¬ 8 + 2 * s = 3 by omega), beq_ne (show ¬ 8 + 2 * s = 4 by omega), beq_ne (show ¬ 8 + 2 * s = 5 by omega), beq_ne (show ¬ 8 + 2 * s = 6 by omega), beq_ne (show ¬ 8 + 2 * s = 7 by omega), show (8 + 2 * s) % 2 = 0 by omega, show (8 + 2 * s - 8) / 2 = s by omega]
  rfl
theorem dc_p {o : Nat} {d : Nat → Int32} (hs : s < 6) : dcell o d i (9 + 2 * s) = .inr (true, .int, 5, cI 5 (275 + 30 * s) 1 21 d) := by
  unfold dcell
  rw [beq_ne (show ¬ 9 + 2 * s = 0 by omega), beq_ne (show ¬ 9 + 2 * s = 1 by omega), beq_ne (show ¬ 9 + 2 * s = 2 by omega), beq_ne (show ¬ 9 + 2 * s = 3 by omega), beq_ne (show ¬ 9 + 2 * s = 4 by omega), beq_ne (show ¬ 9 + 2 * s = 5 by omega), beq_ne (show ¬ 9 + 2 * s = 6 by omega), beq_ne (show ¬ 9 + 2 * s = 7 by omega), show (9 + 2 * s) % 2 = 1 by omega, show (9 + 2 * s - 8) / 2 = s by omega]
  rfl
theorem dc_ne {o p : Nat} {d : Nat → Int32} (ht : t < 20) (h : ¬ rdP t p) : dcell o (upd d p x) i t = dcell o d i t := by
  unfold rdP at h
  have hc : t = 0 ∨ t = 1 ∨ t = 2 ∨ t = 3 ∨ t = 4 ∨ t = 5 ∨ t = 6 ∨ t = 7 ∨ (∃ s, s < 6 ∧ t = 8 + 2 * s) ∨ (∃ s, s < 6 ∧ t = 9 + 2 * s) := by
    by_cases h8 : t < 8
    · omega
    · by_cases h2 : t % 2 = 0
      · exact Or.inr (Or.inr (Or.inr (Or.inr (Or.inr (Or.inr (Or.inr (Or.inr (Or.inl ⟨(t - 8) / 2, by omega, by omega⟩))))))))
      · exact Or.inr (Or.inr (Or.inr (Or.inr (Or.inr (Or.inr (Or.inr (Or.inr (Or.inr ⟨(t - 8) / 2, by omega, by omega⟩))))))))
  rcases hc with rfl | rfl | rfl | rfl | rfl | rfl | rfl | rfl | ⟨s, hs, rfl⟩ | ⟨s, hs, rfl⟩
  · rw [dc_0, dc_0, dV_ne (by omega)]
  · show XC_arr 200 (cI 200 75 1 0 (upd d p x)) = XC_arr 200 (cI 200 75 1 0 d)
    rw [cI_ne (by omega)]
  · show (Sum.inr (true, FieldType.boolean, 5, cI 5 10 13 9 (upd d p x)) : XC) = Sum.inr (true, FieldType.boolean, 5, cI 5 10 13 9 d)
    rw [cI_ne (by omega)]
  · rw [dc_3, dc_3, sV_ne (by omega)]
  · show XC_arr 5 (cI 5 10 13 10 (upd d p x)) = XC_arr 5 (cI 5 10 13 10 d)
    rw [cI_ne (by omega)]
  · show XC_arr 5 (cI 5 10 13 11 (upd d p x)) = XC_arr 5 (cI 5 10 13 11 d)
    rw [cI_ne (by omega)]
  · show XC_arr 5 (cI 5 10 13 12 (upd d p x)) = XC_arr 5 (cI 5 10 13 12 d)
    rw [cI_ne (by omega)]
  · rfl
  · rw [dc_u hs, dc_u hs, uV_ne (by omega)]
  · rw [dc_p hs, dc_p hs, cI_ne (by omega)]
/-- one number of a Data is written, where its cell is -/
theorem c_put1 {p : Nat} {c : XC} (hi : i < 10) (ht : t < 20) (hp : ∀ t', t' < 20 → rdP t' p → t' = t) (hc : dcell (su i) (upd (D i) p x) i t = c) : x_set (cset B J bf K tk ts tl tv su D) (75 + 20 * i + t) c = cset B J bf K tk ts tl tv su (updS D i p x) := by
  have h := c_set (B := B) (J := J) (bf := bf) (K := K) (tk := tk) (ts := ts) (tl := tl) (tv := tv) (su := su) (D := D) (i := i) (t := t) (o' := su i) (d' := upd (D i) p x) (c := c) hi ht (fun t' h' => by
    by_cases e : t' = t
    · rw [if_pos e, e]; exact hc
    · rw [if_neg e]
      exact dc_ne h' (fun q => e (hp t' h' q)))
  rw [updN_self] at h
  exact h
end CLASS
