/-! ===== numbers, rows ===== -/
def b2 (z : Bool) : Int32 := bif z then 1 else 0
theorem b2_0 {z : Bool} (h : b2 z = 0) : z = false := by cases z with | false => rfl | true => exact absurd h (by decide)
theorem b2_1 {z : Bool} (h : ¬ b2 z = 0) : z = true := by cases z with | true => rfl | false => exact absurd rfl h
def s_upb (P : Nat → Bool) (k : Nat) (b : Bool) : Nat → Bool := fun i => if i = k then b else P i
theorem upd_upd {I : Nat → Int32} {k : Nat} {a b : Int32} : upd (upd I k a) k b = upd I k b := by
  funext i
  unfold upd
  by_cases h : i = k
  · rw [if_pos h, if_pos h]
  · rw [if_neg h, if_neg h, if_neg h]
section MROWS
variable {G : XE} {M : XMI} {Z : XZ} {cells slots pc pc' t : Nat} {L : List (Option Value)} {st : List Value} {B : XH} {I : Nat → Int32} {T : Int64} {S : Nat → Nat → Int32} {rd tx gv pl : Nat → Int32}
theorem X_heap {N N' : XH} (h : N = N') (kk : x_W G M Z N' cells slots pc L st) : x_W G M Z N cells slots pc L st := by rw [h]; exact kk
theorem X_stk {st' : List Value} (h : st = st') (kk : x_W G M Z B cells slots pc L st') : x_W G M Z B cells slots pc L st := by rw [h]; exact kk
end MROWS
theorem m_dec {x : Int32} {a : Nat} (h : 1 ≤ a) (hx : x = nI a) : x + Int32.ofInt (-1) = nI (a - 1) := by
  obtain ⟨b, rfl⟩ : ∃ b, a = b + 1 := ⟨a - 1, by omega⟩
  rw [hx, ← nI_1 b, Nat.add_sub_cancel, Int32.add_assoc, show (1 : Int32) + Int32.ofInt (-1) = 0 by decide, Int32.add_zero]
theorem m_subc {x : Int32} {a b : Nat} (h : b ≤ a) (hx : x = nI a) : x - nI b = nI (a - b) := by
  obtain ⟨e, rfl⟩ : ∃ e, a = e + b := ⟨a - b, by omega⟩
  rw [hx, ← nI_add, Nat.add_sub_cancel, Int32.add_sub_cancel]
theorem m_sub {x y : Int32} {a b : Nat} (h : b ≤ a) (hx : x = nI a) (hy : y = nI b) : x - y = nI (a - b) := by rw [hy]; exact m_subc h hx
theorem m_rng {x y : Int32} {m : Nat} (hm : y = nI m) (hb : m < 2147483648) (h : 0 ≤ x ∧ x ≤ y - 1) : ∃ j, j < m ∧ x = nI j := by
  obtain ⟨j, h1, h2⟩ := nI_of (Int32.not_lt.mpr h.1)
  refine ⟨j, ?_, h2⟩
  have h3 := Int32.le_iff_toInt_le.mp h.2
  cases m with
  | zero =>
    exfalso
    rw [hm, h2, nI_toInt h1, show (nI 0 - 1 : Int32).toInt = -1 by decide] at h3
    omega
  | succ n =>
    rw [hm, show (1 : Int32) = nI 1 from rfl, m_subc (by omega) rfl, h2, nI_toInt h1, nI_toInt (by omega)] at h3
    omega
theorem m_rngc {x y : Int32} {m : Nat} (hm : y = nI m) (hb : m < 2147483648) (h : 0 ≤ x ∧ x ≤ y) : ∃ j, j ≤ m ∧ x = nI j := by
  obtain ⟨j, h1, h2⟩ := nI_of (Int32.not_lt.mpr h.1)
  refine ⟨j, ?_, h2⟩
  have h3 := Int32.le_iff_toInt_le.mp h.2
  rw [hm, h2, nI_toInt h1, nI_toInt hb] at h3
  omega
theorem m_add {x y : Int32} {a b : Nat} (hx : x = nI a) (hy : y = nI b) : x + y = nI (a + b) := by rw [hx, hy, nI_add]
theorem m_inc {x : Int32} {a : Nat} (hx : x = nI a) : x + Int32.ofInt 1 = nI (a + 1) := by rw [hx]; exact nI_1 a
theorem n_le {x y : Int32} {a b : Nat} (hx : x = nI a) (hy : y = nI b) (ha : a < 2147483648) (hb : b < 2147483648) : x ≤ y ↔ a ≤ b := by rw [hx, hy]; exact nI_leI ha hb
theorem n_lt {x y : Int32} {a b : Nat} (hx : x = nI a) (hy : y = nI b) (ha : a < 2147483648) (hb : b < 2147483648) : x < y ↔ a < b := by rw [hx, hy]; exact nI_ltI ha hb
theorem n_eq {x y : Int32} {a b : Nat} (hx : x = nI a) (hy : y = nI b) (ha : a < 2147483648) (hb : b < 2147483648) : x = y ↔ a = b := by rw [hx, hy]; exact nI_eq ha hb

