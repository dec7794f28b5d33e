/-! ===== numbers, rows ===== -/
def b2 (z : Bool) : Int32 := bif z then 1 else 0
theorem b2_0 {z : Bool} (h : b2 z = 0) : z = false := by cases z with | false => rfl | true => exact absurd h (by decide)
theorem b2_1 {z : Bool} (h : ¬ b2 z = 0) : z = true := by cases z with | true => rfl | false => exact absurd rfl h
theorem b2_01 (z : Bool) : b2 z = 0 ∨ b2 z = 1 := by cases z with | true => exact Or.inr rfl | false => exact Or.inl rfl
theorem b2_nar (z : Bool) : narrow .boolean (.int (b2 z)) = .int (b2 z) := by cases z <;> rfl
def s_upb (P : Nat → Bool) (k : Nat) (b : Bool) : Nat → Bool := fun i => if i = k then b else P i
theorem s_upb_b2 {P : Nat → Bool} {k : Nat} {b : Bool} : upd (fun i => b2 (P i)) k (b2 b) = fun i => b2 (s_upb P k b i) := by
  funext i
  unfold upd s_upb
  by_cases h : i = k
  · rw [if_pos h, if_pos h]
  · rw [if_neg h, if_neg h]
theorem upd_upd {I : Nat → Int32} {k : Nat} {a b : Int32} : upd (upd I k a) k b = upd I k b := by
  funext i
  unfold upd
  by_cases h : i = k
  · rw [if_pos h, if_pos h]
  · rw [if_neg h, if_neg h, if_neg h]
section MROWS
variable {G : XE} {M : XMI} {Z : XZ} {cells slots pc pc' t : Nat} {L : List (Option Value)} {st : List Value} {B : XH} {I : Nat → Int32} {T : Int64} {S : Nat → Nat → Int32} {rd tx gv pl : Nat → Int32}
theorem X_heap {N N' : XH} (h : N = N') (kk : x_W G M Z N' cells slots pc L st) : x_W G M Z N cells slots pc L st := by rw [h]; exact kk
theorem X_stk {st' : List Value} (h : st = st') (kk : x_W G M Z B cells slots pc L st') : x_W G M Z B cells slots pc L st := by rw [h]; exact kk
theorem X_mPb {j : Int32} {P : Nat → Bool} (k : Nat) (b : Bool) (hj : j = nI k) (hk : k < 400) (hd : x_at (x_k M) pc = some (.bastore, pc', t)) (kk : x_W G M Z (mset B I T S rd tx gv (fun i => b2 (s_upb P k b i))) cells slots pc' L st) : x_W G M Z (mset B I T S rd tx gv (fun i => b2 (P i))) cells slots pc L (.int (b2 b) :: .int j :: .ref 280 :: st) :=
  X_mPst k hj hk (b2_01 b) hd (by rw [s_upb_b2]; exact kk)
theorem X_zaldn {a n : Nat} {mu : Bool} {f : Nat → Int32} {N : XH} {j : Int32} (k : Nat) (hj : j = nI k) (hk : k < n) (hn : n < 2 ^ 31) (hd : x_at (x_k M) pc = some (.baload, pc', t)) (hN : N a = some (.inr (mu, .boolean, n, fun j => .int (f j)))) (kk : x_W G M Z N cells slots pc' L (.int (f k) :: st)) : x_W G M Z N cells slots pc L (.int j :: .ref a :: st) := by
  have e : j.toNatClampNeg = k := by rw [hj]; exact nI_clamp (by omega)
  refine X_zald hd hN (by rw [hj]; exact vp_in_nI hk hn) (v := .int (f k)) ?_ kk
  rw [e]
end MROWS
theorem m_dec {x : Int32} {a : Nat} (h : 1 ≤ a) (hx : x = nI a) : x + Int32.ofInt (-1) = nI (a - 1) := by
  obtain ⟨b, rfl⟩ : ∃ b, a = b + 1 := ⟨a - 1, by omega⟩
  rw [hx, ← nI_1 b, Nat.add_sub_cancel, Int32.add_assoc, show (1 : Int32) + Int32.ofInt (-1) = 0 by decide, Int32.add_zero]
theorem m_subc {x : Int32} {a b : Nat} (h : b ≤ a) (hx : x = nI a) : x - nI b = nI (a - b) := by
  obtain ⟨e, rfl⟩ : ∃ e, a = e + b := ⟨a - b, by omega⟩
  rw [hx, ← nI_add, Nat.add_sub_cancel, Int32.add_sub_cancel]
theorem m_sub {x y : Int32} {a b : Nat} (h : b ≤ a) (hx : x = nI a) (hy : y = nI b) : x - y = nI (a - b) := by rw [hy]; exact m_subc h hx
theorem m_rng {x y : Int32} {m : Nat} (hm : y = nI m) (hb : m < 2147483648) (h : 0 ≤ x ∧ x ≤ y - 1) : ∃ j, j < m ∧ x = nI j := by
  obtain ⟨j, h1, h2⟩ := nI_of (Int32.not_lt.mpr h.1)
  refine ⟨j, ?_, h2⟩
  have h3 := Int32.le_iff_toInt_le.mp h.2
  cases m with
  | zero =>
    exfalso
    rw [hm, h2, nI_toInt h1, show (nI 0 - 1 : Int32).toInt = -1 by decide] at h3
    omega
  | succ n =>
    rw [hm, show (1 : Int32) = nI 1 from rfl, m_subc (by omega) rfl, h2, nI_toInt h1, nI_toInt (by omega)] at h3
    omega
theorem m_rngc {x y : Int32} {m : Nat} (hm : y = nI m) (hb : m < 2147483648) (h : 0 ≤ x ∧ x ≤ y) : ∃ j, j ≤ m ∧ x = nI j := by
  obtain ⟨j, h1, h2⟩ := nI_of (Int32.not_lt.mpr h.1)
  refine ⟨j, ?_, h2⟩
  have h3 := Int32.le_iff_toInt_le.mp h.2
  rw [hm, h2, nI_toInt h1, nI_toInt hb] at h3
  omega
theorem m_add {x y : Int32} {a b : Nat} (hx : x = nI a) (hy : y = nI b) : x + y = nI (a + b) := by rw [hx, hy, nI_add]
theorem m_mulc {y : Int32} {a b : Nat} (hy : y = nI b) : nI a * y = nI (a * b) := by rw [hy]; exact pk_mul a b
theorem m_inc {x : Int32} {a : Nat} (hx : x = nI a) : x + Int32.ofInt 1 = nI (a + 1) := by rw [hx]; exact nI_1 a
theorem n_le {x y : Int32} {a b : Nat} (hx : x = nI a) (hy : y = nI b) (ha : a < 2147483648) (hb : b < 2147483648) : x ≤ y ↔ a ≤ b := by rw [hx, hy]; exact nI_leI ha hb
theorem n_lt {x y : Int32} {a b : Nat} (hx : x = nI a) (hy : y = nI b) (ha : a < 2147483648) (hb : b < 2147483648) : x < y ↔ a < b := by rw [hx, hy]; exact nI_ltI ha hb
theorem n_eq {x y : Int32} {a b : Nat} (hx : x = nI a) (hy : y = nI b) (ha : a < 2147483648) (hb : b < 2147483648) : x = y ↔ a = b := by rw [hx, hy]; exact nI_eq ha hb
