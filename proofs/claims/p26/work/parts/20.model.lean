/-! ===== the reference: its cells ===== -/
theorem updI_ne {I : Nat → Int32} {k j : Nat} {x : Int32} (h : j ≠ k) : upd I k x j = I j := by unfold upd; rw [if_neg h]
theorem updI_eq {I : Nat → Int32} {k : Nat} {x : Int32} : upd I k x k = x := by unfold upd; rw [if_pos rfl]
def updS (S : Nat → Nat → Int32) (w k : Nat) (x : Int32) : Nat → Nat → Int32 := fun i => if i = w then upd (S w) k x else S i
theorem beq_ne {j k : Nat} (h : ¬ j = k) : Nat.beq j k = false := by
  cases e : Nat.beq j k with
  | true => exact absurd (Nat.eq_of_beq_eq_true e) h
  | false => rfl
section MODEL
variable {B : XH} {I : Nat → Int32} {T : Int64} {S : Nat → Nat → Int32} {rd tx gv pl : Nat → Int32}
theorem updV_int {f : Nat → Int32} {k : Nat} {x : Int32} : updV (fun j => Value.int (f j)) k (.int x) = fun j => .int (upd f k x j) := by
  funext j
  unfold updV upd
  by_cases hj : j = k
  · rw [if_pos hj, if_pos hj]
  · rw [if_neg hj, if_neg hj]
variable {G : XE} {M : XMI} {Z : XZ} {cells slots pc pc' t : Nat} {L : List (Option Value)} {st : List Value}
/-- an array of the reference is read at a known place -/
theorem X_ildn {a n : Nat} {mu : Bool} {f : Nat → Int32} {N : XH} {j : Int32} (k : Nat) (hj : j = nI k) (hk : k < n) (hn : n < 2 ^ 31) (hd : x_at (x_k M) pc = some (.iaload, pc', t)) (hN : N a = some (.inr (mu, .int, n, fun j => .int (f j)))) (kk : x_W G M Z N cells slots pc' L (.int (f k) :: st)) : x_W G M Z N cells slots pc L (.int j :: .ref a :: st) := by
  have e : j.toNatClampNeg = k := by rw [hj]; exact nI_clamp (by omega)
  refine X_iald hd hN (by rw [hj]; exact vp_in_nI hk hn) (v := .int (f k)) ?_ kk
  rw [e]
end MODEL
/-- what a call gives back over the cells N1 -/
def x_Ret (N1 : XH) (v : Value) : XH → Option Value → Prop := fun N r => N = N1 ∧ r = some v
def x_RetV (N1 : XH) : XH → Option Value → Prop := fun N r => N = N1 ∧ r = none

