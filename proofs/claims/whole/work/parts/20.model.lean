/-! ===== the reference: its cells ===== -/
def mO (I : Nat → Int32) (T : Int64) : Nat → Value := fun k => match k with
  | 1 => .ref 276
  | 2 => .ref 277
  | 5 => .ref 278
  | 17 => .ref 279
  | 18 => .ref 280
  | 19 => .long T
  | k => .int (I k)
/-- the reference over the other cells B: its numbers I, its total, its nine rows S, what is read, the text, the values, the pile -/
def mset (B : XH) (I : Nat → Int32) (T : Int64) (S : Nat → Nat → Int32) (rd tx gv pl : Nat → Int32) : XH := fun k =>
  bif Nat.beq k 275 then some (.inl (11, mO I T)) else
  bif Nat.beq k 276 then some (.inr (true, .int, 21600, fun j => .int (S (j / 2400) (j % 2400)))) else
  bif Nat.beq k 277 then some (.inr (true, .int, 2400, fun j => .int (rd j))) else
  bif Nat.beq k 278 then some (.inr (true, .int, 800, fun j => .int (tx j))) else
  bif Nat.beq k 279 then some (.inr (true, .int, 4, fun j => .int (gv j))) else
  bif Nat.beq k 280 then some (.inr (true, .boolean, 400, fun j => .int (pl j))) else B k
def m_int (k : Nat) : Bool := !(Nat.beq k 1 || Nat.beq k 2 || Nat.beq k 5 || Nat.beq k 17 || Nat.beq k 18 || Nat.beq k 19)
theorem mO_int {I : Nat → Int32} {T : Int64} {k : Nat} (h : m_int k = true) : mO I T k = .int (I k) := by
  unfold mO
  split <;> first | rfl | (exact absurd h (by decide))
theorem updI_ne {I : Nat → Int32} {k j : Nat} {x : Int32} (h : j ≠ k) : upd I k x j = I j := by unfold upd; rw [if_neg h]
theorem updI_eq {I : Nat → Int32} {k : Nat} {x : Int32} : upd I k x k = x := by unfold upd; rw [if_pos rfl]
def updS (S : Nat → Nat → Int32) (w k : Nat) (x : Int32) : Nat → Nat → Int32 := fun i => if i = w then upd (S w) k x else S i
theorem beq_ne {j k : Nat} (h : ¬ j = k) : Nat.beq j k = false := by
  cases e : Nat.beq j k with
  | true => exact absurd (Nat.eq_of_beq_eq_true e) h
  | false => rfl
section MODEL
variable {B : XH} {I : Nat → Int32} {T : Int64} {S : Nat → Nat → Int32} {rd tx gv pl : Nat → Int32}
theorem m_put {k : Nat} {x : Int32} (h : m_int k = true) : x_set (mset B I T S rd tx gv pl) 275 (.inl (11, updV (mO I T) k (.int x))) = mset B (upd I k x) T S rd tx gv pl := by
  have e : updV (mO I T) k (.int x) = mO (upd I k x) T := by
    funext j
    unfold updV
    by_cases hj : j = k
    · rw [if_pos hj, hj, mO_int h, updI_eq]
    · rw [if_neg hj]
      unfold mO
      split <;> first | rfl | rw [updI_ne hj]
  rw [e]
  funext j
  unfold x_set
  by_cases hj : j = 275
  · rw [if_pos hj, hj]; rfl
  · rw [if_neg hj]
    unfold mset
    rw [beq_ne hj]
    rfl
theorem m_putT {x : Int64} : x_set (mset B I T S rd tx gv pl) 275 (.inl (11, updV (mO I T) 19 (.long x))) = mset B I x S rd tx gv pl := by
  have e : updV (mO I T) 19 (.long x) = mO I x := by
    funext j
    unfold updV
    by_cases hj : j = 19
    · rw [if_pos hj, hj]; rfl
    · rw [if_neg hj]
      unfold mO
      split <;> first | rfl | exact absurd rfl hj
  rw [e]
  funext j
  unfold x_set
  by_cases hj : j = 275
  · rw [if_pos hj, hj]; rfl
  · rw [if_neg hj]
    unfold mset
    rw [beq_ne hj]
    rfl
theorem updV_int {f : Nat → Int32} {k : Nat} {x : Int32} : updV (fun j => Value.int (f j)) k (.int x) = fun j => .int (upd f k x j) := by
  funext j
  unfold updV upd
  by_cases hj : j = k
  · rw [if_pos hj, if_pos hj]
  · rw [if_neg hj, if_neg hj]
theorem m_putS {w k : Nat} {x : Int32} (hk : k < 2400) : x_set (mset B I T S rd tx gv pl) 276 (.inr (true, .int, 21600, updV (fun j => .int (S (j / 2400) (j % 2400))) (2400 * w + k) (.int x))) = mset B I T (updS S w k x) rd tx gv pl := by
  have e : updV (fun j => Value.int (S (j / 2400) (j % 2400))) (2400 * w + k) (.int x) = fun j => .int (updS S w k x (j / 2400) (j % 2400)) := by
    funext j
    unfold updV updS
    by_cases hj : j = 2400 * w + k
    · have h1 : j / 2400 = w := by omega
      have h2 : j % 2400 = k := by omega
      rw [if_pos hj, h1, h2, if_pos rfl, updI_eq]
    · rw [if_neg hj]
      by_cases h1 : j / 2400 = w
      · show Value.int (S (j / 2400) (j % 2400)) = _
        rw [if_pos h1, h1, updI_ne (by omega)]
      · rw [if_neg h1]
  rw [e]
  funext j
  unfold x_set
  by_cases hj : j = 276
  · rw [if_pos hj, hj]; rfl
  · rw [if_neg hj]
    unfold mset
    rw [beq_ne hj]
    rfl
theorem m_putR {k : Nat} {x : Int32} : x_set (mset B I T S rd tx gv pl) 277 (.inr (true, .int, 2400, updV (fun j => .int (rd j)) k (.int x))) = mset B I T S (upd rd k x) tx gv pl := by
  rw [updV_int]
  funext j
  unfold x_set
  by_cases hj : j = 277
  · rw [if_pos hj, hj]; rfl
  · rw [if_neg hj]
    unfold mset
    rw [beq_ne hj]
    rfl
theorem m_putX {k : Nat} {x : Int32} : x_set (mset B I T S rd tx gv pl) 278 (.inr (true, .int, 800, updV (fun j => .int (tx j)) k (.int x))) = mset B I T S rd (upd tx k x) gv pl := by
  rw [updV_int]
  funext j
  unfold x_set
  by_cases hj : j = 278
  · rw [if_pos hj, hj]; rfl
  · rw [if_neg hj]
    unfold mset
    rw [beq_ne hj]
    rfl
theorem m_putG {k : Nat} {x : Int32} : x_set (mset B I T S rd tx gv pl) 279 (.inr (true, .int, 4, updV (fun j => .int (gv j)) k (.int x))) = mset B I T S rd tx (upd gv k x) pl := by
  rw [updV_int]
  funext j
  unfold x_set
  by_cases hj : j = 279
  · rw [if_pos hj, hj]; rfl
  · rw [if_neg hj]
    unfold mset
    rw [beq_ne hj]
    rfl
theorem m_putP {k : Nat} {x : Int32} : x_set (mset B I T S rd tx gv pl) 280 (.inr (true, .boolean, 400, updV (fun j => .int (pl j)) k (.int x))) = mset B I T S rd tx gv (upd pl k x) := by
  rw [updV_int]
  funext j
  unfold x_set
  by_cases hj : j = 280
  · rw [if_pos hj, hj]; rfl
  · rw [if_neg hj]
    unfold mset
    rw [beq_ne hj]
    rfl
variable {G : XE} {M : XMI} {Z : XZ} {cells slots pc pc' t : Nat} {L : List (Option Value)} {st : List Value}
theorem X_mput {idx k : Nat} {x : Int32} (hF : x_FL (x_own M) idx 11 k .int false) (hk : m_int k = true) (hd : x_at (x_k M) pc = some (.putfield idx, pc', t)) (kk : x_W G M Z (mset B (upd I k x) T S rd tx gv pl) cells slots pc' L st) : x_W G M Z (mset B I T S rd tx gv pl) cells slots pc L (.int x :: .ref 275 :: st) :=
  X_put hF hd rfl ⟨rfl, rfl⟩ (by rw [m_put hk]; exact kk)
theorem X_mputT {idx : Nat} {x : Int64} (hF : x_FL (x_own M) idx 11 19 .long false) (hd : x_at (x_k M) pc = some (.putfield idx, pc', t)) (kk : x_W G M Z (mset B I x S rd tx gv pl) cells slots pc' L st) : x_W G M Z (mset B I T S rd tx gv pl) cells slots pc L (.long x :: .ref 275 :: st) :=
  X_put hF hd rfl ⟨rfl, rfl⟩ (by rw [m_putT]; exact kk)
/-- an entry of the rows -/
theorem X_mSld {j : Int32} (w k : Nat) (hj : j = nI (2400 * w + k)) (hw : w < 9) (hk : k < 2400) (hd : x_at (x_k M) pc = some (.iaload, pc', t)) (kk : x_W G M Z (mset B I T S rd tx gv pl) cells slots pc' L (.int (S w k) :: st)) : x_W G M Z (mset B I T S rd tx gv pl) cells slots pc L (.int j :: .ref 276 :: st) := by
  have e : j.toNatClampNeg = 2400 * w + k := by rw [hj]; exact nI_clamp (by omega)
  refine X_iald hd rfl (by rw [hj]; exact vp_in_nI (by omega) (by omega)) (v := .int (S w k)) ?_ kk
  show Value.int (S (j.toNatClampNeg / 2400) (j.toNatClampNeg % 2400)) = _
  rw [e, show (2400 * w + k) / 2400 = w by omega, show (2400 * w + k) % 2400 = k by omega]
theorem X_mSst {j x : Int32} (w k : Nat) (hj : j = nI (2400 * w + k)) (hw : w < 9) (hk : k < 2400) (hd : x_at (x_k M) pc = some (.iastore, pc', t)) (kk : x_W G M Z (mset B I T (updS S w k x) rd tx gv pl) cells slots pc' L st) : x_W G M Z (mset B I T S rd tx gv pl) cells slots pc L (.int x :: .int j :: .ref 276 :: st) := by
  have e : j.toNatClampNeg = 2400 * w + k := by rw [hj]; exact nI_clamp (by omega)
  refine X_iast hd rfl (by rw [hj]; exact vp_in_nI (by omega) (by omega)) ?_
  rw [e, m_putS hk]
  exact kk
/-- an array of the reference is read at a known place -/
theorem X_ildn {a n : Nat} {mu : Bool} {f : Nat → Int32} {N : XH} {j : Int32} (k : Nat) (hj : j = nI k) (hk : k < n) (hn : n < 2 ^ 31) (hd : x_at (x_k M) pc = some (.iaload, pc', t)) (hN : N a = some (.inr (mu, .int, n, fun j => .int (f j)))) (kk : x_W G M Z N cells slots pc' L (.int (f k) :: st)) : x_W G M Z N cells slots pc L (.int j :: .ref a :: st) := by
  have e : j.toNatClampNeg = k := by rw [hj]; exact nI_clamp (by omega)
  refine X_iald hd hN (by rw [hj]; exact vp_in_nI hk hn) (v := .int (f k)) ?_ kk
  rw [e]
theorem X_mRst {j x : Int32} (k : Nat) (hj : j = nI k) (hk : k < 2400) (hd : x_at (x_k M) pc = some (.iastore, pc', t)) (kk : x_W G M Z (mset B I T S (upd rd k x) tx gv pl) cells slots pc' L st) : x_W G M Z (mset B I T S rd tx gv pl) cells slots pc L (.int x :: .int j :: .ref 277 :: st) := by
  have e : j.toNatClampNeg = k := by rw [hj]; exact nI_clamp (by omega)
  refine X_iast hd rfl (by rw [hj]; exact vp_in_nI hk (by omega)) ?_
  rw [e, m_putR]
  exact kk
theorem X_mXst {j x : Int32} (k : Nat) (hj : j = nI k) (hk : k < 800) (hd : x_at (x_k M) pc = some (.iastore, pc', t)) (kk : x_W G M Z (mset B I T S rd (upd tx k x) gv pl) cells slots pc' L st) : x_W G M Z (mset B I T S rd tx gv pl) cells slots pc L (.int x :: .int j :: .ref 278 :: st) := by
  have e : j.toNatClampNeg = k := by rw [hj]; exact nI_clamp (by omega)
  refine X_iast hd rfl (by rw [hj]; exact vp_in_nI hk (by omega)) ?_
  rw [e, m_putX]
  exact kk
theorem X_mGst {j x : Int32} (k : Nat) (hj : j = nI k) (hk : k < 4) (hd : x_at (x_k M) pc = some (.iastore, pc', t)) (kk : x_W G M Z (mset B I T S rd tx (upd gv k x) pl) cells slots pc' L st) : x_W G M Z (mset B I T S rd tx gv pl) cells slots pc L (.int x :: .int j :: .ref 279 :: st) := by
  have e : j.toNatClampNeg = k := by rw [hj]; exact nI_clamp (by omega)
  refine X_iast hd rfl (by rw [hj]; exact vp_in_nI hk (by omega)) ?_
  rw [e, m_putG]
  exact kk
theorem X_mPst {j x : Int32} (k : Nat) (hj : j = nI k) (hk : k < 400) (hx : x = 0 ∨ x = 1) (hd : x_at (x_k M) pc = some (.bastore, pc', t)) (kk : x_W G M Z (mset B I T S rd tx gv (upd pl k x)) cells slots pc' L st) : x_W G M Z (mset B I T S rd tx gv pl) cells slots pc L (.int x :: .int j :: .ref 280 :: st) := by
  have e : j.toNatClampNeg = k := by rw [hj]; exact nI_clamp (by omega)
  refine X_zast hd rfl (by rw [hj]; exact vp_in_nI hk (by omega)) (by rcases hx with rfl | rfl <;> rfl) ?_
  rw [e, m_putP]
  exact kk
end MODEL
/-- what a call gives back over the cells N1 -/
def x_Ret (N1 : XH) (v : Value) : XH → Option Value → Prop := fun N r => N = N1 ∧ r = some v
def x_RetV (N1 : XH) : XH → Option Value → Prop := fun N r => N = N1 ∧ r = none
