/-! ===== the reference's reader: numbers, names, codes ===== -/
section
variable {B : XH} {T : Int64} {S : Nat → Nat → Int32} {rd tx gv pl I J : Nat → Int32} {p n q a : Nat} {e v : Int32} {R : (Int32 × Nat) ⊕ (Nat × Int32)}
end
section
variable {B : XH} {T : Int64} {S : Nat → Nat → Int32} {rd rd1 tx gv pl I J : Nat → Int32} {p n q a : Nat} {e v : Int32} {R : (Int32 × Nat) ⊕ (Nat × (Nat → Int32))}
end
/-- the number that k digits from q tell -/
def l_v (tx : Nat → Int32) (q : Nat) : Nat → Int32
  | 0 => 0
  | k + 1 => x_min 1000000 (10 * l_v tx q k + tx (q + k) - 48)
def l_de (tx : Nat → Int32) (n p : Nat) : Nat := l_run l_dg tx n (l_sk tx n p)
def l_num (tx : Nat → Int32) (n p : Nat) : Int32 := l_v tx (l_sk tx n p) (l_de tx n p - l_sk tx n p)
/-- a number from 0 to most -/
def l_reads (tx : Nat → Int32) (n p : Nat) (most : Int32) : (Int32 × Nat) ⊕ (Nat × Int32) :=
  if (48 : Int32) ≤ l_see tx n p ∧ l_see tx n p ≤ 57 then (if (0 : Int32) ≤ l_num tx n p ∧ l_num tx n p ≤ most then .inr (l_de tx n p, l_num tx n p) else .inl (-3, l_sk tx n p)) else .inl (-2, l_sk tx n p)
theorem l_de_le {tx : Nat → Int32} {n p : Nat} (h : p ≤ n) : l_sk tx n p ≤ l_de tx n p ∧ l_de tx n p ≤ n := l_run_le (l_sk_le h).2
/-- the word from a to e is written at at_ -/
def s_nmi (rd tx : Nat → Int32) (a e at_ : Nat) : Nat → Nat → Int32
  | 0 => rd
  | k + 1 => upd (s_nmi rd tx a e at_ k) (at_ + k) (s_ltr tx a e k)
/-- the first of m things, each cells apart, whose name is the word from a to e; -1 -/
def s_sk (rd tx : Nat → Int32) (f each m a e : Nat) : Int32 := s_first (fun t => s_eqn rd tx (f + each * t) a e 8) m
/-- a code more -/
def s_code (rd : Nat → Int32) (k : Nat) (op pl : Int32) : Nat → Int32 := upd (upd (upd rd (455 + 6 * k + 0) op) (455 + 6 * k + 5) pl) 9 (nI (k + 1))
