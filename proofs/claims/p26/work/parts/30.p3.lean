/-! ===== the reference's reader: names that are told, comparisons ===== -/
/-- a name that isn't told yet, of the m-th of some things -/
def l_fresh (rd tx : Nat → Int32) (n p f g m : Nat) : (Int32 × Nat) ⊕ (Nat × (Nat → Int32)) :=
  if l_nm tx n p then (if s_sk rd tx f g m (l_sk tx n p) (l_we tx n p) = -1 then .inr (l_we tx n p, s_nmi rd tx (l_sk tx n p) (l_we tx n p) (f + g * m) 8) else .inl (-5, l_sk tx n p)) else .inl (-2, l_sk tx n p)
/-- a column that is told -/
def l_known (rd tx : Nat → Int32) (n p m : Nat) : (Int32 × Nat) ⊕ (Nat × Int32) :=
  if l_nm tx n p then (if s_sk rd tx 10 13 m (l_sk tx n p) (l_we tx n p) = -1 then .inl (-4, l_sk tx n p) else .inr (l_we tx n p, s_sk rd tx 10 13 m (l_sk tx n p) (l_we tx n p))) else .inl (-2, l_sk tx n p)
section
variable {B : XH} {T : Int64} {S : Nat → Nat → Int32} {rd tx gv pl I J : Nat → Int32} {p n q a a0 : Nat} {e v : Int32} {R : (Int32 × Nat) ⊕ (Nat × Int32)}
end
