/-! ===== the reference's reader: conditions, the methods ===== -/
section
variable {B : XH} {T : Int64} {S : Nat → Nat → Int32} {rd rd1 tx gv pl I J : Nat → Int32} {p n q a k k' : Nat} {e : Int32}
theorem n_of {x : Int32} {k : Nat} (h : x = nI k) (hk : k < 2147483648) : n_ x = k := by rw [h]; exact nI_clamp hk
end
