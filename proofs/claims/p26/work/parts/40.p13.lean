/-! ===== the reference: load ===== -/
/-- the row that a setup text gives -/
def s_ldd (rd : Nat → Int32) : Nat → Int32 := s_look rd (s_lm rd) (s_cm rd)
section
variable {B : XH} {I J : Nat → Int32} {T : Int64} {S : Nat → Nat → Int32} {rd rd1 tx gv pl : Nat → Int32} {w u b L a q : Nat} {x e : Int32}
end
