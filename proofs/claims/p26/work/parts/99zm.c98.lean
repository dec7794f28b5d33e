/-! ===== the law's wrappers of methods that change something, by program (wip/whole/gen_c98.py) ===== -/
theorem L_lv.up {B : XH} {t : Nat} {e c : Nat → Int32} {o : Nat} (h : L_lv B t e c o) : L_lv B (t + 1) e c o := h.mono (fun _ _ h => h) (by omega)
