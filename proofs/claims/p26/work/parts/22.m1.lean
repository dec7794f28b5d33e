/-! ===== the reference: its small methods ===== -/
def s_most (t : Int32) : Int32 := if t = 0 then 9999 else if t = 1 then 999 else 1
