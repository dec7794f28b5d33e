/-! ===== the reference: estimates, plans, costs ===== -/
def s_up (a b : Int32) : Int32 := (a + b - 1) / b
abbrev s_col (c : Nat → Int32) (j x : Nat) : Int32 := c (10 + 13 * j + x)
abbrev s_st (c : Nat → Int32) (s x : Nat) : Int32 := c (275 + 30 * s + x)
abbrev s_cod (c : Nat → Int32) (k x : Nat) : Int32 := c (455 + 6 * k + x)
abbrev s_val (c : Nat → Int32) (l j : Nat) : Int32 := c (75 + 5 * l + j)
/-- the estimate of comparison k, of column j, with value v -/
def s_seen (c : Nat → Int32) (k j : Nat) (v : Int32) : Int32 :=
  if s_cod c k 2 = 61 then (if v < s_col c j 11 then 0 else if s_col c j 12 < v then 0 else s_up (c 8) (s_col c j 10))
  else x_max 0 (x_min (c 8) (c 8 * (if s_cod c k 2 = 60 then v - s_col c j 11 else s_col c j 12 - v) / (s_col c j 12 - s_col c j 11 + 1)))
theorem c_up {G : XE} (hG : x_Kn G) {N : XH} (d : Nat) {x y : Int32} (hy : ¬ y = 0) : x_M G mX11_up d 0 0 [.int x, .int y] (N) (x_Ret N (.int (s_up x y))) x_noX := by
  refine X_M hG okX11_up rfl (L := [some (.int x), some (.int y)]) rfl (Nat.le_of_ble_eq_true rfl) (fun ad0 nb0 => ?_)
  refine X_ld rfl rfl rfl rfl ?_
  refine X_ld rfl rfl rfl rfl ?_
  refine X_bin rfl rfl ?_
  refine X_push (v := .int 1) rfl (by decide +kernel) ?_
  refine X_bin rfl rfl ?_
  refine X_ld rfl rfl rfl rfl ?_
  refine X_idiv rfl hy ?_
  exact X_iret rfl rfl ⟨rfl, rfl⟩ (Nat.le_of_ble_eq_true rfl) (Nat.le_of_ble_eq_true rfl)
theorem c_seenEstimate {G : XE} (hG : x_Kn G) {B : XH} {I : Nat → Int32} {T : Int64} {S : Nat → Nat → Int32} {rd tx gv pl : Nat → Int32} (d : Nat) (w : Nat) (hw : I 3 = nI w) (hw9 : w < 9) (k j : Nat) (hk : k < 324) (hj : j < 5) (hof : S w (455 + 6 * k + 1) = nI j) (hu : ¬ S w (10 + 13 * j + 10) = 0) (hdv : ¬ S w (10 + 13 * j + 12) - S w (10 + 13 * j + 11) + 1 = 0) {x v : Int32} (hx : x = nI k) : x_M G mX11_seenEstimate (d + 2) 0 0 [.ref 275, .int x, .int v] (mset B I T S rd tx gv pl) (x_Ret (mset B I T S rd tx gv pl) (.int (s_seen (S w) k j v))) x_noX := by
  refine X_M hG okX11_seenEstimate rfl (L := [some (.ref 275), some (.int x), some (.int v), none, none, none, none, none]) rfl (Nat.le_of_ble_eq_true rfl) (fun ad0 nb0 => ?_)
  refine X_ld rfl rfl rfl rfl ?_
  refine X_ld rfl rfl rfl rfl ?_
  refine X_push (v := .int 1) rfl (by decide +kernel) ?_
  refine X_mcall l_X11_X11_ofCode (c_ofCode hG d w hw hw9 k 1 (by omega) hx rfl) rfl rfl rfl rfl (Nat.le_of_ble_eq_true rfl) (Nat.le_of_ble_eq_true rfl) (Nat.le_refl _) (Nat.le_of_ble_eq_true rfl) (Nat.le_of_ble_eq_true rfl) ?_
  refine X_st rfl rfl rfl ?_
  refine X_ld rfl rfl rfl rfl ?_
  refine X_push (v := .int 8) rfl (by decide +kernel) ?_
  refine X_mcall l_X11_X11_get (c_get hG (d + 1) w hw hw9 8 (by omega) rfl) rfl rfl rfl rfl (Nat.le_of_ble_eq_true rfl) (Nat.le_of_ble_eq_true rfl) (Nat.le_refl _) (Nat.le_of_ble_eq_true rfl) (Nat.le_of_ble_eq_true rfl) ?_
  refine X_st rfl rfl rfl ?_
  refine X_ld rfl rfl rfl rfl ?_
  refine X_ld rfl rfl rfl rfl ?_
  refine X_push (v := .int 11) rfl (by decide +kernel) ?_
  refine X_mcall l_X11_X11_ofColumn (c_ofColumn hG d w hw hw9 j 11 (by omega) hof rfl) rfl rfl rfl rfl (Nat.le_of_ble_eq_true rfl) (Nat.le_of_ble_eq_true rfl) (Nat.le_refl _) (Nat.le_of_ble_eq_true rfl) (Nat.le_of_ble_eq_true rfl) ?_
  refine X_st rfl rfl rfl ?_
  refine X_ld rfl rfl rfl rfl ?_
  refine X_ld rfl rfl rfl rfl ?_
  refine X_push (v := .int 12) rfl (by decide +kernel) ?_
  refine X_mcall l_X11_X11_ofColumn (c_ofColumn hG d w hw hw9 j 12 (by omega) hof rfl) rfl rfl rfl rfl (Nat.le_of_ble_eq_true rfl) (Nat.le_of_ble_eq_true rfl) (Nat.le_refl _) (Nat.le_of_ble_eq_true rfl) (Nat.le_of_ble_eq_true rfl) ?_
  refine X_st rfl rfl rfl ?_
  refine X_ld rfl rfl rfl rfl ?_
  refine X_ld rfl rfl rfl rfl ?_
  refine X_push (v := .int 2) rfl (by decide +kernel) ?_
  refine X_mcall l_X11_X11_ofCode (c_ofCode hG d w hw hw9 k 2 (by omega) hx rfl) rfl rfl rfl rfl (Nat.le_of_ble_eq_true rfl) (Nat.le_of_ble_eq_true rfl) (Nat.le_refl _) (Nat.le_of_ble_eq_true rfl) (Nat.le_of_ble_eq_true rfl) ?_
  refine X_push (v := .int 61) rfl (by decide +kernel) ?_
  refine X_icmp_ne rfl (fun c41 => ?_) (fun c41 => ?_)
  · refine X_ld rfl rfl rfl rfl ?_
    refine X_ld rfl rfl rfl rfl ?_
    refine X_push (v := .int 2) rfl (by decide +kernel) ?_
    refine X_mcall l_X11_X11_ofCode (c_ofCode hG d w hw hw9 k 2 (by omega) hx rfl) rfl rfl rfl rfl (Nat.le_of_ble_eq_true rfl) (Nat.le_of_ble_eq_true rfl) (Nat.le_refl _) (Nat.le_of_ble_eq_true rfl) (Nat.le_of_ble_eq_true rfl) ?_
    refine X_push (v := .int 60) rfl (by decide +kernel) ?_
    refine X_icmp_ne rfl (fun c81 => ?_) (fun c81 => ?_)
    · refine X_ld rfl rfl rfl rfl ?_
      refine X_ld rfl rfl rfl rfl ?_
      refine X_bin rfl rfl ?_
      refine X_st rfl rfl rfl ?_
      refine X_push (v := .int 0) rfl (by decide +kernel) ?_
      refine X_ld rfl rfl rfl rfl ?_
      refine X_ld rfl rfl rfl rfl ?_
      refine X_ld rfl rfl rfl rfl ?_
      refine X_bin rfl rfl ?_
      refine X_ld rfl rfl rfl rfl ?_
      refine X_ld rfl rfl rfl rfl ?_
      refine X_bin rfl rfl ?_
      refine X_push (v := .int 1) rfl (by decide +kernel) ?_
      refine X_bin rfl rfl ?_
      refine X_idiv rfl hdv ?_
      refine X_min lmin_X11 rfl (by omega) (Nat.le_of_ble_eq_true rfl) (Nat.le_of_ble_eq_true rfl) (Nat.le_of_ble_eq_true rfl) ?_
      refine X_max lmax_X11 rfl (by omega) (Nat.le_of_ble_eq_true rfl) (Nat.le_of_ble_eq_true rfl) (Nat.le_of_ble_eq_true rfl) ?_
      exact X_iret rfl rfl ⟨rfl, by unfold s_seen; rw [if_neg c41, if_neg c81]⟩ (Nat.le_of_ble_eq_true rfl) (Nat.le_of_ble_eq_true rfl)
    · refine X_ld rfl rfl rfl rfl ?_
      refine X_ld rfl rfl rfl rfl ?_
      refine X_bin rfl rfl ?_
      refine X_goto rfl ?_
      refine X_st rfl rfl rfl ?_
      refine X_push (v := .int 0) rfl (by decide +kernel) ?_
      refine X_ld rfl rfl rfl rfl ?_
      refine X_ld rfl rfl rfl rfl ?_
      refine X_ld rfl rfl rfl rfl ?_
      refine X_bin rfl rfl ?_
      refine X_ld rfl rfl rfl rfl ?_
      refine X_ld rfl rfl rfl rfl ?_
      refine X_bin rfl rfl ?_
      refine X_push (v := .int 1) rfl (by decide +kernel) ?_
      refine X_bin rfl rfl ?_
      refine X_idiv rfl hdv ?_
      refine X_min lmin_X11 rfl (by omega) (Nat.le_of_ble_eq_true rfl) (Nat.le_of_ble_eq_true rfl) (Nat.le_of_ble_eq_true rfl) ?_
      refine X_max lmax_X11 rfl (by omega) (Nat.le_of_ble_eq_true rfl) (Nat.le_of_ble_eq_true rfl) (Nat.le_of_ble_eq_true rfl) ?_
      exact X_iret rfl rfl ⟨rfl, by unfold s_seen; rw [if_neg c41, if_pos c81]⟩ (Nat.le_of_ble_eq_true rfl) (Nat.le_of_ble_eq_true rfl)
  · refine X_ld rfl rfl rfl rfl ?_
    refine X_ld rfl rfl rfl rfl ?_
    refine X_icmp_lt rfl (fun c47 => ?_) (fun c47 => ?_)
    · refine X_push (v := .int 0) rfl (by decide +kernel) ?_
      refine X_goto rfl ?_
      exact X_iret rfl rfl ⟨rfl, by unfold s_seen; rw [if_pos c41, if_pos c47]⟩ (Nat.le_of_ble_eq_true rfl) (Nat.le_of_ble_eq_true rfl)
    · refine X_ld rfl rfl rfl rfl ?_
      refine X_ld rfl rfl rfl rfl ?_
      refine X_icmp_le rfl (fun c53 => ?_) (fun c53 => ?_)
      · refine X_ld rfl rfl rfl rfl ?_
        refine X_ld rfl rfl rfl rfl ?_
        refine X_ld rfl rfl rfl rfl ?_
        refine X_push (v := .int 10) rfl (by decide +kernel) ?_
        refine X_mcall l_X11_X11_ofColumn (c_ofColumn hG d w hw hw9 j 10 (by omega) hof rfl) rfl rfl rfl rfl (Nat.le_of_ble_eq_true rfl) (Nat.le_of_ble_eq_true rfl) (Nat.le_refl _) (Nat.le_of_ble_eq_true rfl) (Nat.le_of_ble_eq_true rfl) ?_
        refine X_scall l_X11_X11_up (c_up hG (d + 1) hu) rfl rfl rfl (Nat.le_of_ble_eq_true rfl) (Nat.le_of_ble_eq_true rfl) (Nat.le_refl _) (Nat.le_of_ble_eq_true rfl) (Nat.le_of_ble_eq_true rfl) ?_
        exact X_iret rfl rfl ⟨rfl, by unfold s_seen; rw [if_pos c41, if_neg c47, if_neg (Int32.not_lt.mpr c53)]⟩ (Nat.le_of_ble_eq_true rfl) (Nat.le_of_ble_eq_true rfl)
      · refine X_push (v := .int 0) rfl (by decide +kernel) ?_
        refine X_goto rfl ?_
        exact X_iret rfl rfl ⟨rfl, by unfold s_seen; rw [if_pos c41, if_neg c47, if_pos (Int32.not_le.mp c53)]⟩ (Nat.le_of_ble_eq_true rfl) (Nat.le_of_ble_eq_true rfl)
