/-! ===== the reference: estimates, plans, costs ===== -/
def s_up (a b : Int32) : Int32 := (a + b - 1) / b
abbrev s_col (c : Nat → Int32) (j x : Nat) : Int32 := c (10 + 13 * j + x)
abbrev s_st (c : Nat → Int32) (s x : Nat) : Int32 := c (275 + 30 * s + x)
abbrev s_cod (c : Nat → Int32) (k x : Nat) : Int32 := c (455 + 6 * k + x)
abbrev s_val (c : Nat → Int32) (l j : Nat) : Int32 := c (75 + 5 * l + j)
/-- the estimate of comparison k, of column j, with value v -/
def s_seen (c : Nat → Int32) (k j : Nat) (v : Int32) : Int32 :=
  if s_cod c k 2 = 61 then (if v < s_col c j 11 then 0 else if s_col c j 12 < v then 0 else s_up (c 8) (s_col c j 10))
  else x_max 0 (x_min (c 8) (c 8 * (if s_cod c k 2 = 60 then v - s_col c j 11 else s_col c j 12 - v) / (s_col c j 12 - s_col c j 11 + 1)))
theorem c_up {G : XE} (hG : x_Kn G) {N : XH} (d : Nat) {x y : Int32} (hy : ¬ y = 0) : x_M G mX11_up d 0 0 [.int x, .int y] (N) (x_Ret N (.int (s_up x y))) x_noX := by
  refine X_M hG okX11_up rfl (L := [some (.int x), some (.int y)]) rfl (Nat.le_of_ble_eq_true rfl) (fun ad0 nb0 => ?_)
  refine X_ld rfl rfl rfl rfl ?_
  refine X_ld rfl rfl rfl rfl ?_
  refine X_bin rfl rfl ?_
  refine X_push (v := .int 1) rfl (by decide +kernel) ?_
  refine X_bin rfl rfl ?_
  refine X_ld rfl rfl rfl rfl ?_
  refine X_idiv rfl hy ?_
  exact X_iret rfl rfl ⟨rfl, rfl⟩ (Nat.le_of_ble_eq_true rfl) (Nat.le_of_ble_eq_true rfl)
theorem c_seenEstimate {G : XE} (hG : x_Kn G) {B : XH} {I : Nat → Int32} {T : Int64} {S : Nat → Nat → Int32} {rd tx gv pl : Nat → Int32} (d : Nat) (w : Nat) (hw : I 3 = nI w) (hw9 : w < 9) (k j : Nat) (hk : k < 324) (hj : j < 5) (hof : S w (455 + 6 * k + 1) = nI j) (hu : ¬ S w (10 + 13 * j + 10) = 0) (hdv : ¬ S w (10 + 13 * j + 12) - S w (10 + 13 * j + 11) + 1 = 0) {x v : Int32} (hx : x = nI k) : x_M G mX11_seenEstimate (d + 2) 0 0 [.ref 275, .int x, .int v] (mset B I T S rd tx gv pl) (x_Ret (mset B I T S rd tx gv pl) (.int (s_seen (S w) k j v))) x_noX := by
  refine X_M hG okX11_seenEstimate rfl (L := [some (.ref 275), some (.int x), some (.int v), none, none, none, none, none]) rfl (Nat.le_of_ble_eq_true rfl) (fun ad0 nb0 => ?_)
  refine X_ld rfl rfl rfl rfl ?_
  refine X_ld rfl rfl rfl rfl ?_
  refine X_push (v := .int 1) rfl (by decide +kernel) ?_
  refine X_mcall l_X11_X11_ofCode (c_ofCode hG d w hw hw9 k 1 (by omega) hx rfl) rfl rfl rfl rfl (Nat.le_of_ble_eq_true rfl) (Nat.le_of_ble_eq_true rfl) (Nat.le_refl _) (Nat.le_of_ble_eq_true rfl) (Nat.le_of_ble_eq_true rfl) ?_
  refine X_st rfl rfl rfl ?_
  refine X_ld rfl rfl rfl rfl ?_
  refine X_push (v := .int 8) rfl (by decide +kernel) ?_
  refine X_mcall l_X11_X11_get (c_get hG (d + 1) w hw hw9 8 (by omega) rfl) rfl rfl rfl rfl (Nat.le_of_ble_eq_true rfl) (Nat.le_of_ble_eq_true rfl) (Nat.le_refl _) (Nat.le_of_ble_eq_true rfl) (Nat.le_of_ble_eq_true rfl) ?_
  refine X_st rfl rfl rfl ?_
  refine X_ld rfl rfl rfl rfl ?_
  refine X_ld rfl rfl rfl rfl ?_
  refine X_push (v := .int 11) rfl (by decide +kernel) ?_
  refine X_mcall l_X11_X11_ofColumn (c_ofColumn hG d w hw hw9 j 11 (by omega) hof rfl) rfl rfl rfl rfl (Nat.le_of_ble_eq_true rfl) (Nat.le_of_ble_eq_true rfl) (Nat.le_refl _) (Nat.le_of_ble_eq_true rfl) (Nat.le_of_ble_eq_true rfl) ?_
  refine X_st rfl rfl rfl ?_
  refine X_ld rfl rfl rfl rfl ?_
  refine X_ld rfl rfl rfl rfl ?_
  refine X_push (v := .int 12) rfl (by decide +kernel) ?_
  refine X_mcall l_X11_X11_ofColumn (c_ofColumn hG d w hw hw9 j 12 (by omega) hof rfl) rfl rfl rfl rfl (Nat.le_of_ble_eq_true rfl) (Nat.le_of_ble_eq_true rfl) (Nat.le_refl _) (Nat.le_of_ble_eq_true rfl) (Nat.le_of_ble_eq_true rfl) ?_
  refine X_st rfl rfl rfl ?_
  refine X_ld rfl rfl rfl rfl ?_
  refine X_ld rfl rfl rfl rfl ?_
  refine X_push (v := .int 2) rfl (by decide +kernel) ?_
  refine X_mcall l_X11_X11_ofCode (c_ofCode hG d w hw hw9 k 2 (by omega) hx rfl) rfl rfl rfl rfl (Nat.le_of_ble_eq_true rfl) (Nat.le_of_ble_eq_true rfl) (Nat.le_refl _) (Nat.le_of_ble_eq_true rfl) (Nat.le_of_ble_eq_true rfl) ?_
  refine X_push (v := .int 61) rfl (by decide +kernel) ?_
  refine X_icmp_ne rfl (fun c41 => ?_) (fun c41 => ?_)
  · refine X_ld rfl rfl rfl rfl ?_
    refine X_ld rfl rfl rfl rfl ?_
    refine X_push (v := .int 2) rfl (by decide +kernel) ?_
    refine X_mcall l_X11_X11_ofCode (c_ofCode hG d w hw hw9 k 2 (by omega) hx rfl) rfl rfl rfl rfl (Nat.le_of_ble_eq_true rfl) (Nat.le_of_ble_eq_true rfl) (Nat.le_refl _) (Nat.le_of_ble_eq_true rfl) (Nat.le_of_ble_eq_true rfl) ?_
    refine X_push (v := .int 60) rfl (by decide +kernel) ?_
    refine X_icmp_ne rfl (fun c81 => ?_) (fun c81 => ?_)
    · refine X_ld rfl rfl rfl rfl ?_
      refine X_ld rfl rfl rfl rfl ?_
      refine X_bin rfl rfl ?_
      refine X_st rfl rfl rfl ?_
      refine X_push (v := .int 0) rfl (by decide +kernel) ?_
      refine X_ld rfl rfl rfl rfl ?_
      refine X_ld rfl rfl rfl rfl ?_
      refine X_ld rfl rfl rfl rfl ?_
      refine X_bin rfl rfl ?_
      refine X_ld rfl rfl rfl rfl ?_
      refine X_ld rfl rfl rfl rfl ?_
      refine X_bin rfl rfl ?_
      refine X_push (v := .int 1) rfl (by decide +kernel) ?_
      refine X_bin rfl rfl ?_
      refine X_idiv rfl hdv ?_
      refine X_min lmin_X11 rfl (by omega) (Nat.le_of_ble_eq_true rfl) (Nat.le_of_ble_eq_true rfl) (Nat.le_of_ble_eq_true rfl) ?_
      refine X_max lmax_X11 rfl (by omega) (Nat.le_of_ble_eq_true rfl) (Nat.le_of_ble_eq_true rfl) (Nat.le_of_ble_eq_true rfl) ?_
      exact X_iret rfl rfl ⟨rfl, by unfold s_seen; rw [if_neg c41, if_neg c81]⟩ (Nat.le_of_ble_eq_true rfl) (Nat.le_of_ble_eq_true rfl)
    · refine X_ld rfl rfl rfl rfl ?_
      refine X_ld rfl rfl rfl rfl ?_
      refine X_bin rfl rfl ?_
      refine X_goto rfl ?_
      refine X_st rfl rfl rfl ?_
      refine X_push (v := .int 0) rfl (by decide +kernel) ?_
      refine X_ld rfl rfl rfl rfl ?_
      refine X_ld rfl rfl rfl rfl ?_
      refine X_ld rfl rfl rfl rfl ?_
      refine X_bin rfl rfl ?_
      refine X_ld rfl rfl rfl rfl ?_
      refine X_ld rfl rfl rfl rfl ?_
      refine X_bin rfl rfl ?_
      refine X_push (v := .int 1) rfl (by decide +kernel) ?_
      refine X_bin rfl rfl ?_
      refine X_idiv rfl hdv ?_
      refine X_min lmin_X11 rfl (by omega) (Nat.le_of_ble_eq_true rfl) (Nat.le_of_ble_eq_true rfl) (Nat.le_of_ble_eq_true rfl) ?_
      refine X_max lmax_X11 rfl (by omega) (Nat.le_of_ble_eq_true rfl) (Nat.le_of_ble_eq_true rfl) (Nat.le_of_ble_eq_true rfl) ?_
      exact X_iret rfl rfl ⟨rfl, by unfold s_seen; rw [if_neg c41, if_pos c81]⟩ (Nat.le_of_ble_eq_true rfl) (Nat.le_of_ble_eq_true rfl)
  · refine X_ld rfl rfl rfl rfl ?_
    refine X_ld rfl rfl rfl rfl ?_
    refine X_icmp_lt rfl (fun c47 => ?_) (fun c47 => ?_)
    · refine X_push (v := .int 0) rfl (by decide +kernel) ?_
      refine X_goto rfl ?_
      exact X_iret rfl rfl ⟨rfl, by unfold s_seen; rw [if_pos c41, if_pos c47]⟩ (Nat.le_of_ble_eq_true rfl) (Nat.le_of_ble_eq_true rfl)
    · refine X_ld rfl rfl rfl rfl ?_
      refine X_ld rfl rfl rfl rfl ?_
      refine X_icmp_le rfl (fun c53 => ?_) (fun c53 => ?_)
      · refine X_ld rfl rfl rfl rfl ?_
        refine X_ld rfl rfl rfl rfl ?_
        refine X_ld rfl rfl rfl rfl ?_
        refine X_push (v := .int 10) rfl (by decide +kernel) ?_
        refine X_mcall l_X11_X11_ofColumn (c_ofColumn hG d w hw hw9 j 10 (by omega) hof rfl) rfl rfl rfl rfl (Nat.le_of_ble_eq_true rfl) (Nat.le_of_ble_eq_true rfl) (Nat.le_refl _) (Nat.le_of_ble_eq_true rfl) (Nat.le_of_ble_eq_true rfl) ?_
        refine X_scall l_X11_X11_up (c_up hG (d + 1) hu) rfl rfl rfl (Nat.le_of_ble_eq_true rfl) (Nat.le_of_ble_eq_true rfl) (Nat.le_refl _) (Nat.le_of_ble_eq_true rfl) (Nat.le_of_ble_eq_true rfl) ?_
        exact X_iret rfl rfl ⟨rfl, by unfold s_seen; rw [if_pos c41, if_neg c47, if_neg (Int32.not_lt.mpr c53)]⟩ (Nat.le_of_ble_eq_true rfl) (Nat.le_of_ble_eq_true rfl)
      · refine X_push (v := .int 0) rfl (by decide +kernel) ?_
        refine X_goto rfl ?_
        exact X_iret rfl rfl ⟨rfl, by unfold s_seen; rw [if_pos c41, if_neg c47, if_pos (Int32.not_le.mp c53)]⟩ (Nat.le_of_ble_eq_true rfl) (Nat.le_of_ble_eq_true rfl)
def b2 (z : Bool) : Int32 := bif z then 1 else 0
def s_est0 (c gv : Nat → Int32) (k j : Nat) (z : Bool) : Int32 :=
  if c 8 = 0 then 0 else
  if s_cod c k 3 = 2 then (bif z then s_seen c k j (gv (s_cod c k 4).toNatClampNeg) else (if s_cod c k 2 = 61 then s_up (c 8) (s_col c j 10) else (c 8 + 2) / 3))
  else s_seen c k j (s_cod c k 4)
/-- the estimate of comparison k, its values seen or not -/
def s_est (c gv : Nat → Int32) (k : Nat) (z : Bool) : Int32 := s_est0 c gv k (s_cod c k 1).toNatClampNeg z
/-- a comparison that can be estimated -/
def s_eok (c : Nat → Int32) (k : Nat) : Prop :=
  ∃ j, j < 5 ∧ s_cod c k 1 = nI j ∧ (s_cod c k 3 = 2 → ∃ h, h < 4 ∧ s_cod c k 4 = nI h) ∧ (¬ c 8 = 0 → ¬ s_col c j 10 = 0) ∧ ¬ s_col c j 12 - s_col c j 11 + 1 = 0
theorem m_small {x : Int32} {n : Nat} (hn : n < 2 ^ 31) (h : ∃ k, k < n ∧ x = nI k) : x = nI x.toNatClampNeg ∧ x.toNatClampNeg < n := by
  obtain ⟨k, h1, rfl⟩ := h
  rw [nI_clamp (by omega)]
  exact ⟨rfl, h1⟩
theorem nI_inc (k : Nat) : nI k + Int32.ofInt 1 = nI (k + 1) := nI_1 k
theorem c_estimate {G : XE} (hG : x_Kn G) {B : XH} {I : Nat → Int32} {T : Int64} {S : Nat → Nat → Int32} {rd tx gv pl : Nat → Int32} (d : Nat) (w : Nat) (hw : I 3 = nI w) (hw9 : w < 9) (k : Nat) (hk : k < 324) (he : s_eok (S w) k) (z : Bool) {x : Int32} (hx : x = nI k) : x_M G mX11_estimate (d + 3) 0 0 [.ref 275, .int x, .int (b2 z)] (mset B I T S rd tx gv pl) (x_Ret (mset B I T S rd tx gv pl) (.int (s_est (S w) gv k z))) x_noX := by
  refine X_M hG okX11_estimate rfl (L := [some (.ref 275), some (.int x), some (.int (b2 z)), none, none]) rfl (Nat.le_of_ble_eq_true rfl) (fun ad0 nb0 => ?_)
  obtain ⟨j, hj, hof, hwi, hu, hdv⟩ := he
  cases z with
  | true =>
    refine X_ld rfl rfl rfl rfl ?_
    refine X_push (v := .int 8) rfl (by decide +kernel) ?_
    refine X_mcall l_X11_X11_get (c_get hG (d + 2) w hw hw9 8 (by omega) rfl) rfl rfl rfl rfl (Nat.le_of_ble_eq_true rfl) (Nat.le_of_ble_eq_true rfl) (Nat.le_refl _) (Nat.le_of_ble_eq_true rfl) (Nat.le_of_ble_eq_true rfl) ?_
    refine X_st rfl rfl rfl ?_
    refine X_ld rfl rfl rfl rfl ?_
    refine X_if_ne rfl (fun c8 => ?_) (fun c8 => ?_)
    · refine X_ld rfl rfl rfl rfl ?_
      refine X_ld rfl rfl rfl rfl ?_
      refine X_push (v := .int 3) rfl (by decide +kernel) ?_
      refine X_mcall l_X11_X11_ofCode (c_ofCode hG (d + 1) w hw hw9 k 3 (by omega) hx rfl) rfl rfl rfl rfl (Nat.le_of_ble_eq_true rfl) (Nat.le_of_ble_eq_true rfl) (Nat.le_refl _) (Nat.le_of_ble_eq_true rfl) (Nat.le_of_ble_eq_true rfl) ?_
      refine X_push (v := .int 2) rfl (by decide +kernel) ?_
      refine X_icmp_ne rfl (fun c20 => ?_) (fun c20 => ?_)
      · refine X_push (v := .int 0) rfl (by decide +kernel) ?_
        refine X_st rfl rfl rfl ?_
        refine X_ld rfl rfl rfl rfl ?_
        refine X_if_eq rfl (fun c32 => ?_) (fun c32 => absurd rfl c32)
        refine X_ld rfl rfl rfl rfl ?_
        refine X_ld rfl rfl rfl rfl ?_
        refine X_ld rfl rfl rfl rfl ?_
        refine X_if_eq rfl (fun c43 => ?_) (fun c43 => absurd rfl c43)
        refine X_ld rfl rfl rfl rfl ?_
        refine X_ld rfl rfl rfl rfl ?_
        refine X_push (v := .int 4) rfl (by decide +kernel) ?_
        refine X_mcall l_X11_X11_ofCode (c_ofCode hG (d + 1) w hw hw9 k 4 (by omega) hx rfl) rfl rfl rfl rfl (Nat.le_of_ble_eq_true rfl) (Nat.le_of_ble_eq_true rfl) (Nat.le_refl _) (Nat.le_of_ble_eq_true rfl) (Nat.le_of_ble_eq_true rfl) ?_
        refine X_mcall l_X11_X11_seenEstimate (c_seenEstimate hG d w hw hw9 k j hk hj hof (hu c8) hdv hx) rfl rfl rfl rfl (Nat.le_of_ble_eq_true rfl) (Nat.le_of_ble_eq_true rfl) (Nat.le_refl _) (Nat.le_of_ble_eq_true rfl) (Nat.le_of_ble_eq_true rfl) ?_
        exact X_iret rfl rfl ⟨rfl, by unfold s_est s_est0; rw [hof, nI_clamp (by omega)]; rw [if_neg c8, if_neg c20]⟩ (Nat.le_of_ble_eq_true rfl) (Nat.le_of_ble_eq_true rfl)
      · refine X_push (v := .int 1) rfl (by decide +kernel) ?_
        refine X_goto rfl ?_
        refine X_st rfl rfl rfl ?_
        refine X_ld rfl rfl rfl rfl ?_
        refine X_if_eq rfl (fun c32 => absurd c32 (by decide)) (fun c32 => ?_)
        refine X_ld rfl rfl rfl rfl ?_
        refine X_if_eq rfl (fun c36 => absurd c36 (by decide)) (fun c36 => ?_)
        refine X_ld rfl rfl rfl rfl ?_
        refine X_ld rfl rfl rfl rfl ?_
        refine X_ld rfl rfl rfl rfl ?_
        refine X_if_eq rfl (fun c43 => absurd c43 (by decide)) (fun c43 => ?_)
        refine X_ld rfl rfl rfl rfl ?_
        refine X_get f_X11_23 rfl rfl rfl ?_
        refine X_ld rfl rfl rfl rfl ?_
        refine X_ld rfl rfl rfl rfl ?_
        refine X_push (v := .int 4) rfl (by decide +kernel) ?_
        refine X_mcall l_X11_X11_ofCode (c_ofCode hG (d + 1) w hw hw9 k 4 (by omega) hx rfl) rfl rfl rfl rfl (Nat.le_of_ble_eq_true rfl) (Nat.le_of_ble_eq_true rfl) (Nat.le_refl _) (Nat.le_of_ble_eq_true rfl) (Nat.le_of_ble_eq_true rfl) ?_
        refine X_ildn _ (m_small (by omega) (hwi c20)).1 (m_small (by omega) (hwi c20)).2 (by omega) rfl rfl ?_
        refine X_goto rfl ?_
        refine X_mcall l_X11_X11_seenEstimate (c_seenEstimate hG d w hw hw9 k j hk hj hof (hu c8) hdv hx) rfl rfl rfl rfl (Nat.le_of_ble_eq_true rfl) (Nat.le_of_ble_eq_true rfl) (Nat.le_refl _) (Nat.le_of_ble_eq_true rfl) (Nat.le_of_ble_eq_true rfl) ?_
        exact X_iret rfl rfl ⟨rfl, by unfold s_est s_est0; rw [hof, nI_clamp (by omega)]; rw [if_neg c8, if_pos c20]⟩ (Nat.le_of_ble_eq_true rfl) (Nat.le_of_ble_eq_true rfl)
    · refine X_push (v := .int 0) rfl (by decide +kernel) ?_
      exact X_iret rfl rfl ⟨rfl, by unfold s_est s_est0; rw [hof, nI_clamp (by omega)]; rw [if_pos c8]⟩ (Nat.le_of_ble_eq_true rfl) (Nat.le_of_ble_eq_true rfl)
  | false =>
    refine X_ld rfl rfl rfl rfl ?_
    refine X_push (v := .int 8) rfl (by decide +kernel) ?_
    refine X_mcall l_X11_X11_get (c_get hG (d + 2) w hw hw9 8 (by omega) rfl) rfl rfl rfl rfl (Nat.le_of_ble_eq_true rfl) (Nat.le_of_ble_eq_true rfl) (Nat.le_refl _) (Nat.le_of_ble_eq_true rfl) (Nat.le_of_ble_eq_true rfl) ?_
    refine X_st rfl rfl rfl ?_
    refine X_ld rfl rfl rfl rfl ?_
    refine X_if_ne rfl (fun c8 => ?_) (fun c8 => ?_)
    · refine X_ld rfl rfl rfl rfl ?_
      refine X_ld rfl rfl rfl rfl ?_
      refine X_push (v := .int 3) rfl (by decide +kernel) ?_
      refine X_mcall l_X11_X11_ofCode (c_ofCode hG (d + 1) w hw hw9 k 3 (by omega) hx rfl) rfl rfl rfl rfl (Nat.le_of_ble_eq_true rfl) (Nat.le_of_ble_eq_true rfl) (Nat.le_refl _) (Nat.le_of_ble_eq_true rfl) (Nat.le_of_ble_eq_true rfl) ?_
      refine X_push (v := .int 2) rfl (by decide +kernel) ?_
      refine X_icmp_ne rfl (fun c20 => ?_) (fun c20 => ?_)
      · refine X_push (v := .int 0) rfl (by decide +kernel) ?_
        refine X_st rfl rfl rfl ?_
        refine X_ld rfl rfl rfl rfl ?_
        refine X_if_eq rfl (fun c32 => ?_) (fun c32 => absurd rfl c32)
        refine X_ld rfl rfl rfl rfl ?_
        refine X_ld rfl rfl rfl rfl ?_
        refine X_ld rfl rfl rfl rfl ?_
        refine X_if_eq rfl (fun c43 => ?_) (fun c43 => absurd rfl c43)
        refine X_ld rfl rfl rfl rfl ?_
        refine X_ld rfl rfl rfl rfl ?_
        refine X_push (v := .int 4) rfl (by decide +kernel) ?_
        refine X_mcall l_X11_X11_ofCode (c_ofCode hG (d + 1) w hw hw9 k 4 (by omega) hx rfl) rfl rfl rfl rfl (Nat.le_of_ble_eq_true rfl) (Nat.le_of_ble_eq_true rfl) (Nat.le_refl _) (Nat.le_of_ble_eq_true rfl) (Nat.le_of_ble_eq_true rfl) ?_
        refine X_mcall l_X11_X11_seenEstimate (c_seenEstimate hG d w hw hw9 k j hk hj hof (hu c8) hdv hx) rfl rfl rfl rfl (Nat.le_of_ble_eq_true rfl) (Nat.le_of_ble_eq_true rfl) (Nat.le_refl _) (Nat.le_of_ble_eq_true rfl) (Nat.le_of_ble_eq_true rfl) ?_
        exact X_iret rfl rfl ⟨rfl, by unfold s_est s_est0; rw [hof, nI_clamp (by omega)]; rw [if_neg c8, if_neg c20]⟩ (Nat.le_of_ble_eq_true rfl) (Nat.le_of_ble_eq_true rfl)
      · refine X_push (v := .int 1) rfl (by decide +kernel) ?_
        refine X_goto rfl ?_
        refine X_st rfl rfl rfl ?_
        refine X_ld rfl rfl rfl rfl ?_
        refine X_if_eq rfl (fun c32 => absurd c32 (by decide)) (fun c32 => ?_)
        refine X_ld rfl rfl rfl rfl ?_
        refine X_if_eq rfl (fun c36 => ?_) (fun c36 => absurd rfl c36)
        refine X_ld rfl rfl rfl rfl ?_
        refine X_ld rfl rfl rfl rfl ?_
        refine X_push (v := .int 2) rfl (by decide +kernel) ?_
        refine X_mcall l_X11_X11_ofCode (c_ofCode hG (d + 1) w hw hw9 k 2 (by omega) hx rfl) rfl rfl rfl rfl (Nat.le_of_ble_eq_true rfl) (Nat.le_of_ble_eq_true rfl) (Nat.le_refl _) (Nat.le_of_ble_eq_true rfl) (Nat.le_of_ble_eq_true rfl) ?_
        refine X_push (v := .int 61) rfl (by decide +kernel) ?_
        refine X_icmp_ne rfl (fun c78 => ?_) (fun c78 => ?_)
        · refine X_ld rfl rfl rfl rfl ?_
          refine X_push (v := .int 2) rfl (by decide +kernel) ?_
          refine X_bin rfl rfl ?_
          refine X_push (v := .int 3) rfl (by decide +kernel) ?_
          refine X_idiv rfl (by decide) ?_
          exact X_iret rfl rfl ⟨rfl, by unfold s_est s_est0; rw [hof, nI_clamp (by omega)]; rw [if_neg c8, if_pos c20, if_neg c78]⟩ (Nat.le_of_ble_eq_true rfl) (Nat.le_of_ble_eq_true rfl)
        · refine X_ld rfl rfl rfl rfl ?_
          refine X_ld rfl rfl rfl rfl ?_
          refine X_ld rfl rfl rfl rfl ?_
          refine X_ld rfl rfl rfl rfl ?_
          refine X_push (v := .int 1) rfl (by decide +kernel) ?_
          refine X_mcall l_X11_X11_ofCode (c_ofCode hG (d + 1) w hw hw9 k 1 (by omega) hx rfl) rfl rfl rfl rfl (Nat.le_of_ble_eq_true rfl) (Nat.le_of_ble_eq_true rfl) (Nat.le_refl _) (Nat.le_of_ble_eq_true rfl) (Nat.le_of_ble_eq_true rfl) ?_
          refine X_push (v := .int 10) rfl (by decide +kernel) ?_
          refine X_mcall l_X11_X11_ofColumn (c_ofColumn hG (d + 1) w hw hw9 j 10 (by omega) hof rfl) rfl rfl rfl rfl (Nat.le_of_ble_eq_true rfl) (Nat.le_of_ble_eq_true rfl) (Nat.le_refl _) (Nat.le_of_ble_eq_true rfl) (Nat.le_of_ble_eq_true rfl) ?_
          refine X_scall l_X11_X11_up (c_up hG (d + 2) (hu c8)) rfl rfl rfl (Nat.le_of_ble_eq_true rfl) (Nat.le_of_ble_eq_true rfl) (Nat.le_refl _) (Nat.le_of_ble_eq_true rfl) (Nat.le_of_ble_eq_true rfl) ?_
          refine X_goto rfl ?_
          exact X_iret rfl rfl ⟨rfl, by unfold s_est s_est0; rw [hof, nI_clamp (by omega)]; rw [if_neg c8, if_pos c20, if_pos c78]⟩ (Nat.le_of_ble_eq_true rfl) (Nat.le_of_ble_eq_true rfl)
    · refine X_push (v := .int 0) rfl (by decide +kernel) ?_
      exact X_iret rfl rfl ⟨rfl, by unfold s_est s_est0; rw [hof, nI_clamp (by omega)]; rw [if_pos c8]⟩ (Nat.le_of_ble_eq_true rfl) (Nat.le_of_ble_eq_true rfl)
def s_pick (c gv : Nat → Int32) (col : Int32) (z : Bool) (k : Nat) (b : Int32) : Int32 :=
  if s_cod c k 0 = 0 then (if s_cod c k 5 = 1 then (if s_cod c k 1 = col then (if b = -1 then nI k else if s_est c gv k z < s_est c gv b.toNatClampNeg z then nI k else b) else b) else b) else b
def s_chos (c gv : Nat → Int32) (col : Int32) (z : Bool) : Nat → Nat → Int32 → Int32
  | 0, _, b => b
  | n + 1, k, b => s_chos c gv col z n (k + 1) (s_pick c gv col z k b)
def s_from (c : Nat → Int32) (s : Nat) : Nat := (s_st c s 26).toNatClampNeg
def s_to (c : Nat → Int32) (s : Nat) : Nat := (s_st c s 27).toNatClampNeg
/-- the comparison that a plan by a column chooses; -1 -/
def s_chosen (c gv : Nat → Int32) (s : Nat) (col : Int32) (z : Bool) : Int32 := s_chos c gv col z (s_to c s - s_from c s) (s_from c s) (-1)
/-- a statement's codes: where they lie, and that its comparisons can be estimated -/
def s_kok (c : Nat → Int32) (s : Nat) : Prop :=
  (∃ f t, f ≤ t ∧ t < 325 ∧ s_st c s 26 = nI f ∧ s_st c s 27 = nI t) ∧ ∀ k, s_from c s ≤ k → k < s_to c s → s_cod c k 0 = 0 → s_eok c k
theorem s_pick_ok {c gv : Nat → Int32} {col : Int32} {z : Bool} {k : Nat} {b : Int32} {P : Nat → Prop} (hb : b = -1 ∨ ∃ q, P q ∧ b = nI q) (hk : s_cod c k 0 = 0 → P k) : s_pick c gv col z k b = -1 ∨ ∃ q, P q ∧ s_pick c gv col z k b = nI q := by
  unfold s_pick
  by_cases h1 : s_cod c k 0 = 0
  · rw [if_pos h1]
    repeat' split
    all_goals first | exact hb | exact Or.inr ⟨k, hk h1, rfl⟩
  · rw [if_neg h1]
    exact hb
theorem c_chosen {G : XE} (hG : x_Kn G) {B : XH} {I : Nat → Int32} {T : Int64} {S : Nat → Nat → Int32} {rd tx gv pl : Nat → Int32} (d : Nat) (w : Nat) (hw : I 3 = nI w) (hw9 : w < 9) (s : Nat) (hs : s < 6) (hko : s_kok (S w) s) (z : Bool) {x y : Int32} (hx : x = nI s) : x_M G mX11_chosen (d + 4) 0 0 [.ref 275, .int x, .int y, .int (b2 z)] (mset B I T S rd tx gv pl) (x_Ret (mset B I T S rd tx gv pl) (.int (s_chosen (S w) gv s y z))) x_noX := by
  refine X_M hG okX11_chosen rfl (L := [some (.ref 275), some (.int x), some (.int y), some (.int (b2 z)), none, none, none]) rfl (Nat.le_of_ble_eq_true rfl) (fun ad0 nb0 => ?_)
  obtain ⟨⟨f, t, hft, ht, hf1, hf2⟩, hall⟩ := hko
  have ef : s_from (S w) s = f := by unfold s_from; rw [hf1]; exact nI_clamp (by omega)
  have et : s_to (S w) s = t := by unfold s_to; rw [hf2]; exact nI_clamp (by omega)
  rw [ef, et] at hall
  have loop : ∀ (n k : Nat) (b : Int32), k + n = t → f ≤ k → (b = -1 ∨ ∃ q, (q < t ∧ s_eok (S w) q) ∧ b = nI q) → s_chos (S w) gv y z n k b = s_chosen (S w) gv s y z → x_W G mX11_chosen (x_Z G (d + 4) 0 0 ad0 nb0 (x_Ret (mset B I T S rd tx gv pl) (.int (s_chosen (S w) gv s y z))) x_noX) (mset B I T S rd tx gv pl) 0 0 12 [some (.ref 275), some (.int x), some (.int y), some (.int (b2 z)), some (.int b), some (.int (nI k)), none] [] := by
    intro n
    induction n with
    | zero =>
      intro k b hk hfk hb hs
      refine X_ld rfl rfl rfl rfl ?_
      refine X_ld rfl rfl rfl rfl ?_
      refine X_ld rfl rfl rfl rfl ?_
      refine X_push (v := .int 27) rfl (by decide +kernel) ?_
      refine X_mcall l_X11_X11_ofStatement (c_ofStatement hG (d + 2) w hw hw9 s 27 (by omega) hx rfl) rfl rfl rfl rfl (Nat.le_of_ble_eq_true rfl) (Nat.le_of_ble_eq_true rfl) (Nat.le_refl _) (Nat.le_of_ble_eq_true rfl) (Nat.le_of_ble_eq_true rfl) ?_
      refine X_icmp_ge rfl (fun c21 => ?_) (fun c21 => absurd c21 (fun q => q (by rw [hf2]; exact nI_le (by omega) (by omega))))
      refine X_ld rfl rfl rfl rfl ?_
      exact X_iret rfl rfl ⟨rfl, by rw [← hs]; rfl⟩ (Nat.le_of_ble_eq_true rfl) (Nat.le_of_ble_eq_true rfl)
    | succ n ih =>
      intro k b hk hfk hb hs
      have hs2 : s_chos (S w) gv y z n (k + 1) (s_pick (S w) gv y z k b) = s_chosen (S w) gv s y z := hs
      have hb2 := s_pick_ok (gv := gv) (col := y) (z := z) hb (P := fun q => q < t ∧ s_eok (S w) q) (fun h => (⟨by omega, hall k (by omega) (by omega) h⟩ : k < t ∧ s_eok (S w) k))
      refine X_ld rfl rfl rfl rfl ?_
      refine X_ld rfl rfl rfl rfl ?_
      refine X_ld rfl rfl rfl rfl ?_
      refine X_push (v := .int 27) rfl (by decide +kernel) ?_
      refine X_mcall l_X11_X11_ofStatement (c_ofStatement hG (d + 2) w hw hw9 s 27 (by omega) hx rfl) rfl rfl rfl rfl (Nat.le_of_ble_eq_true rfl) (Nat.le_of_ble_eq_true rfl) (Nat.le_refl _) (Nat.le_of_ble_eq_true rfl) (Nat.le_of_ble_eq_true rfl) ?_
      refine X_icmp_ge rfl (fun c21 => absurd c21 (by rw [hf2]; exact nI_ge (by omega) (by omega))) (fun c21 => ?_)
      refine X_ld rfl rfl rfl rfl ?_
      refine X_ld rfl rfl rfl rfl ?_
      refine X_push (v := .int 0) rfl (by decide +kernel) ?_
      refine X_mcall l_X11_X11_ofCode (c_ofCode hG (d + 2) w hw hw9 k 0 (by omega) rfl rfl) rfl rfl rfl rfl (Nat.le_of_ble_eq_true rfl) (Nat.le_of_ble_eq_true rfl) (Nat.le_refl _) (Nat.le_of_ble_eq_true rfl) (Nat.le_of_ble_eq_true rfl) ?_
      refine X_if_ne rfl (fun c31 => ?_) (fun c31 => ?_)
      · refine X_push (v := .int 0) rfl (by decide +kernel) ?_
        refine X_st rfl rfl rfl ?_
        refine X_ld rfl rfl rfl rfl ?_
        refine X_if_eq rfl (fun c65 => ?_) (fun c65 => absurd rfl c65)
        have e : s_pick (S w) gv y z k b = b := by unfold s_pick; rw [if_neg c31]
        rw [e] at hs2 hb2
        refine X_iinc rfl rfl rfl ?_
        refine X_goto rfl ?_
        refine X_loc (L' := [some (.ref 275), some (.int x), some (.int y), some (.int (b2 z)), some (.int b), some (.int (nI (k + 1))), none]) ⟨rfl, rfl, rfl, rfl, rfl, congrArg _ (nI_inc k).symm, trivial⟩ ?_
        exact ih (k + 1) _ (by omega) (by omega) hb2 hs2
      · refine X_ld rfl rfl rfl rfl ?_
        refine X_ld rfl rfl rfl rfl ?_
        refine X_push (v := .int 5) rfl (by decide +kernel) ?_
        refine X_mcall l_X11_X11_ofCode (c_ofCode hG (d + 2) w hw hw9 k 5 (by omega) rfl rfl) rfl rfl rfl rfl (Nat.le_of_ble_eq_true rfl) (Nat.le_of_ble_eq_true rfl) (Nat.le_refl _) (Nat.le_of_ble_eq_true rfl) (Nat.le_of_ble_eq_true rfl) ?_
        refine X_push (v := .int 1) rfl (by decide +kernel) ?_
        refine X_icmp_ne rfl (fun c42 => ?_) (fun c42 => ?_)
        · refine X_push (v := .int 0) rfl (by decide +kernel) ?_
          refine X_st rfl rfl rfl ?_
          refine X_ld rfl rfl rfl rfl ?_
          refine X_if_eq rfl (fun c65 => ?_) (fun c65 => absurd rfl c65)
          have e : s_pick (S w) gv y z k b = b := by unfold s_pick; rw [if_pos c31, if_neg c42]
          rw [e] at hs2 hb2
          refine X_iinc rfl rfl rfl ?_
          refine X_goto rfl ?_
          refine X_loc (L' := [some (.ref 275), some (.int x), some (.int y), some (.int (b2 z)), some (.int b), some (.int (nI (k + 1))), none]) ⟨rfl, rfl, rfl, rfl, rfl, congrArg _ (nI_inc k).symm, trivial⟩ ?_
          exact ih (k + 1) _ (by omega) (by omega) hb2 hs2
        · refine X_ld rfl rfl rfl rfl ?_
          refine X_ld rfl rfl rfl rfl ?_
          refine X_push (v := .int 1) rfl (by decide +kernel) ?_
          refine X_mcall l_X11_X11_ofCode (c_ofCode hG (d + 2) w hw hw9 k 1 (by omega) rfl rfl) rfl rfl rfl rfl (Nat.le_of_ble_eq_true rfl) (Nat.le_of_ble_eq_true rfl) (Nat.le_refl _) (Nat.le_of_ble_eq_true rfl) (Nat.le_of_ble_eq_true rfl) ?_
          refine X_ld rfl rfl rfl rfl ?_
          refine X_icmp_ne rfl (fun c53 => ?_) (fun c53 => ?_)
          · refine X_push (v := .int 0) rfl (by decide +kernel) ?_
            refine X_st rfl rfl rfl ?_
            refine X_ld rfl rfl rfl rfl ?_
            refine X_if_eq rfl (fun c65 => ?_) (fun c65 => absurd rfl c65)
            have e : s_pick (S w) gv y z k b = b := by unfold s_pick; rw [if_pos c31, if_pos c42, if_neg c53]
            rw [e] at hs2 hb2
            refine X_iinc rfl rfl rfl ?_
            refine X_goto rfl ?_
            refine X_loc (L' := [some (.ref 275), some (.int x), some (.int y), some (.int (b2 z)), some (.int b), some (.int (nI (k + 1))), none]) ⟨rfl, rfl, rfl, rfl, rfl, congrArg _ (nI_inc k).symm, trivial⟩ ?_
            exact ih (k + 1) _ (by omega) (by omega) hb2 hs2
          · refine X_push (v := .int 1) rfl (by decide +kernel) ?_
            refine X_goto rfl ?_
            refine X_st rfl rfl rfl ?_
            refine X_ld rfl rfl rfl rfl ?_
            refine X_if_eq rfl (fun c65 => absurd c65 (by decide)) (fun c65 => ?_)
            refine X_ld rfl rfl rfl rfl ?_
            refine X_push (v := .int (-1)) rfl (by decide +kernel) ?_
            refine X_icmp_eq rfl (fun c71 => ?_) (fun c71 => ?_)
            · refine X_ld rfl rfl rfl rfl ?_
              refine X_st rfl rfl rfl ?_
              have e : s_pick (S w) gv y z k b = nI k := by unfold s_pick; rw [if_pos c31, if_pos c42, if_pos c53, if_pos c71]
              rw [e] at hs2 hb2
              refine X_iinc rfl rfl rfl ?_
              refine X_goto rfl ?_
              refine X_loc (L' := [some (.ref 275), some (.int x), some (.int y), some (.int (b2 z)), some (.int (nI k)), some (.int (nI (k + 1))), none]) ⟨rfl, rfl, rfl, rfl, rfl, congrArg _ (nI_inc k).symm, trivial⟩ ?_
              exact ih (k + 1) _ (by omega) (by omega) hb2 hs2
            · refine X_ld rfl rfl rfl rfl ?_
              refine X_ld rfl rfl rfl rfl ?_
              refine X_ld rfl rfl rfl rfl ?_
              refine X_mcall l_X11_X11_estimate (c_estimate hG d w hw hw9 k (by omega) (hall k (by omega) (by omega) c31) z rfl) rfl rfl rfl rfl (Nat.le_of_ble_eq_true rfl) (Nat.le_of_ble_eq_true rfl) (Nat.le_refl _) (Nat.le_of_ble_eq_true rfl) (Nat.le_of_ble_eq_true rfl) ?_
              refine X_ld rfl rfl rfl rfl ?_
              refine X_ld rfl rfl rfl rfl ?_
              refine X_ld rfl rfl rfl rfl ?_
              refine X_mcall l_X11_X11_estimate (c_estimate hG d w hw hw9 q (by omega) hq2 z hq3) rfl rfl rfl rfl (Nat.le_of_ble_eq_true rfl) (Nat.le_of_ble_eq_true rfl) (Nat.le_refl _) (Nat.le_of_ble_eq_true rfl) (Nat.le_of_ble_eq_true rfl) ?_
              refine X_icmp_ge rfl (fun c88 => ?_) (fun c88 => ?_)
              · have e : s_pick (S w) gv y z k b = b := by unfold s_pick; rw [show b.toNatClampNeg = q by rw [hq3]; exact nI_clamp (by omega)]; rw [if_pos c31, if_pos c42, if_pos c53, if_neg c71, if_neg (Int32.not_lt.mpr c88)]
                rw [e] at hs2 hb2
                refine X_iinc rfl rfl rfl ?_
                refine X_goto rfl ?_
                refine X_loc (L' := [some (.ref 275), some (.int x), some (.int y), some (.int (b2 z)), some (.int b), some (.int (nI (k + 1))), none]) ⟨rfl, rfl, rfl, rfl, rfl, congrArg _ (nI_inc k).symm, trivial⟩ ?_
                exact ih (k + 1) _ (by omega) (by omega) hb2 hs2
              · refine X_ld rfl rfl rfl rfl ?_
                refine X_st rfl rfl rfl ?_
                have e : s_pick (S w) gv y z k b = nI k := by unfold s_pick; rw [show b.toNatClampNeg = q by rw [hq3]; exact nI_clamp (by omega)]; rw [if_pos c31, if_pos c42, if_pos c53, if_neg c71, if_pos (Int32.not_le.mp c88)]
                rw [e] at hs2 hb2
                refine X_iinc rfl rfl rfl ?_
                refine X_goto rfl ?_
                refine X_loc (L' := [some (.ref 275), some (.int x), some (.int y), some (.int (b2 z)), some (.int (nI k)), some (.int (nI (k + 1))), none]) ⟨rfl, rfl, rfl, rfl, rfl, congrArg _ (nI_inc k).symm, trivial⟩ ?_
                exact ih (k + 1) _ (by omega) (by omega) hb2 hs2
  refine X_push (v := .int (-1)) rfl (by decide +kernel) ?_
  refine X_st rfl rfl rfl ?_
  refine X_ld rfl rfl rfl rfl ?_
  refine X_ld rfl rfl rfl rfl ?_
  refine X_push (v := .int 26) rfl (by decide +kernel) ?_
  refine X_mcall l_X11_X11_ofStatement (c_ofStatement hG (d + 2) w hw hw9 s 26 (by omega) hx rfl) rfl rfl rfl rfl (Nat.le_of_ble_eq_true rfl) (Nat.le_of_ble_eq_true rfl) (Nat.le_refl _) (Nat.le_of_ble_eq_true rfl) (Nat.le_of_ble_eq_true rfl) ?_
  refine X_st rfl rfl rfl ?_
  refine X_loc (L' := [some (.ref 275), some (.int x), some (.int y), some (.int (b2 z)), some (.int (-1)), some (.int (nI f)), none]) ⟨rfl, rfl, rfl, rfl, rfl, congrArg Value.int hf1.symm, trivial⟩ ?_
  exact loop (t - f) f (-1) (by omega) (Nat.le_refl _) (Or.inl rfl) (by unfold s_chosen; rw [ef, et])
