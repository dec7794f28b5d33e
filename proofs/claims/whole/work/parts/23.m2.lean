/-! ===== the reference: estimates, plans, costs ===== -/
def s_up (a b : Int32) : Int32 := (a + b - 1) / b
abbrev s_col (c : Nat → Int32) (j x : Nat) : Int32 := c (10 + 13 * j + x)
abbrev s_st (c : Nat → Int32) (s x : Nat) : Int32 := c (275 + 30 * s + x)
abbrev s_cod (c : Nat → Int32) (k x : Nat) : Int32 := c (455 + 6 * k + x)
abbrev s_val (c : Nat → Int32) (l j : Nat) : Int32 := c (75 + 5 * l + j)
/-- the estimate of comparison k, of column j, with value v -/
def s_seen (c : Nat → Int32) (k j : Nat) (v : Int32) : Int32 :=
  if s_cod c k 2 = 61 then (if v < s_col c j 11 then 0 else if s_col c j 12 < v then 0 else s_up (c 8) (s_col c j 10))
  else x_max 0 (x_min (c 8) (c 8 * (if s_cod c k 2 = 60 then v - s_col c j 11 else s_col c j 12 - v) / (s_col c j 12 - s_col c j 11 + 1)))
theorem c_up {G : XE} (hG : x_Kn G) {N : XH} (d : Nat) {x y : Int32} (hy : ¬ y = 0) : x_M G mX11_up d 0 0 [.int x, .int y] (N) (x_Ret N (.int (s_up x y))) x_noX := by
  refine X_M hG okX11_up rfl (L := [some (.int x), some (.int y)]) rfl (Nat.le_of_ble_eq_true rfl) (fun ad0 nb0 => ?_)
  refine X_ld rfl rfl rfl rfl ?_
  refine X_ld rfl rfl rfl rfl ?_
  refine X_bin rfl rfl ?_
  refine X_push (v := .int 1) rfl (by decide +kernel) ?_
  refine X_bin rfl rfl ?_
  refine X_ld rfl rfl rfl rfl ?_
  refine X_idiv rfl hy ?_
  exact X_iret rfl rfl ⟨rfl, rfl⟩ (Nat.le_of_ble_eq_true rfl) (Nat.le_of_ble_eq_true rfl)
theorem c_seenEstimate {G : XE} (hG : x_Kn G) {B : XH} {I : Nat → Int32} {T : Int64} {S : Nat → Nat → Int32} {rd tx gv pl : Nat → Int32} (d : Nat) (w : Nat) (hw : I 3 = nI w) (hw9 : w < 9) (k j : Nat) (hk : k < 324) (hj : j < 5) (hof : S w (455 + 6 * k + 1) = nI j) (hu : ¬ S w (10 + 13 * j + 10) = 0) (hdv : ¬ S w (10 + 13 * j + 12) - S w (10 + 13 * j + 11) + 1 = 0) {x v : Int32} (hx : x = nI k) : x_M G mX11_seenEstimate (d + 2) 0 0 [.ref 275, .int x, .int v] (mset B I T S rd tx gv pl) (x_Ret (mset B I T S rd tx gv pl) (.int (s_seen (S w) k j v))) x_noX := by
  refine X_M hG okX11_seenEstimate rfl (L := [some (.ref 275), some (.int x), some (.int v), none, none, none, none, none]) rfl (Nat.le_of_ble_eq_true rfl) (fun ad0 nb0 => ?_)
  refine X_ld rfl rfl rfl rfl ?_
  refine X_ld rfl rfl rfl rfl ?_
  refine X_push (v := .int 1) rfl (by decide +kernel) ?_
  refine X_mcall l_X11_X11_ofCode (c_ofCode hG d w hw hw9 k 1 (by omega) hx rfl) rfl rfl rfl rfl (Nat.le_of_ble_eq_true rfl) (Nat.le_of_ble_eq_true rfl) (Nat.le_refl _) (Nat.le_of_ble_eq_true rfl) (Nat.le_of_ble_eq_true rfl) ?_
  refine X_st rfl rfl rfl ?_
  refine X_ld rfl rfl rfl rfl ?_
  refine X_push (v := .int 8) rfl (by decide +kernel) ?_
  refine X_mcall l_X11_X11_get (c_get hG (d + 1) w hw hw9 8 (by omega) rfl) rfl rfl rfl rfl (Nat.le_of_ble_eq_true rfl) (Nat.le_of_ble_eq_true rfl) (Nat.le_refl _) (Nat.le_of_ble_eq_true rfl) (Nat.le_of_ble_eq_true rfl) ?_
  refine X_st rfl rfl rfl ?_
  refine X_ld rfl rfl rfl rfl ?_
  refine X_ld rfl rfl rfl rfl ?_
  refine X_push (v := .int 11) rfl (by decide +kernel) ?_
  refine X_mcall l_X11_X11_ofColumn (c_ofColumn hG d w hw hw9 j 11 (by omega) hof rfl) rfl rfl rfl rfl (Nat.le_of_ble_eq_true rfl) (Nat.le_of_ble_eq_true rfl) (Nat.le_refl _) (Nat.le_of_ble_eq_true rfl) (Nat.le_of_ble_eq_true rfl) ?_
  refine X_st rfl rfl rfl ?_
  refine X_ld rfl rfl rfl rfl ?_
  refine X_ld rfl rfl rfl rfl ?_
  refine X_push (v := .int 12) rfl (by decide +kernel) ?_
  refine X_mcall l_X11_X11_ofColumn (c_ofColumn hG d w hw hw9 j 12 (by omega) hof rfl) rfl rfl rfl rfl (Nat.le_of_ble_eq_true rfl) (Nat.le_of_ble_eq_true rfl) (Nat.le_refl _) (Nat.le_of_ble_eq_true rfl) (Nat.le_of_ble_eq_true rfl) ?_
  refine X_st rfl rfl rfl ?_
  refine X_ld rfl rfl rfl rfl ?_
  refine X_ld rfl rfl rfl rfl ?_
  refine X_push (v := .int 2) rfl (by decide +kernel) ?_
  refine X_mcall l_X11_X11_ofCode (c_ofCode hG d w hw hw9 k 2 (by omega) hx rfl) rfl rfl rfl rfl (Nat.le_of_ble_eq_true rfl) (Nat.le_of_ble_eq_true rfl) (Nat.le_refl _) (Nat.le_of_ble_eq_true rfl) (Nat.le_of_ble_eq_true rfl) ?_
  refine X_push (v := .int 61) rfl (by decide +kernel) ?_
  refine X_icmp_ne rfl (fun c41 => ?_) (fun c41 => ?_)
  · refine X_ld rfl rfl rfl rfl ?_
    refine X_ld rfl rfl rfl rfl ?_
    refine X_push (v := .int 2) rfl (by decide +kernel) ?_
    refine X_mcall l_X11_X11_ofCode (c_ofCode hG d w hw hw9 k 2 (by omega) hx rfl) rfl rfl rfl rfl (Nat.le_of_ble_eq_true rfl) (Nat.le_of_ble_eq_true rfl) (Nat.le_refl _) (Nat.le_of_ble_eq_true rfl) (Nat.le_of_ble_eq_true rfl) ?_
    refine X_push (v := .int 60) rfl (by decide +kernel) ?_
    refine X_icmp_ne rfl (fun c81 => ?_) (fun c81 => ?_)
    · refine X_ld rfl rfl rfl rfl ?_
      refine X_ld rfl rfl rfl rfl ?_
      refine X_bin rfl rfl ?_
      refine X_st rfl rfl rfl ?_
      refine X_push (v := .int 0) rfl (by decide +kernel) ?_
      refine X_ld rfl rfl rfl rfl ?_
      refine X_ld rfl rfl rfl rfl ?_
      refine X_ld rfl rfl rfl rfl ?_
      refine X_bin rfl rfl ?_
      refine X_ld rfl rfl rfl rfl ?_
      refine X_ld rfl rfl rfl rfl ?_
      refine X_bin rfl rfl ?_
      refine X_push (v := .int 1) rfl (by decide +kernel) ?_
      refine X_bin rfl rfl ?_
      refine X_idiv rfl hdv ?_
      refine X_min lmin_X11 rfl (by omega) (Nat.le_of_ble_eq_true rfl) (Nat.le_of_ble_eq_true rfl) (Nat.le_of_ble_eq_true rfl) ?_
      refine X_max lmax_X11 rfl (by omega) (Nat.le_of_ble_eq_true rfl) (Nat.le_of_ble_eq_true rfl) (Nat.le_of_ble_eq_true rfl) ?_
      exact X_iret rfl rfl ⟨rfl, by unfold s_seen; rw [if_neg c41, if_neg c81]⟩ (Nat.le_of_ble_eq_true rfl) (Nat.le_of_ble_eq_true rfl)
    · refine X_ld rfl rfl rfl rfl ?_
      refine X_ld rfl rfl rfl rfl ?_
      refine X_bin rfl rfl ?_
      refine X_goto rfl ?_
      refine X_st rfl rfl rfl ?_
      refine X_push (v := .int 0) rfl (by decide +kernel) ?_
      refine X_ld rfl rfl rfl rfl ?_
      refine X_ld rfl rfl rfl rfl ?_
      refine X_ld rfl rfl rfl rfl ?_
      refine X_bin rfl rfl ?_
      refine X_ld rfl rfl rfl rfl ?_
      refine X_ld rfl rfl rfl rfl ?_
      refine X_bin rfl rfl ?_
      refine X_push (v := .int 1) rfl (by decide +kernel) ?_
      refine X_bin rfl rfl ?_
      refine X_idiv rfl hdv ?_
      refine X_min lmin_X11 rfl (by omega) (Nat.le_of_ble_eq_true rfl) (Nat.le_of_ble_eq_true rfl) (Nat.le_of_ble_eq_true rfl) ?_
      refine X_max lmax_X11 rfl (by omega) (Nat.le_of_ble_eq_true rfl) (Nat.le_of_ble_eq_true rfl) (Nat.le_of_ble_eq_true rfl) ?_
      exact X_iret rfl rfl ⟨rfl, by unfold s_seen; rw [if_neg c41, if_pos c81]⟩ (Nat.le_of_ble_eq_true rfl) (Nat.le_of_ble_eq_true rfl)
  · refine X_ld rfl rfl rfl rfl ?_
    refine X_ld rfl rfl rfl rfl ?_
    refine X_icmp_lt rfl (fun c47 => ?_) (fun c47 => ?_)
    · refine X_push (v := .int 0) rfl (by decide +kernel) ?_
      refine X_goto rfl ?_
      exact X_iret rfl rfl ⟨rfl, by unfold s_seen; rw [if_pos c41, if_pos c47]⟩ (Nat.le_of_ble_eq_true rfl) (Nat.le_of_ble_eq_true rfl)
    · refine X_ld rfl rfl rfl rfl ?_
      refine X_ld rfl rfl rfl rfl ?_
      refine X_icmp_le rfl (fun c53 => ?_) (fun c53 => ?_)
      · refine X_ld rfl rfl rfl rfl ?_
        refine X_ld rfl rfl rfl rfl ?_
        refine X_ld rfl rfl rfl rfl ?_
        refine X_push (v := .int 10) rfl (by decide +kernel) ?_
        refine X_mcall l_X11_X11_ofColumn (c_ofColumn hG d w hw hw9 j 10 (by omega) hof rfl) rfl rfl rfl rfl (Nat.le_of_ble_eq_true rfl) (Nat.le_of_ble_eq_true rfl) (Nat.le_refl _) (Nat.le_of_ble_eq_true rfl) (Nat.le_of_ble_eq_true rfl) ?_
        refine X_scall l_X11_X11_up (c_up hG (d + 1) hu) rfl rfl rfl (Nat.le_of_ble_eq_true rfl) (Nat.le_of_ble_eq_true rfl) (Nat.le_refl _) (Nat.le_of_ble_eq_true rfl) (Nat.le_of_ble_eq_true rfl) ?_
        exact X_iret rfl rfl ⟨rfl, by unfold s_seen; rw [if_pos c41, if_neg c47, if_neg (Int32.not_lt.mpr c53)]⟩ (Nat.le_of_ble_eq_true rfl) (Nat.le_of_ble_eq_true rfl)
      · refine X_push (v := .int 0) rfl (by decide +kernel) ?_
        refine X_goto rfl ?_
        exact X_iret rfl rfl ⟨rfl, by unfold s_seen; rw [if_pos c41, if_neg c47, if_pos (Int32.not_le.mp c53)]⟩ (Nat.le_of_ble_eq_true rfl) (Nat.le_of_ble_eq_true rfl)
def s_est0 (c gv : Nat → Int32) (k j : Nat) (z : Bool) : Int32 :=
  if c 8 = 0 then 0 else
  if s_cod c k 3 = 2 then (bif z then s_seen c k j (gv (s_cod c k 4).toNatClampNeg) else (if s_cod c k 2 = 61 then s_up (c 8) (s_col c j 10) else (c 8 + 2) / 3))
  else s_seen c k j (s_cod c k 4)
/-- the estimate of comparison k, its values seen or not -/
def s_est (c gv : Nat → Int32) (k : Nat) (z : Bool) : Int32 := s_est0 c gv k (s_cod c k 1).toNatClampNeg z
/-- a comparison that can be estimated -/
def s_eok (c : Nat → Int32) (k : Nat) : Prop :=
  ∃ j, j < 5 ∧ s_cod c k 1 = nI j ∧ (s_cod c k 3 = 2 → ∃ h, h < 4 ∧ s_cod c k 4 = nI h) ∧ (¬ c 8 = 0 → ¬ s_col c j 10 = 0) ∧ ¬ s_col c j 12 - s_col c j 11 + 1 = 0
theorem m_small {x : Int32} {n : Nat} (hn : n < 2 ^ 31) (h : ∃ k, k < n ∧ x = nI k) : x = nI x.toNatClampNeg ∧ x.toNatClampNeg < n := by
  obtain ⟨k, h1, rfl⟩ := h
  rw [nI_clamp (by omega)]
  exact ⟨rfl, h1⟩
theorem nI_inc (k : Nat) : nI k + Int32.ofInt 1 = nI (k + 1) := nI_1 k
theorem c_estimate {G : XE} (hG : x_Kn G) {B : XH} {I : Nat → Int32} {T : Int64} {S : Nat → Nat → Int32} {rd tx gv pl : Nat → Int32} (d : Nat) (w : Nat) (hw : I 3 = nI w) (hw9 : w < 9) (k : Nat) (hk : k < 324) (he : s_eok (S w) k) (z : Bool) {x : Int32} (hx : x = nI k) : x_M G mX11_estimate (d + 3) 0 0 [.ref 275, .int x, .int (b2 z)] (mset B I T S rd tx gv pl) (x_Ret (mset B I T S rd tx gv pl) (.int (s_est (S w) gv k z))) x_noX := by
  refine X_M hG okX11_estimate rfl (L := [some (.ref 275), some (.int x), some (.int (b2 z)), none, none]) rfl (Nat.le_of_ble_eq_true rfl) (fun ad0 nb0 => ?_)
  obtain ⟨j, hj, hof, hwi, hu, hdv⟩ := he
  cases z with
  | true =>
    refine X_ld rfl rfl rfl rfl ?_
    refine X_push (v := .int 8) rfl (by decide +kernel) ?_
    refine X_mcall l_X11_X11_get (c_get hG (d + 2) w hw hw9 8 (by omega) (show (8 : Int32) = nI 8 from rfl)) rfl rfl rfl rfl (Nat.le_of_ble_eq_true rfl) (Nat.le_of_ble_eq_true rfl) (Nat.le_refl _) (Nat.le_of_ble_eq_true rfl) (Nat.le_of_ble_eq_true rfl) ?_
    refine X_st rfl rfl rfl ?_
    refine X_ld rfl rfl rfl rfl ?_
    refine X_if_ne rfl (fun c8 => ?_) (fun c8 => ?_)
    · refine X_ld rfl rfl rfl rfl ?_
      refine X_ld rfl rfl rfl rfl ?_
      refine X_push (v := .int 3) rfl (by decide +kernel) ?_
      refine X_mcall l_X11_X11_ofCode (c_ofCode hG (d + 1) w hw hw9 k 3 (by omega) hx (show (3 : Int32) = nI 3 from rfl)) rfl rfl rfl rfl (Nat.le_of_ble_eq_true rfl) (Nat.le_of_ble_eq_true rfl) (Nat.le_refl _) (Nat.le_of_ble_eq_true rfl) (Nat.le_of_ble_eq_true rfl) ?_
      refine X_push (v := .int 2) rfl (by decide +kernel) ?_
      refine X_icmp_ne rfl (fun c20 => ?_) (fun c20 => ?_)
      · refine X_push (v := .int 0) rfl (by decide +kernel) ?_
        refine X_st rfl rfl rfl ?_
        refine X_ld rfl rfl rfl rfl ?_
        refine X_if_eq rfl (fun c32 => ?_) (fun c32 => absurd (by decide) c32)
        refine X_ld rfl rfl rfl rfl ?_
        refine X_ld rfl rfl rfl rfl ?_
        refine X_ld rfl rfl rfl rfl ?_
        refine X_if_eq rfl (fun c43 => ?_) (fun c43 => absurd (by decide) c43)
        refine X_ld rfl rfl rfl rfl ?_
        refine X_ld rfl rfl rfl rfl ?_
        refine X_push (v := .int 4) rfl (by decide +kernel) ?_
        refine X_mcall l_X11_X11_ofCode (c_ofCode hG (d + 1) w hw hw9 k 4 (by omega) hx (show (4 : Int32) = nI 4 from rfl)) rfl rfl rfl rfl (Nat.le_of_ble_eq_true rfl) (Nat.le_of_ble_eq_true rfl) (Nat.le_refl _) (Nat.le_of_ble_eq_true rfl) (Nat.le_of_ble_eq_true rfl) ?_
        refine X_mcall l_X11_X11_seenEstimate (c_seenEstimate hG d w hw hw9 k j hk hj hof (hu c8) hdv hx) rfl rfl rfl rfl (Nat.le_of_ble_eq_true rfl) (Nat.le_of_ble_eq_true rfl) (Nat.le_refl _) (Nat.le_of_ble_eq_true rfl) (Nat.le_of_ble_eq_true rfl) ?_
        exact X_iret rfl rfl ⟨rfl, by unfold s_est s_est0; rw [hof, nI_clamp (by omega)]; rw [if_neg c8, if_neg c20] <;> rfl⟩ (Nat.le_of_ble_eq_true rfl) (Nat.le_of_ble_eq_true rfl)
      · refine X_push (v := .int 1) rfl (by decide +kernel) ?_
        refine X_goto rfl ?_
        refine X_st rfl rfl rfl ?_
        refine X_ld rfl rfl rfl rfl ?_
        refine X_if_eq rfl (fun c32 => absurd c32 (by decide)) (fun c32 => ?_)
        refine X_ld rfl rfl rfl rfl ?_
        refine X_if_eq rfl (fun c36 => absurd c36 (by decide)) (fun c36 => ?_)
        refine X_ld rfl rfl rfl rfl ?_
        refine X_ld rfl rfl rfl rfl ?_
        refine X_ld rfl rfl rfl rfl ?_
        refine X_if_eq rfl (fun c43 => absurd c43 (by decide)) (fun c43 => ?_)
        refine X_ld rfl rfl rfl rfl ?_
        refine X_get f_X11_23 rfl rfl rfl ?_
        refine X_ld rfl rfl rfl rfl ?_
        refine X_ld rfl rfl rfl rfl ?_
        refine X_push (v := .int 4) rfl (by decide +kernel) ?_
        refine X_mcall l_X11_X11_ofCode (c_ofCode hG (d + 1) w hw hw9 k 4 (by omega) hx (show (4 : Int32) = nI 4 from rfl)) rfl rfl rfl rfl (Nat.le_of_ble_eq_true rfl) (Nat.le_of_ble_eq_true rfl) (Nat.le_refl _) (Nat.le_of_ble_eq_true rfl) (Nat.le_of_ble_eq_true rfl) ?_
        refine X_ildn _ (m_small (by omega) (hwi c20)).1 (m_small (by omega) (hwi c20)).2 (by omega) rfl rfl ?_
        refine X_goto rfl ?_
        refine X_mcall l_X11_X11_seenEstimate (c_seenEstimate hG d w hw hw9 k j hk hj hof (hu c8) hdv hx) rfl rfl rfl rfl (Nat.le_of_ble_eq_true rfl) (Nat.le_of_ble_eq_true rfl) (Nat.le_refl _) (Nat.le_of_ble_eq_true rfl) (Nat.le_of_ble_eq_true rfl) ?_
        exact X_iret rfl rfl ⟨rfl, by unfold s_est s_est0; rw [hof, nI_clamp (by omega)]; rw [if_neg c8, if_pos c20] <;> rfl⟩ (Nat.le_of_ble_eq_true rfl) (Nat.le_of_ble_eq_true rfl)
    · refine X_push (v := .int 0) rfl (by decide +kernel) ?_
      exact X_iret rfl rfl ⟨rfl, by unfold s_est s_est0; rw [hof, nI_clamp (by omega)]; rw [if_pos c8] <;> rfl⟩ (Nat.le_of_ble_eq_true rfl) (Nat.le_of_ble_eq_true rfl)
  | false =>
    refine X_ld rfl rfl rfl rfl ?_
    refine X_push (v := .int 8) rfl (by decide +kernel) ?_
    refine X_mcall l_X11_X11_get (c_get hG (d + 2) w hw hw9 8 (by omega) (show (8 : Int32) = nI 8 from rfl)) rfl rfl rfl rfl (Nat.le_of_ble_eq_true rfl) (Nat.le_of_ble_eq_true rfl) (Nat.le_refl _) (Nat.le_of_ble_eq_true rfl) (Nat.le_of_ble_eq_true rfl) ?_
    refine X_st rfl rfl rfl ?_
    refine X_ld rfl rfl rfl rfl ?_
    refine X_if_ne rfl (fun c8 => ?_) (fun c8 => ?_)
    · refine X_ld rfl rfl rfl rfl ?_
      refine X_ld rfl rfl rfl rfl ?_
      refine X_push (v := .int 3) rfl (by decide +kernel) ?_
      refine X_mcall l_X11_X11_ofCode (c_ofCode hG (d + 1) w hw hw9 k 3 (by omega) hx (show (3 : Int32) = nI 3 from rfl)) rfl rfl rfl rfl (Nat.le_of_ble_eq_true rfl) (Nat.le_of_ble_eq_true rfl) (Nat.le_refl _) (Nat.le_of_ble_eq_true rfl) (Nat.le_of_ble_eq_true rfl) ?_
      refine X_push (v := .int 2) rfl (by decide +kernel) ?_
      refine X_icmp_ne rfl (fun c20 => ?_) (fun c20 => ?_)
      · refine X_push (v := .int 0) rfl (by decide +kernel) ?_
        refine X_st rfl rfl rfl ?_
        refine X_ld rfl rfl rfl rfl ?_
        refine X_if_eq rfl (fun c32 => ?_) (fun c32 => absurd (by decide) c32)
        refine X_ld rfl rfl rfl rfl ?_
        refine X_ld rfl rfl rfl rfl ?_
        refine X_ld rfl rfl rfl rfl ?_
        refine X_if_eq rfl (fun c43 => ?_) (fun c43 => absurd (by decide) c43)
        refine X_ld rfl rfl rfl rfl ?_
        refine X_ld rfl rfl rfl rfl ?_
        refine X_push (v := .int 4) rfl (by decide +kernel) ?_
        refine X_mcall l_X11_X11_ofCode (c_ofCode hG (d + 1) w hw hw9 k 4 (by omega) hx (show (4 : Int32) = nI 4 from rfl)) rfl rfl rfl rfl (Nat.le_of_ble_eq_true rfl) (Nat.le_of_ble_eq_true rfl) (Nat.le_refl _) (Nat.le_of_ble_eq_true rfl) (Nat.le_of_ble_eq_true rfl) ?_
        refine X_mcall l_X11_X11_seenEstimate (c_seenEstimate hG d w hw hw9 k j hk hj hof (hu c8) hdv hx) rfl rfl rfl rfl (Nat.le_of_ble_eq_true rfl) (Nat.le_of_ble_eq_true rfl) (Nat.le_refl _) (Nat.le_of_ble_eq_true rfl) (Nat.le_of_ble_eq_true rfl) ?_
        exact X_iret rfl rfl ⟨rfl, by unfold s_est s_est0; rw [hof, nI_clamp (by omega)]; rw [if_neg c8, if_neg c20] <;> rfl⟩ (Nat.le_of_ble_eq_true rfl) (Nat.le_of_ble_eq_true rfl)
      · refine X_push (v := .int 1) rfl (by decide +kernel) ?_
        refine X_goto rfl ?_
        refine X_st rfl rfl rfl ?_
        refine X_ld rfl rfl rfl rfl ?_
        refine X_if_eq rfl (fun c32 => absurd c32 (by decide)) (fun c32 => ?_)
        refine X_ld rfl rfl rfl rfl ?_
        refine X_if_eq rfl (fun c36 => ?_) (fun c36 => absurd rfl c36)
        refine X_ld rfl rfl rfl rfl ?_
        refine X_ld rfl rfl rfl rfl ?_
        refine X_push (v := .int 2) rfl (by decide +kernel) ?_
        refine X_mcall l_X11_X11_ofCode (c_ofCode hG (d + 1) w hw hw9 k 2 (by omega) hx (show (2 : Int32) = nI 2 from rfl)) rfl rfl rfl rfl (Nat.le_of_ble_eq_true rfl) (Nat.le_of_ble_eq_true rfl) (Nat.le_refl _) (Nat.le_of_ble_eq_true rfl) (Nat.le_of_ble_eq_true rfl) ?_
        refine X_push (v := .int 61) rfl (by decide +kernel) ?_
        refine X_icmp_ne rfl (fun c78 => ?_) (fun c78 => ?_)
        · refine X_ld rfl rfl rfl rfl ?_
          refine X_push (v := .int 2) rfl (by decide +kernel) ?_
          refine X_bin rfl rfl ?_
          refine X_push (v := .int 3) rfl (by decide +kernel) ?_
          refine X_idiv rfl (by decide) ?_
          exact X_iret rfl rfl ⟨rfl, by unfold s_est s_est0; rw [hof, nI_clamp (by omega)]; rw [if_neg c8, if_pos c20, if_neg c78] <;> rfl⟩ (Nat.le_of_ble_eq_true rfl) (Nat.le_of_ble_eq_true rfl)
        · refine X_ld rfl rfl rfl rfl ?_
          refine X_ld rfl rfl rfl rfl ?_
          refine X_ld rfl rfl rfl rfl ?_
          refine X_ld rfl rfl rfl rfl ?_
          refine X_push (v := .int 1) rfl (by decide +kernel) ?_
          refine X_mcall l_X11_X11_ofCode (c_ofCode hG (d + 1) w hw hw9 k 1 (by omega) hx (show (1 : Int32) = nI 1 from rfl)) rfl rfl rfl rfl (Nat.le_of_ble_eq_true rfl) (Nat.le_of_ble_eq_true rfl) (Nat.le_refl _) (Nat.le_of_ble_eq_true rfl) (Nat.le_of_ble_eq_true rfl) ?_
          refine X_push (v := .int 10) rfl (by decide +kernel) ?_
          refine X_mcall l_X11_X11_ofColumn (c_ofColumn hG (d + 1) w hw hw9 j 10 (by omega) hof (show (10 : Int32) = nI 10 from rfl)) rfl rfl rfl rfl (Nat.le_of_ble_eq_true rfl) (Nat.le_of_ble_eq_true rfl) (Nat.le_refl _) (Nat.le_of_ble_eq_true rfl) (Nat.le_of_ble_eq_true rfl) ?_
          refine X_scall l_X11_X11_up (c_up hG (d + 2) (hu c8)) rfl rfl rfl (Nat.le_of_ble_eq_true rfl) (Nat.le_of_ble_eq_true rfl) (Nat.le_refl _) (Nat.le_of_ble_eq_true rfl) (Nat.le_of_ble_eq_true rfl) ?_
          refine X_goto rfl ?_
          exact X_iret rfl rfl ⟨rfl, by unfold s_est s_est0; rw [hof, nI_clamp (by omega)]; rw [if_neg c8, if_pos c20, if_pos c78] <;> rfl⟩ (Nat.le_of_ble_eq_true rfl) (Nat.le_of_ble_eq_true rfl)
    · refine X_push (v := .int 0) rfl (by decide +kernel) ?_
      exact X_iret rfl rfl ⟨rfl, by unfold s_est s_est0; rw [hof, nI_clamp (by omega)]; rw [if_pos c8] <;> rfl⟩ (Nat.le_of_ble_eq_true rfl) (Nat.le_of_ble_eq_true rfl)
def s_pick (c gv : Nat → Int32) (col : Int32) (z : Bool) (k : Nat) (b : Int32) : Int32 :=
  if s_cod c k 0 = 0 then (if s_cod c k 5 = 1 then (if s_cod c k 1 = col then (if b = -1 then nI k else if s_est c gv k z < s_est c gv b.toNatClampNeg z then nI k else b) else b) else b) else b
def s_chos (c gv : Nat → Int32) (col : Int32) (z : Bool) (f : Nat) : Nat → Int32
  | 0 => -1
  | n + 1 => s_pick c gv col z (f + n) (s_chos c gv col z f n)
def s_from (c : Nat → Int32) (s : Nat) : Nat := (s_st c s 26).toNatClampNeg
def s_to (c : Nat → Int32) (s : Nat) : Nat := (s_st c s 27).toNatClampNeg
/-- the comparison that a plan by a column chooses; -1 -/
def s_chosen (c gv : Nat → Int32) (s : Nat) (col : Int32) (z : Bool) : Int32 := s_chos c gv col z (s_from c s) (s_to c s - s_from c s)
/-- a statement's codes: where they lie, and that its comparisons can be estimated -/
def s_kok (c : Nat → Int32) (s : Nat) : Prop :=
  (∃ f t, f ≤ t ∧ t < 325 ∧ s_st c s 26 = nI f ∧ s_st c s 27 = nI t) ∧ ∀ k, s_from c s ≤ k → k < s_to c s → s_cod c k 0 = 0 → s_eok c k
theorem s_kok_ft {c : Nat → Int32} {s : Nat} (h : s_kok c s) : s_from c s ≤ s_to c s ∧ s_to c s < 325 ∧ s_st c s 26 = nI (s_from c s) ∧ s_st c s 27 = nI (s_to c s) := by
  obtain ⟨⟨f, t, h1, h2, h3, h4⟩, -⟩ := h
  have ef : s_from c s = f := by unfold s_from; rw [h3]; exact nI_clamp (by omega)
  have et : s_to c s = t := by unfold s_to; rw [h4]; exact nI_clamp (by omega)
  rw [ef, et]
  exact ⟨h1, h2, h3, h4⟩
theorem s_pick_ok {c gv : Nat → Int32} {col : Int32} {z : Bool} {k : Nat} {b : Int32} {P : Nat → Prop} (hb : b = -1 ∨ ∃ q, P q ∧ b = nI q) (hk : s_cod c k 0 = 0 → s_cod c k 5 = 1 → s_cod c k 1 = col → P k) : s_pick c gv col z k b = -1 ∨ ∃ q, P q ∧ s_pick c gv col z k b = nI q := by
  unfold s_pick
  by_cases h1 : s_cod c k 0 = 0
  · rw [if_pos h1]
    by_cases h2 : s_cod c k 5 = 1
    · rw [if_pos h2]
      by_cases h3 : s_cod c k 1 = col
      · rw [if_pos h3]
        repeat' split
        all_goals first | exact hb | exact Or.inr ⟨k, hk h1 h2 h3, rfl⟩
      · rw [if_neg h3]; exact hb
    · rw [if_neg h2]; exact hb
  · rw [if_neg h1]
    exact hb
/-- the chosen comparison is one of the statement's, of this column -/
theorem s_chos_ok {c gv : Nat → Int32} {col : Int32} {z : Bool} {f : Nat} : ∀ n, s_chos c gv col z f n = -1 ∨ ∃ q, (f ≤ q ∧ q < f + n ∧ s_cod c q 0 = 0 ∧ s_cod c q 5 = 1 ∧ s_cod c q 1 = col) ∧ s_chos c gv col z f n = nI q
  | 0 => Or.inl rfl
  | n + 1 => by
    have hb : s_chos c gv col z f n = -1 ∨ ∃ q, (f ≤ q ∧ q < f + (n + 1) ∧ s_cod c q 0 = 0 ∧ s_cod c q 5 = 1 ∧ s_cod c q 1 = col) ∧ s_chos c gv col z f n = nI q := by
      rcases s_chos_ok n with h | ⟨q, h1, h2⟩
      · exact Or.inl h
      · exact Or.inr ⟨q, ⟨h1.1, by omega, h1.2.2⟩, h2⟩
    exact s_pick_ok hb fun h1 h2 h3 => ⟨by omega, by omega, h1, h2, h3⟩
theorem s_chosen_ok {c gv : Nat → Int32} {s : Nat} {col : Int32} {z : Bool} (h : s_kok c s) : s_chosen c gv s col z = -1 ∨ ∃ q, (s_from c s ≤ q ∧ q < s_to c s ∧ s_cod c q 0 = 0 ∧ s_cod c q 5 = 1 ∧ s_cod c q 1 = col) ∧ s_chosen c gv s col z = nI q := by
  have h0 := s_kok_ft h
  rcases s_chos_ok (c := c) (gv := gv) (col := col) (z := z) (f := s_from c s) (s_to c s - s_from c s) with h | ⟨q, h1, h2⟩
  · exact Or.inl h
  · exact Or.inr ⟨q, ⟨h1.1, by omega, h1.2.2⟩, h2⟩
theorem c_chosen {G : XE} (hG : x_Kn G) {B : XH} {I : Nat → Int32} {T : Int64} {S : Nat → Nat → Int32} {rd tx gv pl : Nat → Int32} (d : Nat) (w : Nat) (hw : I 3 = nI w) (hw9 : w < 9) (s : Nat) (hs : s < 6) (hko : s_kok (S w) s) (z : Bool) {x y : Int32} (hx : x = nI s) : x_M G mX11_chosen (d + 4) 0 0 [.ref 275, .int x, .int y, .int (b2 z)] (mset B I T S rd tx gv pl) (x_Ret (mset B I T S rd tx gv pl) (.int (s_chosen (S w) gv s y z))) x_noX := by
  refine X_M hG okX11_chosen rfl (L := [some (.ref 275), some (.int x), some (.int y), some (.int (b2 z)), none, none, none]) rfl (Nat.le_of_ble_eq_true rfl) (fun ad0 nb0 => ?_)
  obtain ⟨h1, h2, h3, h4⟩ := s_kok_ft hko
  have loop : x_W G mX11_chosen (x_Z G (d + 4) 0 0 ad0 nb0 (x_Ret (mset B I T S rd tx gv pl) (.int (s_chosen (S w) gv s y z))) x_noX) (mset B I T S rd tx gv pl) 0 0 101 [some (.ref 275), some (.int x), some (.int y), some (.int (b2 z)), some (.int (s_chos (S w) gv y z (s_from (S w) s) (s_to (S w) s - s_from (S w) s))), some (.int (nI (s_from (S w) s + (s_to (S w) s - s_from (S w) s)))), none] [] → ∀ (f9 k : Nat), k + f9 = (s_to (S w) s - s_from (S w) s) → x_W G mX11_chosen (x_Z G (d + 4) 0 0 ad0 nb0 (x_Ret (mset B I T S rd tx gv pl) (.int (s_chosen (S w) gv s y z))) x_noX) (mset B I T S rd tx gv pl) 0 0 12 [some (.ref 275), some (.int x), some (.int y), some (.int (b2 z)), some (.int (s_chos (S w) gv y z (s_from (S w) s) k)), some (.int (nI (s_from (S w) s + k))), none] [] := by
    intro K f9
    induction f9 with
    | zero =>
      intro k e0 
      obtain rfl : k = (s_to (S w) s - s_from (S w) s) := by omega
      refine X_ld rfl rfl rfl rfl ?_
      refine X_ld rfl rfl rfl rfl ?_
      refine X_ld rfl rfl rfl rfl ?_
      refine X_push (v := .int 27) rfl (by decide +kernel) ?_
      refine X_mcall l_X11_X11_ofStatement (c_ofStatement hG (d + 2) w hw hw9 s 27 (by omega) hx (show (27 : Int32) = nI 27 from rfl)) rfl rfl rfl rfl (Nat.le_of_ble_eq_true rfl) (Nat.le_of_ble_eq_true rfl) (Nat.le_refl _) (Nat.le_of_ble_eq_true rfl) (Nat.le_of_ble_eq_true rfl) ?_
      refine X_icmp_ge rfl (fun c21 => ?_) (fun c21 => absurd ((n_le h4 rfl (by omega) (by omega)).mpr (by omega)) c21)
      exact K
    | succ f9 ih =>
      intro k e0 
      refine X_ld rfl rfl rfl rfl ?_
      refine X_ld rfl rfl rfl rfl ?_
      refine X_ld rfl rfl rfl rfl ?_
      refine X_push (v := .int 27) rfl (by decide +kernel) ?_
      refine X_mcall l_X11_X11_ofStatement (c_ofStatement hG (d + 2) w hw hw9 s 27 (by omega) hx (show (27 : Int32) = nI 27 from rfl)) rfl rfl rfl rfl (Nat.le_of_ble_eq_true rfl) (Nat.le_of_ble_eq_true rfl) (Nat.le_refl _) (Nat.le_of_ble_eq_true rfl) (Nat.le_of_ble_eq_true rfl) ?_
      refine X_icmp_ge rfl (fun c21 => absurd ((n_le h4 rfl (by omega) (by omega)).mp c21) (by omega)) (fun c21 => ?_)
      refine X_ld rfl rfl rfl rfl ?_
      refine X_ld rfl rfl rfl rfl ?_
      refine X_push (v := .int 0) rfl (by decide +kernel) ?_
      refine X_mcall l_X11_X11_ofCode (c_ofCode hG (d + 2) w hw hw9 (s_from (S w) s + k) 0 (by omega) rfl (show (0 : Int32) = nI 0 from rfl)) rfl rfl rfl rfl (Nat.le_of_ble_eq_true rfl) (Nat.le_of_ble_eq_true rfl) (Nat.le_refl _) (Nat.le_of_ble_eq_true rfl) (Nat.le_of_ble_eq_true rfl) ?_
      refine X_if_ne rfl (fun c31 => ?_) (fun c31 => ?_)
      · refine X_push (v := .int 0) rfl (by decide +kernel) ?_
        refine X_st rfl rfl rfl ?_
        refine X_ld rfl rfl rfl rfl ?_
        refine X_if_eq rfl (fun c65 => ?_) (fun c65 => absurd (by decide) c65)
        refine X_iinc rfl rfl rfl ?_
        refine X_goto rfl ?_
        have e : s_chos (S w) gv y z (s_from (S w) s) (k + 1) = s_chos (S w) gv y z (s_from (S w) s) k := (show s_pick (S w) gv y z (s_from (S w) s + k) (s_chos (S w) gv y z (s_from (S w) s) k) = _ from by unfold s_pick; rw [if_neg c31])
        refine X_loc (L' := [some (.ref 275), some (.int x), some (.int y), some (.int (b2 z)), some (.int (s_chos (S w) gv y z (s_from (S w) s) (k + 1))), some (.int (nI (s_from (S w) s + (k + 1)))), none]) ⟨rfl, rfl, rfl, rfl, congrArg Value.int e, congrArg Value.int (m_inc rfl).symm, trivial⟩ ?_
        exact ih (k + 1) (by omega)
      · refine X_ld rfl rfl rfl rfl ?_
        refine X_ld rfl rfl rfl rfl ?_
        refine X_push (v := .int 5) rfl (by decide +kernel) ?_
        refine X_mcall l_X11_X11_ofCode (c_ofCode hG (d + 2) w hw hw9 (s_from (S w) s + k) 5 (by omega) rfl (show (5 : Int32) = nI 5 from rfl)) rfl rfl rfl rfl (Nat.le_of_ble_eq_true rfl) (Nat.le_of_ble_eq_true rfl) (Nat.le_refl _) (Nat.le_of_ble_eq_true rfl) (Nat.le_of_ble_eq_true rfl) ?_
        refine X_push (v := .int 1) rfl (by decide +kernel) ?_
        refine X_icmp_ne rfl (fun c42 => ?_) (fun c42 => ?_)
        · refine X_push (v := .int 0) rfl (by decide +kernel) ?_
          refine X_st rfl rfl rfl ?_
          refine X_ld rfl rfl rfl rfl ?_
          refine X_if_eq rfl (fun c65 => ?_) (fun c65 => absurd (by decide) c65)
          refine X_iinc rfl rfl rfl ?_
          refine X_goto rfl ?_
          have e : s_chos (S w) gv y z (s_from (S w) s) (k + 1) = s_chos (S w) gv y z (s_from (S w) s) k := (show s_pick (S w) gv y z (s_from (S w) s + k) (s_chos (S w) gv y z (s_from (S w) s) k) = _ from by unfold s_pick; rw [if_pos c31, if_neg c42])
          refine X_loc (L' := [some (.ref 275), some (.int x), some (.int y), some (.int (b2 z)), some (.int (s_chos (S w) gv y z (s_from (S w) s) (k + 1))), some (.int (nI (s_from (S w) s + (k + 1)))), none]) ⟨rfl, rfl, rfl, rfl, congrArg Value.int e, congrArg Value.int (m_inc rfl).symm, trivial⟩ ?_
          exact ih (k + 1) (by omega)
        · refine X_ld rfl rfl rfl rfl ?_
          refine X_ld rfl rfl rfl rfl ?_
          refine X_push (v := .int 1) rfl (by decide +kernel) ?_
          refine X_mcall l_X11_X11_ofCode (c_ofCode hG (d + 2) w hw hw9 (s_from (S w) s + k) 1 (by omega) rfl (show (1 : Int32) = nI 1 from rfl)) rfl rfl rfl rfl (Nat.le_of_ble_eq_true rfl) (Nat.le_of_ble_eq_true rfl) (Nat.le_refl _) (Nat.le_of_ble_eq_true rfl) (Nat.le_of_ble_eq_true rfl) ?_
          refine X_ld rfl rfl rfl rfl ?_
          refine X_icmp_ne rfl (fun c53 => ?_) (fun c53 => ?_)
          · refine X_push (v := .int 0) rfl (by decide +kernel) ?_
            refine X_st rfl rfl rfl ?_
            refine X_ld rfl rfl rfl rfl ?_
            refine X_if_eq rfl (fun c65 => ?_) (fun c65 => absurd (by decide) c65)
            refine X_iinc rfl rfl rfl ?_
            refine X_goto rfl ?_
            have e : s_chos (S w) gv y z (s_from (S w) s) (k + 1) = s_chos (S w) gv y z (s_from (S w) s) k := (show s_pick (S w) gv y z (s_from (S w) s + k) (s_chos (S w) gv y z (s_from (S w) s) k) = _ from by unfold s_pick; rw [if_pos c31, if_pos c42, if_neg c53])
            refine X_loc (L' := [some (.ref 275), some (.int x), some (.int y), some (.int (b2 z)), some (.int (s_chos (S w) gv y z (s_from (S w) s) (k + 1))), some (.int (nI (s_from (S w) s + (k + 1)))), none]) ⟨rfl, rfl, rfl, rfl, congrArg Value.int e, congrArg Value.int (m_inc rfl).symm, trivial⟩ ?_
            exact ih (k + 1) (by omega)
          · refine X_push (v := .int 1) rfl (by decide +kernel) ?_
            refine X_goto rfl ?_
            refine X_st rfl rfl rfl ?_
            refine X_ld rfl rfl rfl rfl ?_
            refine X_if_eq rfl (fun c65 => absurd c65 (by decide)) (fun c65 => ?_)
            refine X_ld rfl rfl rfl rfl ?_
            refine X_push (v := .int (-1)) rfl (by decide +kernel) ?_
            refine X_icmp_eq rfl (fun c71 => ?_) (fun c71 => ?_)
            · refine X_ld rfl rfl rfl rfl ?_
              refine X_st rfl rfl rfl ?_
              refine X_iinc rfl rfl rfl ?_
              refine X_goto rfl ?_
              have e : s_chos (S w) gv y z (s_from (S w) s) (k + 1) = nI (s_from (S w) s + k) := (show s_pick (S w) gv y z (s_from (S w) s + k) (s_chos (S w) gv y z (s_from (S w) s) k) = _ from by unfold s_pick; rw [if_pos c31, if_pos c42, if_pos c53, if_pos c71])
              refine X_loc (L' := [some (.ref 275), some (.int x), some (.int y), some (.int (b2 z)), some (.int (s_chos (S w) gv y z (s_from (S w) s) (k + 1))), some (.int (nI (s_from (S w) s + (k + 1)))), none]) ⟨rfl, rfl, rfl, rfl, congrArg Value.int e, congrArg Value.int (m_inc rfl).symm, trivial⟩ ?_
              exact ih (k + 1) (by omega)
            · obtain ⟨q, hq1, hq2⟩ := (s_chos_ok k).resolve_left c71
              refine X_ld rfl rfl rfl rfl ?_
              refine X_ld rfl rfl rfl rfl ?_
              refine X_ld rfl rfl rfl rfl ?_
              refine X_mcall l_X11_X11_estimate (c_estimate hG d w hw hw9 (s_from (S w) s + k) (by omega) (hko.2 _ (by omega) (by omega) c31) z rfl) rfl rfl rfl rfl (Nat.le_of_ble_eq_true rfl) (Nat.le_of_ble_eq_true rfl) (Nat.le_refl _) (Nat.le_of_ble_eq_true rfl) (Nat.le_of_ble_eq_true rfl) ?_
              refine X_ld rfl rfl rfl rfl ?_
              refine X_ld rfl rfl rfl rfl ?_
              refine X_ld rfl rfl rfl rfl ?_
              refine X_mcall l_X11_X11_estimate (c_estimate hG d w hw hw9 q (by omega) (hko.2 _ (by omega) (by omega) hq1.2.2.1) z hq2) rfl rfl rfl rfl (Nat.le_of_ble_eq_true rfl) (Nat.le_of_ble_eq_true rfl) (Nat.le_refl _) (Nat.le_of_ble_eq_true rfl) (Nat.le_of_ble_eq_true rfl) ?_
              refine X_icmp_ge rfl (fun c88 => ?_) (fun c88 => ?_)
              · refine X_iinc rfl rfl rfl ?_
                refine X_goto rfl ?_
                have e : s_chos (S w) gv y z (s_from (S w) s) (k + 1) = s_chos (S w) gv y z (s_from (S w) s) k := (show s_pick (S w) gv y z (s_from (S w) s + k) (s_chos (S w) gv y z (s_from (S w) s) k) = _ from by unfold s_pick; rw [show (s_chos (S w) gv y z (s_from (S w) s) k).toNatClampNeg = q by rw [hq2]; exact nI_clamp (by omega)]; rw [if_pos c31, if_pos c42, if_pos c53, if_neg c71, if_neg (Int32.not_lt.mpr c88)])
                refine X_loc (L' := [some (.ref 275), some (.int x), some (.int y), some (.int (b2 z)), some (.int (s_chos (S w) gv y z (s_from (S w) s) (k + 1))), some (.int (nI (s_from (S w) s + (k + 1)))), none]) ⟨rfl, rfl, rfl, rfl, congrArg Value.int e, congrArg Value.int (m_inc rfl).symm, trivial⟩ ?_
                exact ih (k + 1) (by omega)
              · refine X_ld rfl rfl rfl rfl ?_
                refine X_st rfl rfl rfl ?_
                refine X_iinc rfl rfl rfl ?_
                refine X_goto rfl ?_
                have e : s_chos (S w) gv y z (s_from (S w) s) (k + 1) = nI (s_from (S w) s + k) := (show s_pick (S w) gv y z (s_from (S w) s + k) (s_chos (S w) gv y z (s_from (S w) s) k) = _ from by unfold s_pick; rw [show (s_chos (S w) gv y z (s_from (S w) s) k).toNatClampNeg = q by rw [hq2]; exact nI_clamp (by omega)]; rw [if_pos c31, if_pos c42, if_pos c53, if_neg c71, if_pos (Int32.not_le.mp c88)])
                refine X_loc (L' := [some (.ref 275), some (.int x), some (.int y), some (.int (b2 z)), some (.int (s_chos (S w) gv y z (s_from (S w) s) (k + 1))), some (.int (nI (s_from (S w) s + (k + 1)))), none]) ⟨rfl, rfl, rfl, rfl, congrArg Value.int e, congrArg Value.int (m_inc rfl).symm, trivial⟩ ?_
                exact ih (k + 1) (by omega)
  refine X_push (v := .int (-1)) rfl (by decide +kernel) ?_
  refine X_st rfl rfl rfl ?_
  refine X_ld rfl rfl rfl rfl ?_
  refine X_ld rfl rfl rfl rfl ?_
  refine X_push (v := .int 26) rfl (by decide +kernel) ?_
  refine X_mcall l_X11_X11_ofStatement (c_ofStatement hG (d + 2) w hw hw9 s 26 (by omega) hx (show (26 : Int32) = nI 26 from rfl)) rfl rfl rfl rfl (Nat.le_of_ble_eq_true rfl) (Nat.le_of_ble_eq_true rfl) (Nat.le_refl _) (Nat.le_of_ble_eq_true rfl) (Nat.le_of_ble_eq_true rfl) ?_
  refine X_st rfl rfl rfl ?_
  refine X_loc (L' := [some (.ref 275), some (.int x), some (.int y), some (.int (b2 z)), some (.int (s_chos (S w) gv y z (s_from (S w) s) 0)), some (.int (nI (s_from (S w) s + 0))), none]) ⟨rfl, rfl, rfl, rfl, rfl, congrArg Value.int h3.symm, trivial⟩ ?_
  refine loop ?_ _ 0 (Nat.zero_add _)
  refine X_ld rfl rfl rfl rfl ?_
  exact X_iret rfl rfl ⟨rfl, rfl⟩ (Nat.le_of_ble_eq_true rfl) (Nat.le_of_ble_eq_true rfl)
def s_cost1 (c gv : Nat → Int32) (s j : Nat) (p : Int32) (z : Bool) : Int32 :=
  if s_col c j 9 = 1 then (if s_chosen c gv s p z = -1 then -1 else c 5 + c 6 * (s_est c gv (s_chosen c gv s p z).toNatClampNeg z * s_st c s (21 + j) / 100)) else -1
/-- what a plan costs; -1 -/
def s_cost (c gv : Nat → Int32) (s : Nat) (p : Int32) (z : Bool) : Int32 := if p = -1 then c 4 * c 8 else s_cost1 c gv s p.toNatClampNeg p z
theorem c_costOf {G : XE} (hG : x_Kn G) {B : XH} {I : Nat → Int32} {T : Int64} {S : Nat → Nat → Int32} {rd tx gv pl : Nat → Int32} (d : Nat) (w : Nat) (hw : I 3 = nI w) (hw9 : w < 9) (s : Nat) (hs : s < 6) (hko : s_kok (S w) s) (z : Bool) {x p : Int32} (hx : x = nI s) (hp : p = -1 ∨ ∃ j, j < 5 ∧ p = nI j) : x_M G mX11_costOf (d + 5) 0 0 [.ref 275, .int x, .int p, .int (b2 z)] (mset B I T S rd tx gv pl) (x_Ret (mset B I T S rd tx gv pl) (.int (s_cost (S w) gv s p z))) x_noX := by
  refine X_M hG okX11_costOf rfl (L := [some (.ref 275), some (.int x), some (.int p), some (.int (b2 z)), none]) rfl (Nat.le_of_ble_eq_true rfl) (fun ad0 nb0 => ?_)
  refine X_ld rfl rfl rfl rfl ?_
  refine X_push (v := .int (-1)) rfl (by decide +kernel) ?_
  refine X_icmp_ne rfl (fun c2 => ?_) (fun c2 => ?_)
  · obtain ⟨j, hj, hpj⟩ := hp.resolve_left c2
    have ej : p.toNatClampNeg = j := by rw [hpj]; exact nI_clamp (by omega)
    refine X_ld rfl rfl rfl rfl ?_
    refine X_ld rfl rfl rfl rfl ?_
    refine X_push (v := .int 9) rfl (by decide +kernel) ?_
    refine X_mcall l_X11_X11_ofColumn (c_ofColumn hG (d + 3) w hw hw9 j 9 (by omega) hpj (show (9 : Int32) = nI 9 from rfl)) rfl rfl rfl rfl (Nat.le_of_ble_eq_true rfl) (Nat.le_of_ble_eq_true rfl) (Nat.le_refl _) (Nat.le_of_ble_eq_true rfl) (Nat.le_of_ble_eq_true rfl) ?_
    refine X_push (v := .int 1) rfl (by decide +kernel) ?_
    refine X_icmp_ne rfl (fun c26 => ?_) (fun c26 => ?_)
    · refine X_push (v := .int (-1)) rfl (by decide +kernel) ?_
      refine X_st rfl rfl rfl ?_
      refine X_ld rfl rfl rfl rfl ?_
      refine X_push (v := .int (-1)) rfl (by decide +kernel) ?_
      refine X_icmp_ne rfl (fun c45 => absurd (by decide) c45) (fun c45 => ?_)
      refine X_push (v := .int (-1)) rfl (by decide +kernel) ?_
      refine X_goto rfl ?_
      exact X_iret rfl rfl ⟨rfl, by unfold s_cost s_cost1; rw [if_neg c2, ej, if_neg c26]⟩ (Nat.le_of_ble_eq_true rfl) (Nat.le_of_ble_eq_true rfl)
    · refine X_ld rfl rfl rfl rfl ?_
      refine X_ld rfl rfl rfl rfl ?_
      refine X_ld rfl rfl rfl rfl ?_
      refine X_ld rfl rfl rfl rfl ?_
      refine X_mcall l_X11_X11_chosen (c_chosen hG d w hw hw9 s hs hko z hx) rfl rfl rfl rfl (Nat.le_of_ble_eq_true rfl) (Nat.le_of_ble_eq_true rfl) (Nat.le_refl _) (Nat.le_of_ble_eq_true rfl) (Nat.le_of_ble_eq_true rfl) ?_
      refine X_goto rfl ?_
      refine X_st rfl rfl rfl ?_
      refine X_ld rfl rfl rfl rfl ?_
      refine X_push (v := .int (-1)) rfl (by decide +kernel) ?_
      refine X_icmp_ne rfl (fun c45 => ?_) (fun c45 => ?_)
      · obtain ⟨q, hq1, hq2⟩ := (s_chosen_ok (gv := gv) (col := p) (z := z) hko).resolve_left c45
        have hq3 := s_kok_ft hko
        have eq : (s_chosen (S w) gv s p z).toNatClampNeg = q := by rw [hq2]; exact nI_clamp (by omega)
        refine X_ld rfl rfl rfl rfl ?_
        refine X_push (v := .int 5) rfl (by decide +kernel) ?_
        refine X_mcall l_X11_X11_get (c_get hG (d + 4) w hw hw9 5 (by omega) (show (5 : Int32) = nI 5 from rfl)) rfl rfl rfl rfl (Nat.le_of_ble_eq_true rfl) (Nat.le_of_ble_eq_true rfl) (Nat.le_refl _) (Nat.le_of_ble_eq_true rfl) (Nat.le_of_ble_eq_true rfl) ?_
        refine X_ld rfl rfl rfl rfl ?_
        refine X_push (v := .int 6) rfl (by decide +kernel) ?_
        refine X_mcall l_X11_X11_get (c_get hG (d + 4) w hw hw9 6 (by omega) (show (6 : Int32) = nI 6 from rfl)) rfl rfl rfl rfl (Nat.le_of_ble_eq_true rfl) (Nat.le_of_ble_eq_true rfl) (Nat.le_refl _) (Nat.le_of_ble_eq_true rfl) (Nat.le_of_ble_eq_true rfl) ?_
        refine X_ld rfl rfl rfl rfl ?_
        refine X_ld rfl rfl rfl rfl ?_
        refine X_ld rfl rfl rfl rfl ?_
        refine X_mcall l_X11_X11_estimate (c_estimate hG (d + 1) w hw hw9 q (by omega) (hko.2 q hq1.1 hq1.2.1 hq1.2.2.1) z hq2) rfl rfl rfl rfl (Nat.le_of_ble_eq_true rfl) (Nat.le_of_ble_eq_true rfl) (Nat.le_refl _) (Nat.le_of_ble_eq_true rfl) (Nat.le_of_ble_eq_true rfl) ?_
        refine X_ld rfl rfl rfl rfl ?_
        refine X_ld rfl rfl rfl rfl ?_
        refine X_push (v := .int 21) rfl (by decide +kernel) ?_
        refine X_ld rfl rfl rfl rfl ?_
        refine X_bin rfl rfl ?_
        refine X_mcall l_X11_X11_ofStatement (c_ofStatement hG (d + 3) w hw hw9 s (21 + j) (by omega) hx (m_add (show (21 : Int32) = nI 21 from rfl) hpj)) rfl rfl rfl rfl (Nat.le_of_ble_eq_true rfl) (Nat.le_of_ble_eq_true rfl) (Nat.le_refl _) (Nat.le_of_ble_eq_true rfl) (Nat.le_of_ble_eq_true rfl) ?_
        refine X_bin rfl rfl ?_
        refine X_push (v := .int 100) rfl (by decide +kernel) ?_
        refine X_idiv rfl (by decide) ?_
        refine X_bin rfl rfl ?_
        refine X_bin rfl rfl ?_
        exact X_iret rfl rfl ⟨rfl, by unfold s_cost s_cost1; rw [if_neg c2, ej, if_pos c26, if_neg c45, eq]⟩ (Nat.le_of_ble_eq_true rfl) (Nat.le_of_ble_eq_true rfl)
      · refine X_push (v := .int (-1)) rfl (by decide +kernel) ?_
        refine X_goto rfl ?_
        exact X_iret rfl rfl ⟨rfl, by unfold s_cost s_cost1; rw [if_neg c2, ej, if_pos c26, if_pos c45]⟩ (Nat.le_of_ble_eq_true rfl) (Nat.le_of_ble_eq_true rfl)
  · refine X_ld rfl rfl rfl rfl ?_
    refine X_push (v := .int 4) rfl (by decide +kernel) ?_
    refine X_mcall l_X11_X11_get (c_get hG (d + 4) w hw hw9 4 (by omega) (show (4 : Int32) = nI 4 from rfl)) rfl rfl rfl rfl (Nat.le_of_ble_eq_true rfl) (Nat.le_of_ble_eq_true rfl) (Nat.le_refl _) (Nat.le_of_ble_eq_true rfl) (Nat.le_of_ble_eq_true rfl) ?_
    refine X_ld rfl rfl rfl rfl ?_
    refine X_push (v := .int 8) rfl (by decide +kernel) ?_
    refine X_mcall l_X11_X11_get (c_get hG (d + 4) w hw hw9 8 (by omega) (show (8 : Int32) = nI 8 from rfl)) rfl rfl rfl rfl (Nat.le_of_ble_eq_true rfl) (Nat.le_of_ble_eq_true rfl) (Nat.le_refl _) (Nat.le_of_ble_eq_true rfl) (Nat.le_of_ble_eq_true rfl) ?_
    refine X_bin rfl rfl ?_
    exact X_iret rfl rfl ⟨rfl, by unfold s_cost; rw [if_pos c2]⟩ (Nat.le_of_ble_eq_true rfl) (Nat.le_of_ble_eq_true rfl)
def s_bst1 (q : Int32 × Int32) (n : Nat) (x : Int32) : Int32 × Int32 := if x = -1 then q else if x < q.2 then (nI n, x) else q
def s_bst (c gv : Nat → Int32) (s : Nat) (z : Bool) : Nat → Int32 × Int32
  | 0 => (-1, s_cost c gv s (-1) z)
  | n + 1 => s_bst1 (s_bst c gv s z n) n (s_cost c gv s (nI n) z)
/-- the best of the plans by m columns and the scan -/
def s_best (c gv : Nat → Int32) (s : Nat) (m : Nat) (z : Bool) : Int32 := (s_bst c gv s z m).1
theorem s_best_ok {c gv : Nat → Int32} {s : Nat} {z : Bool} : ∀ m, s_best c gv s m z = -1 ∨ ∃ j, j < m ∧ s_best c gv s m z = nI j
  | 0 => Or.inl rfl
  | n + 1 => by
    have h0 := s_best_ok (c := c) (gv := gv) (s := s) (z := z) n
    unfold s_best at h0 ⊢
    show (s_bst1 _ _ _).1 = -1 ∨ ∃ j, j < n + 1 ∧ (s_bst1 _ _ _).1 = nI j
    unfold s_bst1
    have hb : (s_bst c gv s z n).1 = -1 ∨ ∃ j, j < n + 1 ∧ (s_bst c gv s z n).1 = nI j := by
      rcases h0 with h | ⟨j, h1, h2⟩
      · exact Or.inl h
      · exact Or.inr ⟨j, by omega, h2⟩
    repeat' split
    all_goals first | exact hb | exact Or.inr ⟨n, by omega, rfl⟩
theorem c_bestPlan {G : XE} (hG : x_Kn G) {B : XH} {I : Nat → Int32} {T : Int64} {S : Nat → Nat → Int32} {rd tx gv pl : Nat → Int32} (d : Nat) (w : Nat) (hw : I 3 = nI w) (hw9 : w < 9) (m : Nat) (hcm : S w 0 = nI m) (hm : m ≤ 5) (s : Nat) (hs : s < 6) (hko : s_kok (S w) s) (z : Bool) {x : Int32} (hx : x = nI s) : x_M G mX11_bestPlan (d + 6) 0 0 [.ref 275, .int x, .int (b2 z)] (mset B I T S rd tx gv pl) (x_Ret (mset B I T S rd tx gv pl) (.int (s_best (S w) gv s m z))) x_noX := by
  refine X_M hG okX11_bestPlan rfl (L := [some (.ref 275), some (.int x), some (.int (b2 z)), none, none, none, none]) rfl (Nat.le_of_ble_eq_true rfl) (fun ad0 nb0 => ?_)
  have loop : x_W G mX11_bestPlan (x_Z G (d + 6) 0 0 ad0 nb0 (x_Ret (mset B I T S rd tx gv pl) (.int (s_best (S w) gv s m z))) x_noX) (mset B I T S rd tx gv pl) 0 0 63 [some (.ref 275), some (.int x), some (.int (b2 z)), some (.int (s_bst (S w) gv s z m).1), some (.int (s_bst (S w) gv s z m).2), some (.int (nI m)), none] [] → ∀ (f9 k : Nat), k + f9 = m → x_W G mX11_bestPlan (x_Z G (d + 6) 0 0 ad0 nb0 (x_Ret (mset B I T S rd tx gv pl) (.int (s_best (S w) gv s m z))) x_noX) (mset B I T S rd tx gv pl) 0 0 14 [some (.ref 275), some (.int x), some (.int (b2 z)), some (.int (s_bst (S w) gv s z k).1), some (.int (s_bst (S w) gv s z k).2), some (.int (nI k)), none] [] := by
    intro K f9
    induction f9 with
    | zero =>
      intro k e0 
      obtain e9 : k = m := by omega
      subst k
      refine X_ld rfl rfl rfl rfl ?_
      refine X_ld rfl rfl rfl rfl ?_
      refine X_push (v := .int 0) rfl (by decide +kernel) ?_
      refine X_mcall l_X11_X11_get (c_get hG (d + 5) w hw hw9 0 (by omega) (show (0 : Int32) = nI 0 from rfl)) rfl rfl rfl rfl (Nat.le_of_ble_eq_true rfl) (Nat.le_of_ble_eq_true rfl) (Nat.le_refl _) (Nat.le_of_ble_eq_true rfl) (Nat.le_of_ble_eq_true rfl) ?_
      refine X_icmp_ge rfl (fun c21 => ?_) (fun c21 => absurd ((n_le hcm rfl (by omega) (by omega)).mpr (by omega)) c21)
      exact K
    | succ f9 ih =>
      intro k e0 
      refine X_ld rfl rfl rfl rfl ?_
      refine X_ld rfl rfl rfl rfl ?_
      refine X_push (v := .int 0) rfl (by decide +kernel) ?_
      refine X_mcall l_X11_X11_get (c_get hG (d + 5) w hw hw9 0 (by omega) (show (0 : Int32) = nI 0 from rfl)) rfl rfl rfl rfl (Nat.le_of_ble_eq_true rfl) (Nat.le_of_ble_eq_true rfl) (Nat.le_refl _) (Nat.le_of_ble_eq_true rfl) (Nat.le_of_ble_eq_true rfl) ?_
      refine X_icmp_ge rfl (fun c21 => absurd ((n_le hcm rfl (by omega) (by omega)).mp c21) (by omega)) (fun c21 => ?_)
      refine X_ld rfl rfl rfl rfl ?_
      refine X_ld rfl rfl rfl rfl ?_
      refine X_ld rfl rfl rfl rfl ?_
      refine X_ld rfl rfl rfl rfl ?_
      refine X_mcall l_X11_X11_costOf (c_costOf hG d w hw hw9 s hs hko z hx (Or.inr ⟨k, by omega, rfl⟩)) rfl rfl rfl rfl (Nat.le_of_ble_eq_true rfl) (Nat.le_of_ble_eq_true rfl) (Nat.le_refl _) (Nat.le_of_ble_eq_true rfl) (Nat.le_of_ble_eq_true rfl) ?_
      refine X_st rfl rfl rfl ?_
      refine X_ld rfl rfl rfl rfl ?_
      refine X_push (v := .int (-1)) rfl (by decide +kernel) ?_
      refine X_icmp_eq rfl (fun c37 => ?_) (fun c37 => ?_)
      · refine X_iinc rfl rfl rfl ?_
        refine X_goto rfl ?_
        have e : s_bst (S w) gv s z (k + 1) = s_bst (S w) gv s z k := (show s_bst1 (s_bst (S w) gv s z k) k (s_cost (S w) gv s (nI k) z) = _ from by unfold s_bst1; rw [if_pos c37])
        refine X_loc (L' := [some (.ref 275), some (.int x), some (.int (b2 z)), some (.int (s_bst (S w) gv s z (k + 1)).1), some (.int (s_bst (S w) gv s z (k + 1)).2), some (.int (nI (k + 1))), none]) ⟨rfl, rfl, rfl, congrArg (fun q => Value.int q.1) e, congrArg (fun q => Value.int q.2) e, congrArg Value.int (m_inc rfl).symm, trivial⟩ ?_
        exact ih (k + 1) (by omega)
      · refine X_ld rfl rfl rfl rfl ?_
        refine X_ld rfl rfl rfl rfl ?_
        refine X_icmp_lt rfl (fun c44 => ?_) (fun c44 => ?_)
        · refine X_ld rfl rfl rfl rfl ?_
          refine X_st rfl rfl rfl ?_
          refine X_ld rfl rfl rfl rfl ?_
          refine X_st rfl rfl rfl ?_
          refine X_iinc rfl rfl rfl ?_
          refine X_goto rfl ?_
          have e : s_bst (S w) gv s z (k + 1) = (nI k, s_cost (S w) gv s (nI k) z) := (show s_bst1 (s_bst (S w) gv s z k) k (s_cost (S w) gv s (nI k) z) = _ from by unfold s_bst1; rw [if_neg c37, if_pos c44])
          refine X_loc (L' := [some (.ref 275), some (.int x), some (.int (b2 z)), some (.int (s_bst (S w) gv s z (k + 1)).1), some (.int (s_bst (S w) gv s z (k + 1)).2), some (.int (nI (k + 1))), none]) ⟨rfl, rfl, rfl, congrArg (fun q => Value.int q.1) e, congrArg (fun q => Value.int q.2) e, congrArg Value.int (m_inc rfl).symm, trivial⟩ ?_
          exact ih (k + 1) (by omega)
        · refine X_goto rfl ?_
          refine X_iinc rfl rfl rfl ?_
          refine X_goto rfl ?_
          have e : s_bst (S w) gv s z (k + 1) = s_bst (S w) gv s z k := (show s_bst1 (s_bst (S w) gv s z k) k (s_cost (S w) gv s (nI k) z) = _ from by unfold s_bst1; rw [if_neg c37, if_neg c44])
          refine X_loc (L' := [some (.ref 275), some (.int x), some (.int (b2 z)), some (.int (s_bst (S w) gv s z (k + 1)).1), some (.int (s_bst (S w) gv s z (k + 1)).2), some (.int (nI (k + 1))), none]) ⟨rfl, rfl, rfl, congrArg (fun q => Value.int q.1) e, congrArg (fun q => Value.int q.2) e, congrArg Value.int (m_inc rfl).symm, trivial⟩ ?_
          exact ih (k + 1) (by omega)
  refine X_push (v := .int (-1)) rfl (by decide +kernel) ?_
  refine X_st rfl rfl rfl ?_
  refine X_ld rfl rfl rfl rfl ?_
  refine X_ld rfl rfl rfl rfl ?_
  refine X_push (v := .int (-1)) rfl (by decide +kernel) ?_
  refine X_ld rfl rfl rfl rfl ?_
  refine X_mcall l_X11_X11_costOf (c_costOf hG d w hw hw9 s hs hko z hx (Or.inl rfl)) rfl rfl rfl rfl (Nat.le_of_ble_eq_true rfl) (Nat.le_of_ble_eq_true rfl) (Nat.le_refl _) (Nat.le_of_ble_eq_true rfl) (Nat.le_of_ble_eq_true rfl) ?_
  refine X_st rfl rfl rfl ?_
  refine X_push (v := .int 0) rfl (by decide +kernel) ?_
  refine X_st rfl rfl rfl ?_
  refine X_loc (L' := [some (.ref 275), some (.int x), some (.int (b2 z)), some (.int (s_bst (S w) gv s z 0).1), some (.int (s_bst (S w) gv s z 0).2), some (.int (nI 0)), none]) ⟨rfl, rfl, rfl, rfl, rfl, rfl, trivial⟩ ?_
  refine loop ?_ _ 0 (Nat.zero_add _)
  refine X_ld rfl rfl rfl rfl ?_
  exact X_iret rfl rfl ⟨rfl, rfl⟩ (Nat.le_of_ble_eq_true rfl) (Nat.le_of_ble_eq_true rfl)
def s_cmp (sg a b : Int32) : Bool := if sg = 60 then decide (a < b) else if sg = 61 then decide (a = b) else decide (b < a)
def s_rhs (c gv : Nat → Int32) (k l : Nat) : Int32 :=
  if s_cod c k 3 = 0 then s_cod c k 4 else if s_cod c k 3 = 1 then s_val c l (s_cod c k 4).toNatClampNeg else gv (s_cod c k 4).toNatClampNeg
/-- does comparison k hold in line l -/
def s_tru (c gv : Nat → Int32) (k l : Nat) : Bool := s_cmp (s_cod c k 2) (s_val c l (s_cod c k 1).toNatClampNeg) (s_rhs c gv k l)
/-- a comparison that can be asked -/
def s_tok (c : Nat → Int32) (k : Nat) : Prop :=
  (∃ j, j < 5 ∧ s_cod c k 1 = nI j) ∧ (s_cod c k 3 = 1 → ∃ j, j < 5 ∧ s_cod c k 4 = nI j) ∧ (¬ s_cod c k 3 = 0 → ¬ s_cod c k 3 = 1 → ∃ h, h < 4 ∧ s_cod c k 4 = nI h)
theorem c_isTrue {G : XE} (hG : x_Kn G) {B : XH} {I : Nat → Int32} {T : Int64} {S : Nat → Nat → Int32} {rd tx gv pl : Nat → Int32} (d : Nat) (w : Nat) (hw : I 3 = nI w) (hw9 : w < 9) (k l : Nat) (hk : k < 324) (hl : l < 41) (ht : s_tok (S w) k) {x y : Int32} (hx : x = nI k) (hy : y = nI l) : x_M G mX11_isTrue (d + 3) 0 0 [.ref 275, .int x, .int y] (mset B I T S rd tx gv pl) (x_Ret (mset B I T S rd tx gv pl) (.int (b2 (s_tru (S w) gv k l)))) x_noX := by
  refine X_M hG okX11_isTrue rfl (L := [some (.ref 275), some (.int x), some (.int y), none, none, none, none, none]) rfl (Nat.le_of_ble_eq_true rfl) (fun ad0 nb0 => ?_)
  obtain ⟨⟨j, hj, hof⟩, hk1, hk2⟩ := ht
  have ej : (s_cod (S w) k 1).toNatClampNeg = j := by rw [hof]; exact nI_clamp (by omega)
  have tail : ∀ b, b = s_rhs (S w) gv k l → x_W G mX11_isTrue (x_Z G (d + 3) 0 0 ad0 nb0 (x_Ret (mset B I T S rd tx gv pl) (.int (b2 (s_tru (S w) gv k l)))) x_noX) (mset B I T S rd tx gv pl) 0 0 67 [some (.ref 275), some (.int x), some (.int y), some (.int (S w (75 + 5 * l + j))), none, none, none, none] [.int b] := by
    intro b hb
    refine X_st rfl rfl rfl ?_
    refine X_ld rfl rfl rfl rfl ?_
    refine X_ld rfl rfl rfl rfl ?_
    refine X_push (v := .int 2) rfl (by decide +kernel) ?_
    refine X_mcall l_X11_X11_ofCode (c_ofCode hG (d + 1) w hw hw9 k 2 (by omega) hx (show (2 : Int32) = nI 2 from rfl)) rfl rfl rfl rfl (Nat.le_of_ble_eq_true rfl) (Nat.le_of_ble_eq_true rfl) (Nat.le_refl _) (Nat.le_of_ble_eq_true rfl) (Nat.le_of_ble_eq_true rfl) ?_
    refine X_st rfl rfl rfl ?_
    refine X_ld rfl rfl rfl rfl ?_
    refine X_push (v := .int 60) rfl (by decide +kernel) ?_
    refine X_icmp_ne rfl (fun c81 => ?_) (fun c81 => ?_)
    · refine X_ld rfl rfl rfl rfl ?_
      refine X_push (v := .int 61) rfl (by decide +kernel) ?_
      refine X_icmp_ne rfl (fun c102 => ?_) (fun c102 => ?_)
      · refine X_ld rfl rfl rfl rfl ?_
        refine X_ld rfl rfl rfl rfl ?_
        refine X_icmp_le rfl (fun c122 => ?_) (fun c122 => ?_)
        · refine X_push (v := .int 0) rfl (by decide +kernel) ?_
          exact X_zret rfl rfl rfl ⟨rfl, by unfold s_tru s_cmp; rw [ej, ← hb, if_neg c81, if_neg c102, decide_eq_false (Int32.not_lt.mpr c122)]; rfl⟩ (Nat.le_of_ble_eq_true rfl) (Nat.le_of_ble_eq_true rfl)
        · refine X_push (v := .int 1) rfl (by decide +kernel) ?_
          refine X_goto rfl ?_
          exact X_zret rfl rfl rfl ⟨rfl, by unfold s_tru s_cmp; rw [ej, ← hb, if_neg c81, if_neg c102, decide_eq_true (Int32.not_le.mp c122)]; rfl⟩ (Nat.le_of_ble_eq_true rfl) (Nat.le_of_ble_eq_true rfl)
      · refine X_ld rfl rfl rfl rfl ?_
        refine X_ld rfl rfl rfl rfl ?_
        refine X_icmp_ne rfl (fun c108 => ?_) (fun c108 => ?_)
        · refine X_push (v := .int 0) rfl (by decide +kernel) ?_
          refine X_goto rfl ?_
          exact X_zret rfl rfl rfl ⟨rfl, by unfold s_tru s_cmp; rw [ej, ← hb, if_neg c81, if_pos c102, decide_eq_false c108]; rfl⟩ (Nat.le_of_ble_eq_true rfl) (Nat.le_of_ble_eq_true rfl)
        · refine X_push (v := .int 1) rfl (by decide +kernel) ?_
          refine X_goto rfl ?_
          exact X_zret rfl rfl rfl ⟨rfl, by unfold s_tru s_cmp; rw [ej, ← hb, if_neg c81, if_pos c102, decide_eq_true c108]; rfl⟩ (Nat.le_of_ble_eq_true rfl) (Nat.le_of_ble_eq_true rfl)
    · refine X_ld rfl rfl rfl rfl ?_
      refine X_ld rfl rfl rfl rfl ?_
      refine X_icmp_ge rfl (fun c87 => ?_) (fun c87 => ?_)
      · refine X_push (v := .int 0) rfl (by decide +kernel) ?_
        refine X_goto rfl ?_
        exact X_zret rfl rfl rfl ⟨rfl, by unfold s_tru s_cmp; rw [ej, ← hb, if_pos c81, decide_eq_false (Int32.not_lt.mpr c87)]; rfl⟩ (Nat.le_of_ble_eq_true rfl) (Nat.le_of_ble_eq_true rfl)
      · refine X_push (v := .int 1) rfl (by decide +kernel) ?_
        refine X_goto rfl ?_
        exact X_zret rfl rfl rfl ⟨rfl, by unfold s_tru s_cmp; rw [ej, ← hb, if_pos c81, decide_eq_true (Int32.not_le.mp c87)]; rfl⟩ (Nat.le_of_ble_eq_true rfl) (Nat.le_of_ble_eq_true rfl)
  refine X_ld rfl rfl rfl rfl ?_
  refine X_ld rfl rfl rfl rfl ?_
  refine X_ld rfl rfl rfl rfl ?_
  refine X_ld rfl rfl rfl rfl ?_
  refine X_push (v := .int 1) rfl (by decide +kernel) ?_
  refine X_mcall l_X11_X11_ofCode (c_ofCode hG (d + 1) w hw hw9 k 1 (by omega) hx (show (1 : Int32) = nI 1 from rfl)) rfl rfl rfl rfl (Nat.le_of_ble_eq_true rfl) (Nat.le_of_ble_eq_true rfl) (Nat.le_refl _) (Nat.le_of_ble_eq_true rfl) (Nat.le_of_ble_eq_true rfl) ?_
  refine X_scall l_X11_X11_valueAt (c_valueAt hG (d + 2) ) rfl rfl rfl (Nat.le_of_ble_eq_true rfl) (Nat.le_of_ble_eq_true rfl) (Nat.le_refl _) (Nat.le_of_ble_eq_true rfl) (Nat.le_of_ble_eq_true rfl) ?_
  refine X_mcall l_X11_X11_get (c_get hG (d + 2) w hw hw9 (75 + 5 * l + j) (by omega) (m_valueAt hy hof)) rfl rfl rfl rfl (Nat.le_of_ble_eq_true rfl) (Nat.le_of_ble_eq_true rfl) (Nat.le_refl _) (Nat.le_of_ble_eq_true rfl) (Nat.le_of_ble_eq_true rfl) ?_
  refine X_st rfl rfl rfl ?_
  refine X_ld rfl rfl rfl rfl ?_
  refine X_ld rfl rfl rfl rfl ?_
  refine X_push (v := .int 3) rfl (by decide +kernel) ?_
  refine X_mcall l_X11_X11_ofCode (c_ofCode hG (d + 1) w hw hw9 k 3 (by omega) hx (show (3 : Int32) = nI 3 from rfl)) rfl rfl rfl rfl (Nat.le_of_ble_eq_true rfl) (Nat.le_of_ble_eq_true rfl) (Nat.le_refl _) (Nat.le_of_ble_eq_true rfl) (Nat.le_of_ble_eq_true rfl) ?_
  refine X_st rfl rfl rfl ?_
  refine X_ld rfl rfl rfl rfl ?_
  refine X_ld rfl rfl rfl rfl ?_
  refine X_push (v := .int 4) rfl (by decide +kernel) ?_
  refine X_mcall l_X11_X11_ofCode (c_ofCode hG (d + 1) w hw hw9 k 4 (by omega) hx (show (4 : Int32) = nI 4 from rfl)) rfl rfl rfl rfl (Nat.le_of_ble_eq_true rfl) (Nat.le_of_ble_eq_true rfl) (Nat.le_refl _) (Nat.le_of_ble_eq_true rfl) (Nat.le_of_ble_eq_true rfl) ?_
  refine X_st rfl rfl rfl ?_
  refine X_ld rfl rfl rfl rfl ?_
  refine X_if_ne rfl (fun c33 => ?_) (fun c33 => ?_)
  · refine X_ld rfl rfl rfl rfl ?_
    refine X_push (v := .int 1) rfl (by decide +kernel) ?_
    refine X_icmp_ne rfl (fun c44 => ?_) (fun c44 => ?_)
    · obtain ⟨h, hh1, hh2⟩ := hk2 c33 c44
      refine X_ld rfl rfl rfl rfl ?_
      refine X_get f_X11_23 rfl rfl rfl ?_
      refine X_ld rfl rfl rfl rfl ?_
      refine X_ildn (n := 4) h hh2 (by omega) (by omega) rfl rfl ?_
      refine X_loc (L' := [some (.ref 275), some (.int x), some (.int y), some (.int (S w (75 + 5 * l + j))), none, none, none, none]) ⟨rfl, rfl, rfl, rfl, trivial⟩ ?_
      exact tail _ (by unfold s_rhs; rw [if_neg c33, if_neg c44, show (s_cod (S w) k 4).toNatClampNeg = h by rw [hh2]; exact nI_clamp (by omega)])
    · obtain ⟨j2, hj1, hj2⟩ := hk1 c44
      refine X_ld rfl rfl rfl rfl ?_
      refine X_ld rfl rfl rfl rfl ?_
      refine X_ld rfl rfl rfl rfl ?_
      refine X_scall l_X11_X11_valueAt (c_valueAt hG (d + 2) ) rfl rfl rfl (Nat.le_of_ble_eq_true rfl) (Nat.le_of_ble_eq_true rfl) (Nat.le_refl _) (Nat.le_of_ble_eq_true rfl) (Nat.le_of_ble_eq_true rfl) ?_
      refine X_mcall l_X11_X11_get (c_get hG (d + 2) w hw hw9 (75 + 5 * l + j2) (by omega) (m_valueAt hy hj2)) rfl rfl rfl rfl (Nat.le_of_ble_eq_true rfl) (Nat.le_of_ble_eq_true rfl) (Nat.le_refl _) (Nat.le_of_ble_eq_true rfl) (Nat.le_of_ble_eq_true rfl) ?_
      refine X_goto rfl ?_
      refine X_loc (L' := [some (.ref 275), some (.int x), some (.int y), some (.int (S w (75 + 5 * l + j))), none, none, none, none]) ⟨rfl, rfl, rfl, rfl, trivial⟩ ?_
      exact tail _ (by unfold s_rhs; rw [if_neg c33, if_pos c44, show (s_cod (S w) k 4).toNatClampNeg = j2 by rw [hj2]; exact nI_clamp (by omega)])
  · refine X_ld rfl rfl rfl rfl ?_
    refine X_goto rfl ?_
    refine X_loc (L' := [some (.ref 275), some (.int x), some (.int y), some (.int (S w (75 + 5 * l + j))), none, none, none, none]) ⟨rfl, rfl, rfl, rfl, trivial⟩ ?_
    exact tail _ (by unfold s_rhs; rw [if_pos c33])
def s_hg1 (op : Int32) (h : Nat) : Nat := if op = 0 then h + 1 else if op = 3 then h else h - 1
/-- how many truths lie on the pile after n codes -/
def s_hg (c : Nat → Int32) (f : Nat) : Nat → Nat
  | 0 => 0
  | n + 1 => s_hg1 (s_cod c (f + n) 0) (s_hg c f n)
def s_px1 (op : Int32) (h : Nat) (t : Bool) (P : Nat → Bool) : Nat → Bool :=
  if op = 0 then s_upb P h t else if op = 3 then s_upb P (h - 1) (!P (h - 1)) else s_upb P (h - 1 - 1) (if op = 1 then P (h - 1 - 1) && P (h - 1) else P (h - 1 - 1) || P (h - 1))
/-- the pile after n codes -/
def s_px (c gv : Nat → Int32) (l f : Nat) (P : Nat → Bool) : Nat → Nat → Bool
  | 0 => P
  | n + 1 => s_px1 (s_cod c (f + n) 0) (s_hg c f n) (s_tru c gv (f + n) l) (s_px c gv l f P n)
/-- the codes from f, n of them, can be reckoned -/
def s_pok (c : Nat → Int32) (f n : Nat) : Prop :=
  ∀ k, k < n → (s_cod c (f + k) 0 = 0 ∧ s_tok c (f + k)) ∨ (s_cod c (f + k) 0 = 3 ∧ 1 ≤ s_hg c f k) ∨ (¬ s_cod c (f + k) 0 = 0 ∧ ¬ s_cod c (f + k) 0 = 3 ∧ 2 ≤ s_hg c f k)
theorem s_hg_le {c : Nat → Int32} {f : Nat} : ∀ n, s_hg c f n ≤ n
  | 0 => Nat.le_refl _
  | n + 1 => by
    have h := s_hg_le (c := c) (f := f) n
    show s_hg1 _ _ ≤ n + 1
    unfold s_hg1
    repeat' split
    all_goals omega
theorem s_pok_tok {c : Nat → Int32} {f n k : Nat} (h : s_pok c f n) (hk : k < n) (h0 : s_cod c (f + k) 0 = 0) : s_tok c (f + k) := by
  rcases h k hk with h | h | h
  · exact h.2
  · exact absurd (h0.symm.trans h.1) (by decide)
  · exact absurd h0 h.1
theorem s_pok_1 {c : Nat → Int32} {f n k : Nat} (h : s_pok c f n) (hk : k < n) (h0 : ¬ s_cod c (f + k) 0 = 0) : 1 ≤ s_hg c f k := by
  rcases h k hk with h | h | h
  · exact absurd h.1 h0
  · exact h.2
  · omega
theorem s_pok_2 {c : Nat → Int32} {f n k : Nat} (h : s_pok c f n) (hk : k < n) (h0 : ¬ s_cod c (f + k) 0 = 0) (h3 : ¬ s_cod c (f + k) 0 = 3) : 2 ≤ s_hg c f k := by
  rcases h k hk with h | h | h
  · exact absurd h.1 h0
  · exact absurd h.1 h3
  · exact h.2.2
/-- what lies on the pile does not hang on what lay there before -/
theorem s_px_any {c gv : Nat → Int32} {l f n : Nat} {P Q : Nat → Bool} (h : s_pok c f n) : ∀ k, k ≤ n → ∀ i, i < s_hg c f k → s_px c gv l f P k i = s_px c gv l f Q k i
  | 0, _, i, hi => absurd hi (Nat.not_lt_zero _)
  | k + 1, hk, i, hi => by
    have ih := s_px_any (gv := gv) (l := l) (P := P) (Q := Q) h k (by omega)
    change i < s_hg1 _ _ at hi
    show s_px1 _ _ _ _ i = s_px1 _ _ _ _ i
    unfold s_px1
    unfold s_hg1 at hi
    by_cases h0 : s_cod c (f + k) 0 = 0
    · rw [if_pos h0, if_pos h0]
      rw [if_pos h0] at hi
      unfold s_upb
      by_cases e : i = s_hg c f k
      · rw [if_pos e, if_pos e]
      · rw [if_neg e, if_neg e]; exact ih i (by omega)
    · rw [if_neg h0, if_neg h0]
      rw [if_neg h0] at hi
      by_cases h3 : s_cod c (f + k) 0 = 3
      · rw [if_pos h3, if_pos h3]
        rw [if_pos h3] at hi
        have hh := s_pok_1 h (by omega) h0
        unfold s_upb
        by_cases e : i = s_hg c f k - 1
        · rw [if_pos e, if_pos e, ih _ (by omega)]
        · rw [if_neg e, if_neg e]; exact ih i hi
      · rw [if_neg h3, if_neg h3]
        rw [if_neg h3] at hi
        have hh := s_pok_2 h (by omega) h0 h3
        unfold s_upb
        by_cases e : i = s_hg c f k - 1 - 1
        · rw [if_pos e, if_pos e, ih _ (by omega), ih _ (by omega)]
        · rw [if_neg e, if_neg e]; exact ih i (by omega)
/-- is the statement's condition true of line l -/
def s_find (c gv : Nat → Int32) (s l : Nat) : Bool := s_px c gv l (s_from c s) (fun _ => false) (s_to c s - s_from c s) 0
/-- a statement whose condition can be asked -/
def s_fok (c : Nat → Int32) (s : Nat) : Prop := s_pok c (s_from c s) (s_to c s - s_from c s) ∧ s_hg c (s_from c s) (s_to c s - s_from c s) = 1
theorem s_find_any {c gv : Nat → Int32} {s l : Nat} {P : Nat → Bool} (h : s_fok c s) : s_px c gv l (s_from c s) P (s_to c s - s_from c s) 0 = s_find c gv s l :=
  s_px_any h.1 _ (Nat.le_refl _) 0 (by rw [h.2]; decide)
theorem c_finds {G : XE} (hG : x_Kn G) {B : XH} {I : Nat → Int32} {T : Int64} {S : Nat → Nat → Int32} {rd tx gv : Nat → Int32} {P : Nat → Bool} (d : Nat) (w : Nat) (hw : I 3 = nI w) (hw9 : w < 9) (s l : Nat) (hs : s < 6) (hl : l < 41) (hko : s_kok (S w) s) (hfo : s_fok (S w) s) {x y : Int32} (hx : x = nI s) (hy : y = nI l) : x_M G mX11_finds (d + 4) 0 0 [.ref 275, .int x, .int y] (mset B I T S rd tx gv (fun i => b2 (P i))) (x_Ret (mset B I T S rd tx gv (fun i => b2 (s_px (S w) gv l (s_from (S w) s) P (s_to (S w) s - s_from (S w) s) i))) (.int (b2 (s_find (S w) gv s l)))) x_noX := by
  refine X_M hG okX11_finds rfl (L := [some (.ref 275), some (.int x), some (.int y), none, none, none]) rfl (Nat.le_of_ble_eq_true rfl) (fun ad0 nb0 => ?_)
  obtain ⟨h1, h2, h3, h4⟩ := s_kok_ft hko
  have loop : x_W G mX11_finds (x_Z G (d + 4) 0 0 ad0 nb0 (x_Ret (mset B I T S rd tx gv (fun i => b2 (s_px (S w) gv l (s_from (S w) s) P (s_to (S w) s - s_from (S w) s) i))) (.int (b2 (s_find (S w) gv s l)))) x_noX) (mset B I T S rd tx gv (fun i => b2 (s_px (S w) gv l (s_from (S w) s) P (s_to (S w) s - s_from (S w) s) i))) 0 0 165 [some (.ref 275), some (.int x), some (.int y), some (.int (nI (s_hg (S w) (s_from (S w) s) (s_to (S w) s - s_from (S w) s)))), some (.int (nI (s_from (S w) s + (s_to (S w) s - s_from (S w) s)))), none] [] → ∀ (f9 k : Nat), k + f9 = (s_to (S w) s - s_from (S w) s) → x_W G mX11_finds (x_Z G (d + 4) 0 0 ad0 nb0 (x_Ret (mset B I T S rd tx gv (fun i => b2 (s_px (S w) gv l (s_from (S w) s) P (s_to (S w) s - s_from (S w) s) i))) (.int (b2 (s_find (S w) gv s l)))) x_noX) (mset B I T S rd tx gv (fun i => b2 (s_px (S w) gv l (s_from (S w) s) P k i))) 0 0 11 [some (.ref 275), some (.int x), some (.int y), some (.int (nI (s_hg (S w) (s_from (S w) s) k))), some (.int (nI (s_from (S w) s + k))), none] [] := by
    intro K f9
    induction f9 with
    | zero =>
      intro k e0 
      obtain rfl : k = (s_to (S w) s - s_from (S w) s) := by omega
      refine X_ld rfl rfl rfl rfl ?_
      refine X_ld rfl rfl rfl rfl ?_
      refine X_ld rfl rfl rfl rfl ?_
      refine X_push (v := .int 27) rfl (by decide +kernel) ?_
      refine X_mcall l_X11_X11_ofStatement (c_ofStatement hG (d + 2) w hw hw9 s 27 (by omega) hx (show (27 : Int32) = nI 27 from rfl)) rfl rfl rfl rfl (Nat.le_of_ble_eq_true rfl) (Nat.le_of_ble_eq_true rfl) (Nat.le_refl _) (Nat.le_of_ble_eq_true rfl) (Nat.le_of_ble_eq_true rfl) ?_
      refine X_icmp_ge rfl (fun c20 => ?_) (fun c20 => absurd ((n_le h4 rfl (by omega) (by omega)).mpr (by omega)) c20)
      exact K
    | succ f9 ih =>
      intro k e0 
      have hgl := s_hg_le (c := S w) (f := s_from (S w) s) k
      refine X_ld rfl rfl rfl rfl ?_
      refine X_ld rfl rfl rfl rfl ?_
      refine X_ld rfl rfl rfl rfl ?_
      refine X_push (v := .int 27) rfl (by decide +kernel) ?_
      refine X_mcall l_X11_X11_ofStatement (c_ofStatement hG (d + 2) w hw hw9 s 27 (by omega) hx (show (27 : Int32) = nI 27 from rfl)) rfl rfl rfl rfl (Nat.le_of_ble_eq_true rfl) (Nat.le_of_ble_eq_true rfl) (Nat.le_refl _) (Nat.le_of_ble_eq_true rfl) (Nat.le_of_ble_eq_true rfl) ?_
      refine X_icmp_ge rfl (fun c20 => absurd ((n_le h4 rfl (by omega) (by omega)).mp c20) (by omega)) (fun c20 => ?_)
      refine X_ld rfl rfl rfl rfl ?_
      refine X_ld rfl rfl rfl rfl ?_
      refine X_push (v := .int 0) rfl (by decide +kernel) ?_
      refine X_mcall l_X11_X11_ofCode (c_ofCode hG (d + 2) w hw hw9 (s_from (S w) s + k) 0 (by omega) rfl (show (0 : Int32) = nI 0 from rfl)) rfl rfl rfl rfl (Nat.le_of_ble_eq_true rfl) (Nat.le_of_ble_eq_true rfl) (Nat.le_refl _) (Nat.le_of_ble_eq_true rfl) (Nat.le_of_ble_eq_true rfl) ?_
      refine X_st rfl rfl rfl ?_
      refine X_ld rfl rfl rfl rfl ?_
      refine X_if_ne rfl (fun c34 => ?_) (fun c34 => ?_)
      · refine X_ld rfl rfl rfl rfl ?_
        refine X_push (v := .int 3) rfl (by decide +kernel) ?_
        refine X_icmp_ne rfl (fun c59 => ?_) (fun c59 => ?_)
        · have hg2 := s_pok_2 hfo.1 (show k < (s_to (S w) s - s_from (S w) s) by omega) c34 c59
          refine X_iinc rfl rfl rfl ?_
          refine X_ld rfl rfl rfl rfl ?_
          refine X_get f_X11_26 rfl rfl rfl ?_
          refine X_ld rfl rfl rfl rfl ?_
          refine X_push (v := .int 1) rfl (by decide +kernel) ?_
          refine X_bin rfl rfl ?_
          refine X_ld rfl rfl rfl rfl ?_
          refine X_push (v := .int 1) rfl (by decide +kernel) ?_
          refine X_icmp_ne rfl (fun c102 => ?_) (fun c102 => ?_)
          · refine X_ld rfl rfl rfl rfl ?_
            refine X_get f_X11_26 rfl rfl rfl ?_
            refine X_ld rfl rfl rfl rfl ?_
            refine X_push (v := .int 1) rfl (by decide +kernel) ?_
            refine X_bin rfl rfl ?_
            refine X_zaldn (n := 400) (((s_hg (S w) (s_from (S w) s) k) - 1) - 1) (m_subc (b := 1) (by omega) (m_dec (by omega) rfl)) (by omega) (by omega) rfl rfl ?_
            refine X_if_ne rfl (fun c141 => ?_) (fun c141 => ?_)
            · have h141 : (s_px (S w) gv l (s_from (S w) s) P k (((s_hg (S w) (s_from (S w) s) k) - 1) - 1)) = true := b2_1 c141
              refine X_push (v := .int 1) rfl (by decide +kernel) ?_
              refine X_goto rfl ?_
              refine X_mPb (((s_hg (S w) (s_from (S w) s) k) - 1) - 1) true (m_subc (b := 1) (by omega) (m_dec (by omega) rfl)) (by omega) rfl ?_
              refine X_iinc rfl rfl rfl ?_
              refine X_goto rfl ?_
              have e1 : s_px (S w) gv l (s_from (S w) s) P (k + 1) = s_upb (s_px (S w) gv l (s_from (S w) s) P k) (s_hg (S w) (s_from (S w) s) k - 1 - 1) true := (show s_px1 (s_cod (S w) (s_from (S w) s + k) 0) (s_hg (S w) (s_from (S w) s) k) (s_tru (S w) gv (s_from (S w) s + k) l) (s_px (S w) gv l (s_from (S w) s) P k) = _ from by unfold s_px1; rw [if_neg c34, if_neg c59, if_neg c102, h141] <;> rfl)
              have e2 : s_hg (S w) (s_from (S w) s) (k + 1) = (s_hg (S w) (s_from (S w) s) k - 1) := (show s_hg1 (s_cod (S w) (s_from (S w) s + k) 0) (s_hg (S w) (s_from (S w) s) k) = _ from by unfold s_hg1; rw [if_neg c34, if_neg c59])
              refine X_heap (N' := mset B I T S rd tx gv (fun i => b2 (s_px (S w) gv l (s_from (S w) s) P (k + 1) i))) (by rw [e1]) ?_
              refine X_loc (L' := [some (.ref 275), some (.int x), some (.int y), some (.int (nI (s_hg (S w) (s_from (S w) s) (k + 1)))), some (.int (nI (s_from (S w) s + (k + 1)))), none]) ⟨rfl, rfl, rfl, (congrArg (fun q => Value.int (nI q)) e2).trans (congrArg Value.int (m_dec (by omega) rfl).symm), congrArg Value.int (m_inc rfl).symm, trivial⟩ ?_
              exact ih (k + 1) (by omega)
            · have h141 : (s_px (S w) gv l (s_from (S w) s) P k (((s_hg (S w) (s_from (S w) s) k) - 1) - 1)) = false := b2_0 c141
              refine X_ld rfl rfl rfl rfl ?_
              refine X_get f_X11_26 rfl rfl rfl ?_
              refine X_ld rfl rfl rfl rfl ?_
              refine X_zaldn (n := 400) ((s_hg (S w) (s_from (S w) s) k) - 1) (m_dec (by omega) rfl) (by omega) (by omega) rfl rfl ?_
              refine X_if_eq rfl (fun c150 => ?_) (fun c150 => ?_)
              · have h150 : (s_px (S w) gv l (s_from (S w) s) P k ((s_hg (S w) (s_from (S w) s) k) - 1)) = false := b2_0 c150
                refine X_push (v := .int 0) rfl (by decide +kernel) ?_
                refine X_mPb (((s_hg (S w) (s_from (S w) s) k) - 1) - 1) false (m_subc (b := 1) (by omega) (m_dec (by omega) rfl)) (by omega) rfl ?_
                refine X_iinc rfl rfl rfl ?_
                refine X_goto rfl ?_
                have e1 : s_px (S w) gv l (s_from (S w) s) P (k + 1) = s_upb (s_px (S w) gv l (s_from (S w) s) P k) (s_hg (S w) (s_from (S w) s) k - 1 - 1) false := (show s_px1 (s_cod (S w) (s_from (S w) s + k) 0) (s_hg (S w) (s_from (S w) s) k) (s_tru (S w) gv (s_from (S w) s + k) l) (s_px (S w) gv l (s_from (S w) s) P k) = _ from by unfold s_px1; rw [if_neg c34, if_neg c59, if_neg c102, h141, h150] <;> rfl)
                have e2 : s_hg (S w) (s_from (S w) s) (k + 1) = (s_hg (S w) (s_from (S w) s) k - 1) := (show s_hg1 (s_cod (S w) (s_from (S w) s + k) 0) (s_hg (S w) (s_from (S w) s) k) = _ from by unfold s_hg1; rw [if_neg c34, if_neg c59])
                refine X_heap (N' := mset B I T S rd tx gv (fun i => b2 (s_px (S w) gv l (s_from (S w) s) P (k + 1) i))) (by rw [e1]) ?_
                refine X_loc (L' := [some (.ref 275), some (.int x), some (.int y), some (.int (nI (s_hg (S w) (s_from (S w) s) (k + 1)))), some (.int (nI (s_from (S w) s + (k + 1)))), none]) ⟨rfl, rfl, rfl, (congrArg (fun q => Value.int (nI q)) e2).trans (congrArg Value.int (m_dec (by omega) rfl).symm), congrArg Value.int (m_inc rfl).symm, trivial⟩ ?_
                exact ih (k + 1) (by omega)
              · have h150 : (s_px (S w) gv l (s_from (S w) s) P k ((s_hg (S w) (s_from (S w) s) k) - 1)) = true := b2_1 c150
                refine X_push (v := .int 1) rfl (by decide +kernel) ?_
                refine X_goto rfl ?_
                refine X_mPb (((s_hg (S w) (s_from (S w) s) k) - 1) - 1) true (m_subc (b := 1) (by omega) (m_dec (by omega) rfl)) (by omega) rfl ?_
                refine X_iinc rfl rfl rfl ?_
                refine X_goto rfl ?_
                have e1 : s_px (S w) gv l (s_from (S w) s) P (k + 1) = s_upb (s_px (S w) gv l (s_from (S w) s) P k) (s_hg (S w) (s_from (S w) s) k - 1 - 1) true := (show s_px1 (s_cod (S w) (s_from (S w) s + k) 0) (s_hg (S w) (s_from (S w) s) k) (s_tru (S w) gv (s_from (S w) s + k) l) (s_px (S w) gv l (s_from (S w) s) P k) = _ from by unfold s_px1; rw [if_neg c34, if_neg c59, if_neg c102, h141, h150] <;> rfl)
                have e2 : s_hg (S w) (s_from (S w) s) (k + 1) = (s_hg (S w) (s_from (S w) s) k - 1) := (show s_hg1 (s_cod (S w) (s_from (S w) s + k) 0) (s_hg (S w) (s_from (S w) s) k) = _ from by unfold s_hg1; rw [if_neg c34, if_neg c59])
                refine X_heap (N' := mset B I T S rd tx gv (fun i => b2 (s_px (S w) gv l (s_from (S w) s) P (k + 1) i))) (by rw [e1]) ?_
                refine X_loc (L' := [some (.ref 275), some (.int x), some (.int y), some (.int (nI (s_hg (S w) (s_from (S w) s) (k + 1)))), some (.int (nI (s_from (S w) s + (k + 1)))), none]) ⟨rfl, rfl, rfl, (congrArg (fun q => Value.int (nI q)) e2).trans (congrArg Value.int (m_dec (by omega) rfl).symm), congrArg Value.int (m_inc rfl).symm, trivial⟩ ?_
                exact ih (k + 1) (by omega)
          · refine X_ld rfl rfl rfl rfl ?_
            refine X_get f_X11_26 rfl rfl rfl ?_
            refine X_ld rfl rfl rfl rfl ?_
            refine X_push (v := .int 1) rfl (by decide +kernel) ?_
            refine X_bin rfl rfl ?_
            refine X_zaldn (n := 400) (((s_hg (S w) (s_from (S w) s) k) - 1) - 1) (m_subc (b := 1) (by omega) (m_dec (by omega) rfl)) (by omega) (by omega) rfl rfl ?_
            refine X_if_eq rfl (fun c113 => ?_) (fun c113 => ?_)
            · have h113 : (s_px (S w) gv l (s_from (S w) s) P k (((s_hg (S w) (s_from (S w) s) k) - 1) - 1)) = false := b2_0 c113
              refine X_push (v := .int 0) rfl (by decide +kernel) ?_
              refine X_goto rfl ?_
              refine X_mPb (((s_hg (S w) (s_from (S w) s) k) - 1) - 1) false (m_subc (b := 1) (by omega) (m_dec (by omega) rfl)) (by omega) rfl ?_
              refine X_iinc rfl rfl rfl ?_
              refine X_goto rfl ?_
              have e1 : s_px (S w) gv l (s_from (S w) s) P (k + 1) = s_upb (s_px (S w) gv l (s_from (S w) s) P k) (s_hg (S w) (s_from (S w) s) k - 1 - 1) false := (show s_px1 (s_cod (S w) (s_from (S w) s + k) 0) (s_hg (S w) (s_from (S w) s) k) (s_tru (S w) gv (s_from (S w) s + k) l) (s_px (S w) gv l (s_from (S w) s) P k) = _ from by unfold s_px1; rw [if_neg c34, if_neg c59, if_pos c102, h113] <;> rfl)
              have e2 : s_hg (S w) (s_from (S w) s) (k + 1) = (s_hg (S w) (s_from (S w) s) k - 1) := (show s_hg1 (s_cod (S w) (s_from (S w) s + k) 0) (s_hg (S w) (s_from (S w) s) k) = _ from by unfold s_hg1; rw [if_neg c34, if_neg c59])
              refine X_heap (N' := mset B I T S rd tx gv (fun i => b2 (s_px (S w) gv l (s_from (S w) s) P (k + 1) i))) (by rw [e1]) ?_
              refine X_loc (L' := [some (.ref 275), some (.int x), some (.int y), some (.int (nI (s_hg (S w) (s_from (S w) s) (k + 1)))), some (.int (nI (s_from (S w) s + (k + 1)))), none]) ⟨rfl, rfl, rfl, (congrArg (fun q => Value.int (nI q)) e2).trans (congrArg Value.int (m_dec (by omega) rfl).symm), congrArg Value.int (m_inc rfl).symm, trivial⟩ ?_
              exact ih (k + 1) (by omega)
            · have h113 : (s_px (S w) gv l (s_from (S w) s) P k (((s_hg (S w) (s_from (S w) s) k) - 1) - 1)) = true := b2_1 c113
              refine X_ld rfl rfl rfl rfl ?_
              refine X_get f_X11_26 rfl rfl rfl ?_
              refine X_ld rfl rfl rfl rfl ?_
              refine X_zaldn (n := 400) ((s_hg (S w) (s_from (S w) s) k) - 1) (m_dec (by omega) rfl) (by omega) (by omega) rfl rfl ?_
              refine X_if_eq rfl (fun c122 => ?_) (fun c122 => ?_)
              · have h122 : (s_px (S w) gv l (s_from (S w) s) P k ((s_hg (S w) (s_from (S w) s) k) - 1)) = false := b2_0 c122
                refine X_push (v := .int 0) rfl (by decide +kernel) ?_
                refine X_goto rfl ?_
                refine X_mPb (((s_hg (S w) (s_from (S w) s) k) - 1) - 1) false (m_subc (b := 1) (by omega) (m_dec (by omega) rfl)) (by omega) rfl ?_
                refine X_iinc rfl rfl rfl ?_
                refine X_goto rfl ?_
                have e1 : s_px (S w) gv l (s_from (S w) s) P (k + 1) = s_upb (s_px (S w) gv l (s_from (S w) s) P k) (s_hg (S w) (s_from (S w) s) k - 1 - 1) false := (show s_px1 (s_cod (S w) (s_from (S w) s + k) 0) (s_hg (S w) (s_from (S w) s) k) (s_tru (S w) gv (s_from (S w) s + k) l) (s_px (S w) gv l (s_from (S w) s) P k) = _ from by unfold s_px1; rw [if_neg c34, if_neg c59, if_pos c102, h113, h122] <;> rfl)
                have e2 : s_hg (S w) (s_from (S w) s) (k + 1) = (s_hg (S w) (s_from (S w) s) k - 1) := (show s_hg1 (s_cod (S w) (s_from (S w) s + k) 0) (s_hg (S w) (s_from (S w) s) k) = _ from by unfold s_hg1; rw [if_neg c34, if_neg c59])
                refine X_heap (N' := mset B I T S rd tx gv (fun i => b2 (s_px (S w) gv l (s_from (S w) s) P (k + 1) i))) (by rw [e1]) ?_
                refine X_loc (L' := [some (.ref 275), some (.int x), some (.int y), some (.int (nI (s_hg (S w) (s_from (S w) s) (k + 1)))), some (.int (nI (s_from (S w) s + (k + 1)))), none]) ⟨rfl, rfl, rfl, (congrArg (fun q => Value.int (nI q)) e2).trans (congrArg Value.int (m_dec (by omega) rfl).symm), congrArg Value.int (m_inc rfl).symm, trivial⟩ ?_
                exact ih (k + 1) (by omega)
              · have h122 : (s_px (S w) gv l (s_from (S w) s) P k ((s_hg (S w) (s_from (S w) s) k) - 1)) = true := b2_1 c122
                refine X_push (v := .int 1) rfl (by decide +kernel) ?_
                refine X_goto rfl ?_
                refine X_mPb (((s_hg (S w) (s_from (S w) s) k) - 1) - 1) true (m_subc (b := 1) (by omega) (m_dec (by omega) rfl)) (by omega) rfl ?_
                refine X_iinc rfl rfl rfl ?_
                refine X_goto rfl ?_
                have e1 : s_px (S w) gv l (s_from (S w) s) P (k + 1) = s_upb (s_px (S w) gv l (s_from (S w) s) P k) (s_hg (S w) (s_from (S w) s) k - 1 - 1) true := (show s_px1 (s_cod (S w) (s_from (S w) s + k) 0) (s_hg (S w) (s_from (S w) s) k) (s_tru (S w) gv (s_from (S w) s + k) l) (s_px (S w) gv l (s_from (S w) s) P k) = _ from by unfold s_px1; rw [if_neg c34, if_neg c59, if_pos c102, h113, h122] <;> rfl)
                have e2 : s_hg (S w) (s_from (S w) s) (k + 1) = (s_hg (S w) (s_from (S w) s) k - 1) := (show s_hg1 (s_cod (S w) (s_from (S w) s + k) 0) (s_hg (S w) (s_from (S w) s) k) = _ from by unfold s_hg1; rw [if_neg c34, if_neg c59])
                refine X_heap (N' := mset B I T S rd tx gv (fun i => b2 (s_px (S w) gv l (s_from (S w) s) P (k + 1) i))) (by rw [e1]) ?_
                refine X_loc (L' := [some (.ref 275), some (.int x), some (.int y), some (.int (nI (s_hg (S w) (s_from (S w) s) (k + 1)))), some (.int (nI (s_from (S w) s + (k + 1)))), none]) ⟨rfl, rfl, rfl, (congrArg (fun q => Value.int (nI q)) e2).trans (congrArg Value.int (m_dec (by omega) rfl).symm), congrArg Value.int (m_inc rfl).symm, trivial⟩ ?_
                exact ih (k + 1) (by omega)
        · have hg1 := s_pok_1 hfo.1 (show k < (s_to (S w) s - s_from (S w) s) by omega) c34
          refine X_ld rfl rfl rfl rfl ?_
          refine X_get f_X11_26 rfl rfl rfl ?_
          refine X_ld rfl rfl rfl rfl ?_
          refine X_push (v := .int 1) rfl (by decide +kernel) ?_
          refine X_bin rfl rfl ?_
          refine X_ld rfl rfl rfl rfl ?_
          refine X_get f_X11_26 rfl rfl rfl ?_
          refine X_ld rfl rfl rfl rfl ?_
          refine X_push (v := .int 1) rfl (by decide +kernel) ?_
          refine X_bin rfl rfl ?_
          refine X_zaldn (n := 400) ((s_hg (S w) (s_from (S w) s) k) - 1) (m_subc (b := 1) (by omega) rfl) (by omega) (by omega) rfl rfl ?_
          refine X_if_ne rfl (fun c77 => ?_) (fun c77 => ?_)
          · have h77 : (s_px (S w) gv l (s_from (S w) s) P k ((s_hg (S w) (s_from (S w) s) k) - 1)) = true := b2_1 c77
            refine X_push (v := .int 0) rfl (by decide +kernel) ?_
            refine X_mPb ((s_hg (S w) (s_from (S w) s) k) - 1) false (m_subc (b := 1) (by omega) rfl) (by omega) rfl ?_
            refine X_goto rfl ?_
            refine X_iinc rfl rfl rfl ?_
            refine X_goto rfl ?_
            have e1 : s_px (S w) gv l (s_from (S w) s) P (k + 1) = s_upb (s_px (S w) gv l (s_from (S w) s) P k) (s_hg (S w) (s_from (S w) s) k - 1) false := (show s_px1 (s_cod (S w) (s_from (S w) s + k) 0) (s_hg (S w) (s_from (S w) s) k) (s_tru (S w) gv (s_from (S w) s + k) l) (s_px (S w) gv l (s_from (S w) s) P k) = _ from by unfold s_px1; rw [if_neg c34, if_pos c59, h77] <;> rfl)
            have e2 : s_hg (S w) (s_from (S w) s) (k + 1) = (s_hg (S w) (s_from (S w) s) k) := (show s_hg1 (s_cod (S w) (s_from (S w) s + k) 0) (s_hg (S w) (s_from (S w) s) k) = _ from by unfold s_hg1; rw [if_neg c34, if_pos c59])
            refine X_heap (N' := mset B I T S rd tx gv (fun i => b2 (s_px (S w) gv l (s_from (S w) s) P (k + 1) i))) (by rw [e1]) ?_
            refine X_loc (L' := [some (.ref 275), some (.int x), some (.int y), some (.int (nI (s_hg (S w) (s_from (S w) s) (k + 1)))), some (.int (nI (s_from (S w) s + (k + 1)))), none]) ⟨rfl, rfl, rfl, congrArg (fun q => Value.int (nI q)) e2, congrArg Value.int (m_inc rfl).symm, trivial⟩ ?_
            exact ih (k + 1) (by omega)
          · have h77 : (s_px (S w) gv l (s_from (S w) s) P k ((s_hg (S w) (s_from (S w) s) k) - 1)) = false := b2_0 c77
            refine X_push (v := .int 1) rfl (by decide +kernel) ?_
            refine X_goto rfl ?_
            refine X_mPb ((s_hg (S w) (s_from (S w) s) k) - 1) true (m_subc (b := 1) (by omega) rfl) (by omega) rfl ?_
            refine X_goto rfl ?_
            refine X_iinc rfl rfl rfl ?_
            refine X_goto rfl ?_
            have e1 : s_px (S w) gv l (s_from (S w) s) P (k + 1) = s_upb (s_px (S w) gv l (s_from (S w) s) P k) (s_hg (S w) (s_from (S w) s) k - 1) true := (show s_px1 (s_cod (S w) (s_from (S w) s + k) 0) (s_hg (S w) (s_from (S w) s) k) (s_tru (S w) gv (s_from (S w) s + k) l) (s_px (S w) gv l (s_from (S w) s) P k) = _ from by unfold s_px1; rw [if_neg c34, if_pos c59, h77] <;> rfl)
            have e2 : s_hg (S w) (s_from (S w) s) (k + 1) = (s_hg (S w) (s_from (S w) s) k) := (show s_hg1 (s_cod (S w) (s_from (S w) s + k) 0) (s_hg (S w) (s_from (S w) s) k) = _ from by unfold s_hg1; rw [if_neg c34, if_pos c59])
            refine X_heap (N' := mset B I T S rd tx gv (fun i => b2 (s_px (S w) gv l (s_from (S w) s) P (k + 1) i))) (by rw [e1]) ?_
            refine X_loc (L' := [some (.ref 275), some (.int x), some (.int y), some (.int (nI (s_hg (S w) (s_from (S w) s) (k + 1)))), some (.int (nI (s_from (S w) s + (k + 1)))), none]) ⟨rfl, rfl, rfl, congrArg (fun q => Value.int (nI q)) e2, congrArg Value.int (m_inc rfl).symm, trivial⟩ ?_
            exact ih (k + 1) (by omega)
      · refine X_ld rfl rfl rfl rfl ?_
        refine X_get f_X11_26 rfl rfl rfl ?_
        refine X_ld rfl rfl rfl rfl ?_
        refine X_ld rfl rfl rfl rfl ?_
        refine X_ld rfl rfl rfl rfl ?_
        refine X_ld rfl rfl rfl rfl ?_
        refine X_mcall l_X11_X11_isTrue (c_isTrue hG d w hw hw9 (s_from (S w) s + k) l (by omega) hl (s_pok_tok hfo.1 (by omega) c34) rfl hy) rfl rfl rfl rfl (Nat.le_of_ble_eq_true rfl) (Nat.le_of_ble_eq_true rfl) (Nat.le_refl _) (Nat.le_of_ble_eq_true rfl) (Nat.le_of_ble_eq_true rfl) ?_
        refine X_mPb (s_hg (S w) (s_from (S w) s) k) (s_tru (S w) gv (s_from (S w) s + k) l) rfl (by omega) rfl ?_
        refine X_iinc rfl rfl rfl ?_
        refine X_goto rfl ?_
        refine X_iinc rfl rfl rfl ?_
        refine X_goto rfl ?_
        have e1 : s_px (S w) gv l (s_from (S w) s) P (k + 1) = s_upb (s_px (S w) gv l (s_from (S w) s) P k) (s_hg (S w) (s_from (S w) s) k) (s_tru (S w) gv (s_from (S w) s + k) l) := (show s_px1 (s_cod (S w) (s_from (S w) s + k) 0) (s_hg (S w) (s_from (S w) s) k) (s_tru (S w) gv (s_from (S w) s + k) l) (s_px (S w) gv l (s_from (S w) s) P k) = _ from by unfold s_px1; rw [if_pos c34] <;> rfl)
        have e2 : s_hg (S w) (s_from (S w) s) (k + 1) = (s_hg (S w) (s_from (S w) s) k + 1) := (show s_hg1 (s_cod (S w) (s_from (S w) s + k) 0) (s_hg (S w) (s_from (S w) s) k) = _ from by unfold s_hg1; rw [if_pos c34])
        refine X_heap (N' := mset B I T S rd tx gv (fun i => b2 (s_px (S w) gv l (s_from (S w) s) P (k + 1) i))) (by rw [e1]) ?_
        refine X_loc (L' := [some (.ref 275), some (.int x), some (.int y), some (.int (nI (s_hg (S w) (s_from (S w) s) (k + 1)))), some (.int (nI (s_from (S w) s + (k + 1)))), none]) ⟨rfl, rfl, rfl, (congrArg (fun q => Value.int (nI q)) e2).trans (congrArg Value.int (m_inc rfl).symm), congrArg Value.int (m_inc rfl).symm, trivial⟩ ?_
        exact ih (k + 1) (by omega)
  refine X_push (v := .int 0) rfl (by decide +kernel) ?_
  refine X_st rfl rfl rfl ?_
  refine X_ld rfl rfl rfl rfl ?_
  refine X_ld rfl rfl rfl rfl ?_
  refine X_push (v := .int 26) rfl (by decide +kernel) ?_
  refine X_mcall l_X11_X11_ofStatement (c_ofStatement hG (d + 2) w hw hw9 s 26 (by omega) hx (show (26 : Int32) = nI 26 from rfl)) rfl rfl rfl rfl (Nat.le_of_ble_eq_true rfl) (Nat.le_of_ble_eq_true rfl) (Nat.le_refl _) (Nat.le_of_ble_eq_true rfl) (Nat.le_of_ble_eq_true rfl) ?_
  refine X_st rfl rfl rfl ?_
  refine X_heap (N' := mset B I T S rd tx gv (fun i => b2 (s_px (S w) gv l (s_from (S w) s) P 0 i))) rfl ?_
  refine X_loc (L' := [some (.ref 275), some (.int x), some (.int y), some (.int (nI (s_hg (S w) (s_from (S w) s) 0))), some (.int (nI (s_from (S w) s + 0))), none]) ⟨rfl, rfl, rfl, rfl, congrArg Value.int h3.symm, trivial⟩ ?_
  refine loop ?_ _ 0 (Nat.zero_add _)
  have e := s_find_any (gv := gv) (l := l) (P := P) hfo
  refine X_ld rfl rfl rfl rfl ?_
  refine X_get f_X11_26 rfl rfl rfl ?_
  refine X_push (v := .int 0) rfl (by decide +kernel) ?_
  refine X_zaldn (n := 400) 0 (show (0 : Int32) = nI 0 from rfl) (by omega) (by omega) rfl rfl ?_
  exact X_zret rfl rfl (b2_nar _) ⟨rfl, congrArg (fun q => some (Value.int (b2 q))) e⟩ (Nat.le_of_ble_eq_true rfl) (Nat.le_of_ble_eq_true rfl)
