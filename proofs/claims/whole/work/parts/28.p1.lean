/-! ===== the reference's reader: what it sees ===== -/
/-- the end of the run of bytes that satisfy P, from p -/
def l_runf (P : Int32 → Bool) (tx : Nat → Int32) : Nat → Nat → Nat
  | 0, p => p
  | f + 1, p => bif P (tx p) then l_runf P tx f (p + 1) else p
def l_run (P : Int32 → Bool) (tx : Nat → Int32) (n p : Nat) : Nat := l_runf P tx (n - p) p
section
variable {P : Int32 → Bool} {tx : Nat → Int32} {n p : Nat}
theorem l_run_ge (h : n ≤ p) : l_run P tx n p = p := by
  unfold l_run
  rw [show n - p = 0 by omega]
  rfl
theorem l_run_lt (h : p < n) : l_run P tx n p = bif P (tx p) then l_run P tx n (p + 1) else p := by
  unfold l_run
  rw [show n - p = (n - (p + 1)) + 1 by omega]
  rfl
theorem l_run_y (h : p < n) (hP : P (tx p) = true) : l_run P tx n p = l_run P tx n (p + 1) := by rw [l_run_lt h, hP]; rfl
theorem l_run_n (h : p < n) (hP : P (tx p) = false) : l_run P tx n p = p := by rw [l_run_lt h, hP]; rfl
theorem l_runf_le : ∀ f p, p ≤ l_runf P tx f p ∧ l_runf P tx f p ≤ p + f
  | 0, p => ⟨Nat.le_refl _, Nat.le_refl _⟩
  | f + 1, p => by
    have h := l_runf_le f (p + 1)
    show p ≤ (bif P (tx p) then l_runf P tx f (p + 1) else p) ∧ (bif P (tx p) then l_runf P tx f (p + 1) else p) ≤ p + (f + 1)
    cases P (tx p) with
    | true => exact ⟨by show p ≤ l_runf P tx f (p + 1); omega, by show l_runf P tx f (p + 1) ≤ _; omega⟩
    | false => exact ⟨Nat.le_refl _, by show p ≤ _; omega⟩
theorem l_run_le (h : p ≤ n) : p ≤ l_run P tx n p ∧ l_run P tx n p ≤ n := by
  have h1 := l_runf_le (P := P) (tx := tx) (n - p) p
  unfold l_run
  omega
theorem l_runf_in : ∀ f p j, p ≤ j → j < l_runf P tx f p → P (tx j) = true
  | 0, p, j, h1, h2 => absurd (show j < p from h2) (by omega)
  | f + 1, p, j, h1, h2 => by
    change j < (bif P (tx p) then l_runf P tx f (p + 1) else p) at h2
    cases hP : P (tx p) with
    | true =>
      rw [hP] at h2
      by_cases e : j = p
      · rw [e]; exact hP
      · exact l_runf_in f (p + 1) j (by omega) h2
    | false => rw [hP] at h2; exact absurd (show j < p from h2) (by omega)
theorem l_run_in {j : Nat} (h1 : p ≤ j) (h2 : j < l_run P tx n p) : P (tx j) = true := l_runf_in _ _ _ h1 h2
theorem l_runf_out : ∀ f p, l_runf P tx f p < p + f → P (tx (l_runf P tx f p)) = false
  | 0, p, h => absurd h (Nat.lt_irrefl _)
  | f + 1, p, h => by
    change (bif P (tx p) then l_runf P tx f (p + 1) else p) < p + (f + 1) at h
    show P (tx (bif P (tx p) then l_runf P tx f (p + 1) else p)) = false
    cases hP : P (tx p) with
    | true => rw [hP] at h; exact l_runf_out f (p + 1) (by have h2 : l_runf P tx f (p + 1) < p + (f + 1) := h; omega)
    | false => exact hP
theorem l_run_out (h : l_run P tx n p < n) (hp : p ≤ n) : P (tx (l_run P tx n p)) = false := l_runf_out _ _ (by unfold l_run at h; omega)
end
def l_sp (c : Int32) : Bool := decide (c = 32)
def l_lt (c : Int32) : Bool := decide (s_let c)
def l_dg (c : Int32) : Bool := decide ((48 : Int32) ≤ c ∧ c ≤ 57)
/-- behind the spaces -/
def l_sk (tx : Nat → Int32) (n p : Nat) : Nat := l_run l_sp tx n p
/-- behind the letters that follow -/
def l_we (tx : Nat → Int32) (n p : Nat) : Nat := l_run l_lt tx n (l_sk tx n p)
def l_see (tx : Nat → Int32) (n p : Nat) : Int32 := if l_sk tx n p < n then tx (l_sk tx n p) else -1
theorem l_sk_le {tx : Nat → Int32} {n p : Nat} (h : p ≤ n) : p ≤ l_sk tx n p ∧ l_sk tx n p ≤ n := l_run_le h
theorem l_sk_sk {tx : Nat → Int32} {n p : Nat} (h : p ≤ n) : l_sk tx n (l_sk tx n p) = l_sk tx n p := by
  have h1 := l_sk_le (tx := tx) h
  by_cases e : l_sk tx n p < n
  · exact l_run_n e (l_run_out e h)
  · exact l_run_ge (by omega)
theorem l_we_sk {tx : Nat → Int32} {n p : Nat} (h : p ≤ n) : l_we tx n (l_sk tx n p) = l_we tx n p := by unfold l_we; rw [l_sk_sk h]
theorem l_see_sk {tx : Nat → Int32} {n p : Nat} (h : p ≤ n) : l_see tx n (l_sk tx n p) = l_see tx n p := by unfold l_see; rw [l_sk_sk h]
theorem l_we_le {tx : Nat → Int32} {n p : Nat} (h : p ≤ n) : l_sk tx n p ≤ l_we tx n p ∧ l_we tx n p ≤ n := l_run_le (l_sk_le h).2
theorem upd_self {I : Nat → Int32} {k : Nat} : upd I k (I k) = I := by
  funext j
  unfold upd
  by_cases h : j = k
  · rw [if_pos h, h]
  · rw [if_neg h]
theorem c_sees {G : XE} (hG : x_Kn G) {B : XH} {I : Nat → Int32} {T : Int64} {S : Nat → Nat → Int32} {rd tx gv pl : Nat → Int32} (d : Nat) {n p : Nat} (hp : I 9 = nI p) (hn : I 8 = nI n) (hpn : p ≤ n) (hn8 : n ≤ 800) : x_M G mX11_sees d 0 0 [.ref 275] (mset B I T S rd tx gv pl) (x_Ret (mset B (upd I 9 (nI (l_sk tx n p))) T S rd tx gv pl) (.int (l_see tx n p))) x_noX := by
  refine X_M hG okX11_sees rfl (L := [some (.ref 275)]) rfl (Nat.le_of_ble_eq_true rfl) (fun ad0 nb0 => ?_)
  have loop : x_W G mX11_sees (x_Z G d 0 0 ad0 nb0 (x_Ret (mset B (upd I 9 (nI (l_sk tx n p))) T S rd tx gv pl) (.int (l_see tx n p))) x_noX) (mset B (upd I 9 (nI (l_sk tx n p))) T S rd tx gv pl) 0 0 38 [some (.ref 275)] [] → ∀ (f9 q : Nat), q + f9 = n → l_run l_sp tx n q = (l_sk tx n p) → x_W G mX11_sees (x_Z G d 0 0 ad0 nb0 (x_Ret (mset B (upd I 9 (nI (l_sk tx n p))) T S rd tx gv pl) (.int (l_see tx n p))) x_noX) (mset B (upd I 9 (nI q)) T S rd tx gv pl) 0 0 0 [some (.ref 275)] [] := by
    intro K f9
    induction f9 with
    | zero =>
      intro q e0 hR
      obtain e9 : q = n := by omega
      subst q
      refine X_ld rfl rfl rfl rfl ?_
      refine X_get f_X11_69 rfl rfl rfl ?_
      refine X_ld rfl rfl rfl rfl ?_
      refine X_get f_X11_72 rfl rfl rfl ?_
      refine X_icmp_ge rfl (fun c8 => ?_) (fun c8 => absurd ((n_le ((updI_ne (by decide)).trans hn) updI_eq (by omega) (by omega)).mpr (by omega)) c8)
      have e : n = (l_sk tx n p) := (l_run_ge (Nat.le_refl _)).symm.trans hR
      refine X_heap (N' := mset B (upd I 9 (nI (l_sk tx n p))) T S rd tx gv pl) (by rw [← e]) ?_
      exact K
    | succ f9 ih =>
      intro q e0 hR
      refine X_ld rfl rfl rfl rfl ?_
      refine X_get f_X11_69 rfl rfl rfl ?_
      refine X_ld rfl rfl rfl rfl ?_
      refine X_get f_X11_72 rfl rfl rfl ?_
      refine X_icmp_ge rfl (fun c8 => absurd ((n_le ((updI_ne (by decide)).trans hn) updI_eq (by omega) (by omega)).mp c8) (by omega)) (fun c8 => ?_)
      refine X_ld rfl rfl rfl rfl ?_
      refine X_get f_X11_16 rfl rfl rfl ?_
      refine X_ld rfl rfl rfl rfl ?_
      refine X_get f_X11_69 rfl rfl rfl ?_
      refine X_ildn (n := 800) q updI_eq (by omega) (by omega) rfl rfl ?_
      refine X_push (v := .int 32) rfl (by decide +kernel) ?_
      refine X_icmp_ne rfl (fun c22 => ?_) (fun c22 => ?_)
      · have e : q = (l_sk tx n p) := (l_run_n (by omega) (decide_eq_false c22)).symm.trans hR
        refine X_heap (N' := mset B (upd I 9 (nI (l_sk tx n p))) T S rd tx gv pl) (by rw [e]) ?_
        exact K
      · refine X_ld rfl rfl rfl rfl ?_
        refine X_dup rfl rfl ?_
        refine X_get f_X11_69 rfl rfl rfl ?_
        refine X_push (v := .int 1) rfl (by decide +kernel) ?_
        refine X_bin rfl rfl ?_
        refine X_mput f_X11_69 rfl rfl ?_
        refine X_goto rfl ?_
        refine X_heap (N' := mset B (upd I 9 (nI (q + 1))) T S rd tx gv pl) (by rw [upd_upd, show upd I 9 (nI q) 9 + 1 = nI (q + 1) from m_add (b := 1) updI_eq rfl]) ?_
        exact ih (q + 1) (by omega) ((l_run_y (by omega) (decide_eq_true c22)).symm.trans hR)
  refine X_heap (N' := mset B (upd I 9 (nI p)) T S rd tx gv pl) (by rw [← hp, upd_self]) ?_
  refine loop ?_ (n - p) p (by omega) rfl
  have hsk := l_sk_le (tx := tx) hpn
  refine X_ld rfl rfl rfl rfl ?_
  refine X_get f_X11_69 rfl rfl rfl ?_
  refine X_ld rfl rfl rfl rfl ?_
  refine X_get f_X11_72 rfl rfl rfl ?_
  refine X_icmp_ge rfl (fun c46 => ?_) (fun c46 => ?_)
  · have n46 := (n_le ((updI_ne (by decide)).trans hn) updI_eq (by omega) (by omega)).mp c46
    refine X_push (v := .int (-1)) rfl (by decide +kernel) ?_
    exact X_iret rfl rfl ⟨rfl, by unfold l_see; rw [if_neg (Nat.not_lt.mpr n46)]⟩ (Nat.le_of_ble_eq_true rfl) (Nat.le_of_ble_eq_true rfl)
  · have n46 := mt (n_le ((updI_ne (by decide)).trans hn) updI_eq (by omega) (by omega)).mpr c46
    refine X_ld rfl rfl rfl rfl ?_
    refine X_get f_X11_16 rfl rfl rfl ?_
    refine X_ld rfl rfl rfl rfl ?_
    refine X_get f_X11_69 rfl rfl rfl ?_
    refine X_ildn (n := 800) (l_sk tx n p) updI_eq (by omega) (by omega) rfl rfl ?_
    refine X_goto rfl ?_
    exact X_iret rfl rfl ⟨rfl, by unfold l_see; rw [if_pos (Nat.not_le.mp n46)]⟩ (Nat.le_of_ble_eq_true rfl) (Nat.le_of_ble_eq_true rfl)
