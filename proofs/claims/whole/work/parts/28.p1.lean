/-! ===== the reference's reader: what it sees ===== -/
/-- the end of the run of bytes that satisfy P, from p -/
def l_runf (P : Int32 → Bool) (tx : Nat → Int32) : Nat → Nat → Nat
  | 0, p => p
  | f + 1, p => bif P (tx p) then l_runf P tx f (p + 1) else p
def l_run (P : Int32 → Bool) (tx : Nat → Int32) (n p : Nat) : Nat := l_runf P tx (n - p) p
section
variable {P : Int32 → Bool} {tx : Nat → Int32} {n p : Nat}
theorem l_run_ge (h : n ≤ p) : l_run P tx n p = p := by
  unfold l_run
  rw [show n - p = 0 by omega]
  rfl
theorem l_run_lt (h : p < n) : l_run P tx n p = bif P (tx p) then l_run P tx n (p + 1) else p := by
  unfold l_run
  rw [show n - p = (n - (p + 1)) + 1 by omega]
  rfl
theorem l_run_y (h : p < n) (hP : P (tx p) = true) : l_run P tx n p = l_run P tx n (p + 1) := by rw [l_run_lt h, hP]; rfl
theorem l_run_n (h : p < n) (hP : P (tx p) = false) : l_run P tx n p = p := by rw [l_run_lt h, hP]; rfl
theorem l_runf_le : ∀ f p, p ≤ l_runf P tx f p ∧ l_runf P tx f p ≤ p + f
  | 0, p => ⟨Nat.le_refl _, Nat.le_refl _⟩
  | f + 1, p => by
    have h := l_runf_le f (p + 1)
    show p ≤ (bif P (tx p) then l_runf P tx f (p + 1) else p) ∧ (bif P (tx p) then l_runf P tx f (p + 1) else p) ≤ p + (f + 1)
    cases P (tx p) with
    | true => exact ⟨by show p ≤ l_runf P tx f (p + 1); omega, by show l_runf P tx f (p + 1) ≤ _; omega⟩
    | false => exact ⟨Nat.le_refl _, by show p ≤ _; omega⟩
theorem l_run_le (h : p ≤ n) : p ≤ l_run P tx n p ∧ l_run P tx n p ≤ n := by
  have h1 := l_runf_le (P := P) (tx := tx) (n - p) p
  unfold l_run
  omega
theorem l_runf_in : ∀ f p j, p ≤ j → j < l_runf P tx f p → P (tx j) = true
  | 0, p, j, h1, h2 => absurd (show j < p from h2) (by omega)
  | f + 1, p, j, h1, h2 => by
    change j < (bif P (tx p) then l_runf P tx f (p + 1) else p) at h2
    cases hP : P (tx p) with
    | true =>
      rw [hP] at h2
      by_cases e : j = p
      · rw [e]; exact hP
      · exact l_runf_in f (p + 1) j (by omega) h2
    | false => rw [hP] at h2; exact absurd (show j < p from h2) (by omega)
theorem l_run_in {j : Nat} (h1 : p ≤ j) (h2 : j < l_run P tx n p) : P (tx j) = true := l_runf_in _ _ _ h1 h2
theorem l_runf_out : ∀ f p, l_runf P tx f p < p + f → P (tx (l_runf P tx f p)) = false
  | 0, p, h => absurd h (Nat.lt_irrefl _)
  | f + 1, p, h => by
    change (bif P (tx p) then l_runf P tx f (p + 1) else p) < p + (f + 1) at h
    show P (tx (bif P (tx p) then l_runf P tx f (p + 1) else p)) = false
    cases hP : P (tx p) with
    | true => rw [hP] at h; exact l_runf_out f (p + 1) (by have h2 : l_runf P tx f (p + 1) < p + (f + 1) := h; omega)
    | false => exact hP
theorem l_run_out (h : l_run P tx n p < n) (hp : p ≤ n) : P (tx (l_run P tx n p)) = false := l_runf_out _ _ (by unfold l_run at h; omega)
end
def l_sp (c : Int32) : Bool := decide (c = 32)
def l_lt (c : Int32) : Bool := decide (s_let c)
def l_dg (c : Int32) : Bool := decide ((48 : Int32) ≤ c ∧ c ≤ 57)
/-- behind the spaces -/
def l_sk (tx : Nat → Int32) (n p : Nat) : Nat := l_run l_sp tx n p
/-- behind the letters that follow -/
def l_we (tx : Nat → Int32) (n p : Nat) : Nat := l_run l_lt tx n (l_sk tx n p)
def l_see (tx : Nat → Int32) (n p : Nat) : Int32 := if l_sk tx n p < n then tx (l_sk tx n p) else -1
theorem l_sk_le {tx : Nat → Int32} {n p : Nat} (h : p ≤ n) : p ≤ l_sk tx n p ∧ l_sk tx n p ≤ n := l_run_le h
theorem l_sk_sk {tx : Nat → Int32} {n p : Nat} (h : p ≤ n) : l_sk tx n (l_sk tx n p) = l_sk tx n p := by
  have h1 := l_sk_le (tx := tx) h
  by_cases e : l_sk tx n p < n
  · exact l_run_n e (l_run_out e h)
  · exact l_run_ge (by omega)
theorem l_we_sk {tx : Nat → Int32} {n p : Nat} (h : p ≤ n) : l_we tx n (l_sk tx n p) = l_we tx n p := by unfold l_we; rw [l_sk_sk h]
theorem l_see_sk {tx : Nat → Int32} {n p : Nat} (h : p ≤ n) : l_see tx n (l_sk tx n p) = l_see tx n p := by unfold l_see; rw [l_sk_sk h]
theorem l_we_le {tx : Nat → Int32} {n p : Nat} (h : p ≤ n) : l_sk tx n p ≤ l_we tx n p ∧ l_we tx n p ≤ n := l_run_le (l_sk_le h).2
theorem upd_self {I : Nat → Int32} {k : Nat} : upd I k (I k) = I := by
  funext j
  unfold upd
  by_cases h : j = k
  · rw [if_pos h, h]
  · rw [if_neg h]
theorem c_sees {G : XE} (hG : x_Kn G) {B : XH} {I : Nat → Int32} {T : Int64} {S : Nat → Nat → Int32} {rd tx gv pl : Nat → Int32} (d : Nat) {n p : Nat} (hp : I 9 = nI p) (hn : I 8 = nI n) (hpn : p ≤ n) (hn8 : n ≤ 800) : x_M G mX11_sees d 0 0 [.ref 275] (mset B I T S rd tx gv pl) (x_Ret (mset B (upd I 9 (nI (l_sk tx n p))) T S rd tx gv pl) (.int (l_see tx n p))) x_noX := by
  refine X_M hG okX11_sees rfl (L := [some (.ref 275)]) rfl (Nat.le_of_ble_eq_true rfl) (fun ad0 nb0 => ?_)
  have loop : x_W G mX11_sees (x_Z G d 0 0 ad0 nb0 (x_Ret (mset B (upd I 9 (nI (l_sk tx n p))) T S rd tx gv pl) (.int (l_see tx n p))) x_noX) (mset B (upd I 9 (nI (l_sk tx n p))) T S rd tx gv pl) 0 0 38 [some (.ref 275)] [] → ∀ (f9 q : Nat), q + f9 = n → l_run l_sp tx n q = (l_sk tx n p) → x_W G mX11_sees (x_Z G d 0 0 ad0 nb0 (x_Ret (mset B (upd I 9 (nI (l_sk tx n p))) T S rd tx gv pl) (.int (l_see tx n p))) x_noX) (mset B (upd I 9 (nI q)) T S rd tx gv pl) 0 0 0 [some (.ref 275)] [] := by
    intro K f9
    induction f9 with
    | zero =>
      intro q e0 hR
      obtain e9 : q = n := by omega
      subst q
      refine X_ld rfl rfl rfl rfl ?_
      refine X_get f_X11_69 rfl rfl rfl ?_
      refine X_ld rfl rfl rfl rfl ?_
      refine X_get f_X11_72 rfl rfl rfl ?_
      refine X_icmp_ge rfl (fun c8 => ?_) (fun c8 => absurd ((n_le ((updI_ne (by decide)).trans hn) updI_eq (by omega) (by omega)).mpr (by omega)) c8)
      have e : n = (l_sk tx n p) := (l_run_ge (Nat.le_refl _)).symm.trans hR
      refine X_heap (N' := mset B (upd I 9 (nI (l_sk tx n p))) T S rd tx gv pl) (by rw [← e]) ?_
      exact K
    | succ f9 ih =>
      intro q e0 hR
      refine X_ld rfl rfl rfl rfl ?_
      refine X_get f_X11_69 rfl rfl rfl ?_
      refine X_ld rfl rfl rfl rfl ?_
      refine X_get f_X11_72 rfl rfl rfl ?_
      refine X_icmp_ge rfl (fun c8 => absurd ((n_le ((updI_ne (by decide)).trans hn) updI_eq (by omega) (by omega)).mp c8) (by omega)) (fun c8 => ?_)
      refine X_ld rfl rfl rfl rfl ?_
      refine X_get f_X11_16 rfl rfl rfl ?_
      refine X_ld rfl rfl rfl rfl ?_
      refine X_get f_X11_69 rfl rfl rfl ?_
      refine X_ildn (n := 800) q updI_eq (by omega) (by omega) rfl rfl ?_
      refine X_push (v := .int 32) rfl (by decide +kernel) ?_
      refine X_icmp_ne rfl (fun c22 => ?_) (fun c22 => ?_)
      · have e : q = (l_sk tx n p) := (l_run_n (by omega) (decide_eq_false c22)).symm.trans hR
        refine X_heap (N' := mset B (upd I 9 (nI (l_sk tx n p))) T S rd tx gv pl) (by rw [e]) ?_
        exact K
      · refine X_ld rfl rfl rfl rfl ?_
        refine X_dup rfl rfl ?_
        refine X_get f_X11_69 rfl rfl rfl ?_
        refine X_push (v := .int 1) rfl (by decide +kernel) ?_
        refine X_bin rfl rfl ?_
        refine X_mput f_X11_69 rfl rfl ?_
        refine X_goto rfl ?_
        refine X_heap (N' := mset B (upd I 9 (nI (q + 1))) T S rd tx gv pl) (by rw [upd_upd, show upd I 9 (nI q) 9 + 1 = nI (q + 1) from m_add (b := 1) updI_eq rfl]) ?_
        exact ih (q + 1) (by omega) ((l_run_y (by omega) (decide_eq_true c22)).symm.trans hR)
  refine X_heap (N' := mset B (upd I 9 (nI p)) T S rd tx gv pl) (by rw [← hp, upd_self]) ?_
  refine loop ?_ (n - p) p (by omega) rfl
  have hsk := l_sk_le (tx := tx) hpn
  refine X_ld rfl rfl rfl rfl ?_
  refine X_get f_X11_69 rfl rfl rfl ?_
  refine X_ld rfl rfl rfl rfl ?_
  refine X_get f_X11_72 rfl rfl rfl ?_
  refine X_icmp_ge rfl (fun c46 => ?_) (fun c46 => ?_)
  · have n46 := (n_le ((updI_ne (by decide)).trans hn) updI_eq (by omega) (by omega)).mp c46
    refine X_push (v := .int (-1)) rfl (by decide +kernel) ?_
    exact X_iret rfl rfl ⟨rfl, by unfold l_see; rw [if_neg (Nat.not_lt.mpr n46)]⟩ (Nat.le_of_ble_eq_true rfl) (Nat.le_of_ble_eq_true rfl)
  · have n46 := mt (n_le ((updI_ne (by decide)).trans hn) updI_eq (by omega) (by omega)).mpr c46
    refine X_ld rfl rfl rfl rfl ?_
    refine X_get f_X11_16 rfl rfl rfl ?_
    refine X_ld rfl rfl rfl rfl ?_
    refine X_get f_X11_69 rfl rfl rfl ?_
    refine X_ildn (n := 800) (l_sk tx n p) updI_eq (by omega) (by omega) rfl rfl ?_
    refine X_goto rfl ?_
    exact X_iret rfl rfl ⟨rfl, by unfold l_see; rw [if_pos (Nat.not_le.mp n46)]⟩ (Nat.le_of_ble_eq_true rfl) (Nat.le_of_ble_eq_true rfl)
theorem c_wordEnd {G : XE} (hG : x_Kn G) {B : XH} {I : Nat → Int32} {T : Int64} {S : Nat → Nat → Int32} {rd tx gv pl : Nat → Int32} (d : Nat) {n p : Nat} (hp : I 9 = nI p) (hn : I 8 = nI n) (hpn : p ≤ n) (hn8 : n ≤ 800) : x_M G mX11_wordEnd (d + 1) 0 0 [.ref 275] (mset B I T S rd tx gv pl) (x_Ret (mset B (upd I 9 (nI (l_sk tx n p))) T S rd tx gv pl) (.int (nI (l_we tx n p)))) x_noX := by
  refine X_M hG okX11_wordEnd rfl (L := [some (.ref 275), none]) rfl (Nat.le_of_ble_eq_true rfl) (fun ad0 nb0 => ?_)
  have hsk := l_sk_le (tx := tx) hpn
  have loop : x_W G mX11_wordEnd (x_Z G (d + 1) 0 0 ad0 nb0 (x_Ret (mset B (upd I 9 (nI (l_sk tx n p))) T S rd tx gv pl) (.int (nI (l_we tx n p)))) x_noX) (mset B (upd I 9 (nI (l_sk tx n p))) T S rd tx gv pl) 0 0 36 [some (.ref 275), some (.int (nI (l_we tx n p)))] [] → ∀ (f9 q : Nat), q + f9 = n → l_run l_lt tx n q = (l_we tx n p) → x_W G mX11_wordEnd (x_Z G (d + 1) 0 0 ad0 nb0 (x_Ret (mset B (upd I 9 (nI (l_sk tx n p))) T S rd tx gv pl) (.int (nI (l_we tx n p)))) x_noX) (mset B (upd I 9 (nI (l_sk tx n p))) T S rd tx gv pl) 0 0 10 [some (.ref 275), some (.int (nI q))] [] := by
    intro K f9
    induction f9 with
    | zero =>
      intro q e0 hR
      obtain e9 : q = n := by omega
      subst q
      refine X_ld rfl rfl rfl rfl ?_
      refine X_ld rfl rfl rfl rfl ?_
      refine X_get f_X11_72 rfl rfl rfl ?_
      refine X_icmp_ge rfl (fun c15 => ?_) (fun c15 => absurd ((n_le ((updI_ne (by decide)).trans hn) rfl (by omega) (by omega)).mpr (by omega)) c15)
      have e : n = (l_we tx n p) := (l_run_ge (P := l_lt) (Nat.le_refl _)).symm.trans hR
      refine X_loc (L' := [some (.ref 275), some (.int (nI (l_we tx n p)))]) ⟨rfl, congrArg (fun q => Value.int (nI q)) e.symm, trivial⟩ ?_
      refine X_loc (L' := [some (.ref 275), some (.int (nI (l_we tx n p)))]) ⟨rfl, rfl, trivial⟩ ?_
      exact K
    | succ f9 ih =>
      intro q e0 hR
      refine X_ld rfl rfl rfl rfl ?_
      refine X_ld rfl rfl rfl rfl ?_
      refine X_get f_X11_72 rfl rfl rfl ?_
      refine X_icmp_ge rfl (fun c15 => absurd ((n_le ((updI_ne (by decide)).trans hn) rfl (by omega) (by omega)).mp c15) (by omega)) (fun c15 => ?_)
      refine X_ld rfl rfl rfl rfl ?_
      refine X_get f_X11_16 rfl rfl rfl ?_
      refine X_ld rfl rfl rfl rfl ?_
      refine X_ildn (n := 800) q rfl (by omega) (by omega) rfl rfl ?_
      refine X_scall l_X11_X11_isLetterOf (c_isLetterOf hG d ) rfl rfl rfl (Nat.le_of_ble_eq_true rfl) (Nat.le_of_ble_eq_true rfl) (Nat.le_refl _) (Nat.le_of_ble_eq_true rfl) (Nat.le_of_ble_eq_true rfl) ?_
      refine X_if_eq rfl (fun c27 => ?_) (fun c27 => ?_)
      · have h27 : ¬ (s_let (tx q)) := fun q => bI_ne.mpr q c27
        have e : q = (l_we tx n p) := (l_run_n (P := l_lt) (by omega) (decide_eq_false h27)).symm.trans hR
        refine X_loc (L' := [some (.ref 275), some (.int (nI (l_we tx n p)))]) ⟨rfl, congrArg (fun q => Value.int (nI q)) e.symm, trivial⟩ ?_
        exact K
      · have h27 : s_let (tx q) := bI_ne.mp c27
        refine X_iinc rfl rfl rfl ?_
        refine X_goto rfl ?_
        refine X_loc (L' := [some (.ref 275), some (.int (nI (q + 1)))]) ⟨rfl, congrArg Value.int (m_inc rfl).symm, trivial⟩ ?_
        exact ih (q + 1) (by omega) ((l_run_y (P := l_lt) (by omega) (decide_eq_true h27)).symm.trans hR)
  refine X_ld rfl rfl rfl rfl ?_
  refine X_mcall l_X11_X11_sees (c_sees hG d hp hn hpn hn8) rfl rfl rfl rfl (Nat.le_of_ble_eq_true rfl) (Nat.le_of_ble_eq_true rfl) (Nat.le_refl _) (Nat.le_of_ble_eq_true rfl) (Nat.le_of_ble_eq_true rfl) ?_
  refine X_pop rfl rfl ?_
  refine X_ld rfl rfl rfl rfl ?_
  refine X_get f_X11_69 rfl rfl rfl ?_
  refine X_st rfl rfl rfl ?_
  refine X_loc (L' := [some (.ref 275), some (.int (nI (l_sk tx n p)))]) ⟨rfl, congrArg Value.int (updI_eq).symm, trivial⟩ ?_
  refine loop ?_ (n - l_sk tx n p) (l_sk tx n p) (by omega) rfl
  refine X_ld rfl rfl rfl rfl ?_
  exact X_iret rfl rfl ⟨rfl, rfl⟩ (Nat.le_of_ble_eq_true rfl) (Nat.le_of_ble_eq_true rfl)
/-- do the first k bytes from q agree with the word, if D -/
def l_eqg (D : Bool) (tx : Nat → Int32) (q : Nat) (w : List Int32) : Nat → Bool
  | 0 => D
  | k + 1 => l_eqg D tx q w k && decide (tx (q + k) = w.getD k 0)
theorem l_eqg_f {D : Bool} {tx : Nat → Int32} {q : Nat} {w : List Int32} : ∀ m k, l_eqg D tx q w k = false → k ≤ m → l_eqg D tx q w m = false
  | 0, k, h, hk => by
    obtain rfl : k = 0 := by omega
    exact h
  | m + 1, k, h, hk => by
    by_cases e : k = m + 1
    · rw [← e]; exact h
    · show (l_eqg D tx q w m && _) = false
      rw [l_eqg_f m k h (by omega)]
      rfl
theorem l_eqg_D {D : Bool} {tx : Nat → Int32} {q : Nat} {w : List Int32} {k : Nat} (h : l_eqg D tx q w k = true) : D = true := by
  cases D with
  | true => rfl
  | false => rw [l_eqg_f (D := false) k 0 rfl (Nat.zero_le _)] at h; cases h
/-- is the word here -/
def l_isw (tx : Nat → Int32) (n p : Nat) (w : List Int32) : Bool := l_eqg (decide (l_we tx n p = l_sk tx n p + w.length)) tx (l_sk tx n p) w w.length
theorem l_isw_we {tx : Nat → Int32} {n p : Nat} {w : List Int32} (h : l_isw tx n p w = true) : l_we tx n p = l_sk tx n p + w.length := of_decide_eq_true (l_eqg_D h)
theorem c_isHere {G : XE} (hG : x_Kn G) (hK : x_KS G) {B : XH} {I : Nat → Int32} {T : Int64} {S : Nat → Nat → Int32} {rd tx gv pl : Nat → Int32} (d : Nat) {n p : Nat} (hp : I 9 = nI p) (hn : I 8 = nI n) (hpn : p ≤ n) (hn8 : n ≤ 800) (i : Nat) (hi : i < 13) (he : I 10 = 0) : x_M G mX11_isHere (d + 4) 0 0 [.ref 275, .ref (4 + i)] (mset B I T S rd tx gv pl) (x_Ret (mset B (upd I 9 (nI (l_sk tx n p))) T S rd tx gv pl) (.int (b2 (l_isw tx n p (x_w i))))) x_noX := by
  refine X_M hG okX11_isHere rfl (L := [some (.ref 275), some (.ref (4 + i)), none, none, none]) rfl (Nat.le_of_ble_eq_true rfl) (fun ad0 nb0 => ?_)
  have hsk := l_sk_le (tx := tx) hpn
  have hwe := l_we_le (tx := tx) hpn
  have hw8 := x_w_len i
  have loop : x_W G mX11_isHere (x_Z G (d + 4) 0 0 ad0 nb0 (x_Ret (mset B (upd I 9 (nI (l_sk tx n p))) T S rd tx gv pl) (.int (b2 (l_isw tx n p (x_w i))))) x_noX) (mset B (upd I 9 (nI (l_sk tx n p))) T S rd tx gv pl) 0 0 82 [some (.ref 275), some (.ref (4 + i)), none, some (.int (b2 (l_eqg (decide (l_we tx n p = l_sk tx n p + (x_w i).length)) tx (l_sk tx n p) (x_w i) ((x_w i).length)))), none] [] → ∀ (f9 k : Nat), k + f9 = (x_w i).length → x_W G mX11_isHere (x_Z G (d + 4) 0 0 ad0 nb0 (x_Ret (mset B (upd I 9 (nI (l_sk tx n p))) T S rd tx gv pl) (.int (b2 (l_isw tx n p (x_w i))))) x_noX) (mset B (upd I 9 (nI (l_sk tx n p))) T S rd tx gv pl) 0 0 36 [some (.ref 275), some (.ref (4 + i)), none, some (.int (b2 (l_eqg (decide (l_we tx n p = l_sk tx n p + (x_w i).length)) tx (l_sk tx n p) (x_w i) k))), some (.int (nI k))] [] := by
    intro K f9
    induction f9 with
    | zero =>
      intro k e0 
      obtain rfl : k = (x_w i).length := by omega
      refine X_ld rfl rfl rfl rfl ?_
      refine X_if_eq rfl (fun c37 => ?_) (fun c37 => ?_)
      · have h37 : (l_eqg (decide (l_we tx n p = l_sk tx n p + (x_w i).length)) tx (l_sk tx n p) (x_w i) ((x_w i).length)) = false := b2_0 c37
        refine X_loc (L' := [some (.ref 275), some (.ref (4 + i)), none, some (.int (b2 (l_eqg (decide (l_we tx n p = l_sk tx n p + (x_w i).length)) tx (l_sk tx n p) (x_w i) ((x_w i).length)))), none]) ⟨rfl, rfl, rfl, trivial⟩ ?_
        exact K
      · have h37 : (l_eqg (decide (l_we tx n p = l_sk tx n p + (x_w i).length)) tx (l_sk tx n p) (x_w i) ((x_w i).length)) = true := b2_1 c37
        refine X_ld rfl rfl rfl rfl ?_
        refine X_ld rfl rfl rfl rfl ?_
        refine X_callF (o := 4 + i) (by omega) (hK.2.1 i (by omega)).1 l_X11_J0_length_8abf5 (c_strlen hG hK (d + 2) i (by omega)) rfl rfl rfl (Nat.le_of_ble_eq_true rfl) (x_fit_of (Nat.le_of_ble_eq_true rfl) (Nat.le_refl _) (Nat.le_of_ble_eq_true rfl) (Nat.le_of_ble_eq_true rfl)) ?_
        refine X_icmp_ge rfl (fun c46 => ?_) (fun c46 => absurd ((n_le rfl rfl (by omega) (by omega)).mpr (by omega)) c46)
        refine X_loc (L' := [some (.ref 275), some (.ref (4 + i)), none, some (.int (b2 (l_eqg (decide (l_we tx n p = l_sk tx n p + (x_w i).length)) tx (l_sk tx n p) (x_w i) ((x_w i).length)))), none]) ⟨rfl, rfl, rfl, trivial⟩ ?_
        exact K
    | succ f9 ih =>
      intro k e0 
      refine X_ld rfl rfl rfl rfl ?_
      refine X_if_eq rfl (fun c37 => ?_) (fun c37 => ?_)
      · have h37 : (l_eqg (decide (l_we tx n p = l_sk tx n p + (x_w i).length)) tx (l_sk tx n p) (x_w i) k) = false := b2_0 c37
        have e : l_eqg (decide (l_we tx n p = l_sk tx n p + (x_w i).length)) tx (l_sk tx n p) (x_w i) ((x_w i).length) = false := l_eqg_f _ k h37 (by omega)
        refine X_loc (L' := [some (.ref 275), some (.ref (4 + i)), none, some (.int (b2 (l_eqg (decide (l_we tx n p = l_sk tx n p + (x_w i).length)) tx (l_sk tx n p) (x_w i) ((x_w i).length)))), none]) ⟨rfl, rfl, congrArg (fun q => Value.int (b2 q)) (e.trans h37.symm), trivial⟩ ?_
        exact K
      · have h37 : (l_eqg (decide (l_we tx n p = l_sk tx n p + (x_w i).length)) tx (l_sk tx n p) (x_w i) k) = true := b2_1 c37
        refine X_ld rfl rfl rfl rfl ?_
        refine X_ld rfl rfl rfl rfl ?_
        refine X_callF (o := 4 + i) (by omega) (hK.2.1 i (by omega)).1 l_X11_J0_length_8abf5 (c_strlen hG hK (d + 2) i (by omega)) rfl rfl rfl (Nat.le_of_ble_eq_true rfl) (x_fit_of (Nat.le_of_ble_eq_true rfl) (Nat.le_refl _) (Nat.le_of_ble_eq_true rfl) (Nat.le_of_ble_eq_true rfl)) ?_
        refine X_icmp_ge rfl (fun c46 => absurd ((n_le rfl rfl (by omega) (by omega)).mp c46) (by omega)) (fun c46 => ?_)
        have hD : l_we tx n p = l_sk tx n p + (x_w i).length := of_decide_eq_true (l_eqg_D h37)
        refine X_ld rfl rfl rfl rfl ?_
        refine X_get f_X11_16 rfl rfl rfl ?_
        refine X_ld rfl rfl rfl rfl ?_
        refine X_get f_X11_69 rfl rfl rfl ?_
        refine X_ld rfl rfl rfl rfl ?_
        refine X_bin rfl rfl ?_
        refine X_ildn (n := 800) ((l_sk tx n p) + k) (m_add updI_eq rfl) (by omega) (by omega) rfl rfl ?_
        refine X_ld rfl rfl rfl rfl ?_
        refine X_ld rfl rfl rfl rfl ?_
        refine X_callF (o := 4 + i) (by omega) (hK.2.1 i (by omega)).1 l_X11_J0_charAt_5068e (c_charAt hG hK d i (by omega) k (by omega) rfl) rfl rfl rfl (Nat.le_of_ble_eq_true rfl) (x_fit_of (Nat.le_of_ble_eq_true rfl) (Nat.le_refl _) (Nat.le_of_ble_eq_true rfl) (Nat.le_of_ble_eq_true rfl)) ?_
        refine X_icmp_ne rfl (fun c67 => ?_) (fun c67 => ?_)
        · refine X_push (v := .int 0) rfl (by decide +kernel) ?_
          refine X_st rfl rfl rfl ?_
          refine X_iinc rfl rfl rfl ?_
          refine X_goto rfl ?_
          have e : l_eqg (decide (l_we tx n p = l_sk tx n p + (x_w i).length)) tx (l_sk tx n p) (x_w i) (k + 1) = false := (show (l_eqg (decide (l_we tx n p = l_sk tx n p + (x_w i).length)) tx (l_sk tx n p) (x_w i) k && decide (tx (l_sk tx n p + k) = (x_w i).getD k 0)) = _ from by rw [h37, decide_eq_false c67]; rfl)
          refine X_loc (L' := [some (.ref 275), some (.ref (4 + i)), none, some (.int (b2 (l_eqg (decide (l_we tx n p = l_sk tx n p + (x_w i).length)) tx (l_sk tx n p) (x_w i) (k + 1)))), some (.int (nI (k + 1)))]) ⟨rfl, rfl, congrArg (fun q => Value.int (b2 q)) e, congrArg Value.int (m_inc rfl).symm, trivial⟩ ?_
          exact ih (k + 1) (by omega)
        · refine X_push (v := .int 1) rfl (by decide +kernel) ?_
          refine X_goto rfl ?_
          refine X_st rfl rfl rfl ?_
          refine X_iinc rfl rfl rfl ?_
          refine X_goto rfl ?_
          have e : l_eqg (decide (l_we tx n p = l_sk tx n p + (x_w i).length)) tx (l_sk tx n p) (x_w i) (k + 1) = true := (show (l_eqg (decide (l_we tx n p = l_sk tx n p + (x_w i).length)) tx (l_sk tx n p) (x_w i) k && decide (tx (l_sk tx n p + k) = (x_w i).getD k 0)) = _ from by rw [h37, decide_eq_true c67]; rfl)
          refine X_loc (L' := [some (.ref 275), some (.ref (4 + i)), none, some (.int (b2 (l_eqg (decide (l_we tx n p = l_sk tx n p + (x_w i).length)) tx (l_sk tx n p) (x_w i) (k + 1)))), some (.int (nI (k + 1)))]) ⟨rfl, rfl, congrArg (fun q => Value.int (b2 q)) e, congrArg Value.int (m_inc rfl).symm, trivial⟩ ?_
          exact ih (k + 1) (by omega)
  refine X_ld rfl rfl rfl rfl ?_
  refine X_get f_X11_63 rfl rfl rfl ?_
  refine X_if_eq rfl (fun c4 => ?_) (fun c4 => absurd he c4)
  refine X_ld rfl rfl rfl rfl ?_
  refine X_mcall l_X11_X11_wordEnd (c_wordEnd hG (d + 2) hp hn hpn hn8) rfl rfl rfl rfl (Nat.le_of_ble_eq_true rfl) (Nat.le_of_ble_eq_true rfl) (Nat.le_refl _) (Nat.le_of_ble_eq_true rfl) (Nat.le_of_ble_eq_true rfl) ?_
  refine X_st rfl rfl rfl ?_
  refine X_ld rfl rfl rfl rfl ?_
  refine X_ld rfl rfl rfl rfl ?_
  refine X_get f_X11_69 rfl rfl rfl ?_
  refine X_bin rfl rfl ?_
  refine X_ld rfl rfl rfl rfl ?_
  refine X_callF (o := 4 + i) (by omega) (hK.2.1 i (by omega)).1 l_X11_J0_length_8abf5 (c_strlen hG hK (d + 2) i (by omega)) rfl rfl rfl (Nat.le_of_ble_eq_true rfl) (x_fit_of (Nat.le_of_ble_eq_true rfl) (Nat.le_refl _) (Nat.le_of_ble_eq_true rfl) (Nat.le_of_ble_eq_true rfl)) ?_
  refine X_icmp_ne rfl (fun c24 => ?_) (fun c24 => ?_)
  · have n24 := mt (n_eq (m_sub (by omega) rfl updI_eq) rfl (by omega) (by omega)).mpr c24
    refine X_push (v := .int 0) rfl (by decide +kernel) ?_
    refine X_st rfl rfl rfl ?_
    refine X_push (v := .int 0) rfl (by decide +kernel) ?_
    refine X_st rfl rfl rfl ?_
    refine X_loc (L' := [some (.ref 275), some (.ref (4 + i)), none, some (.int (b2 (l_eqg (decide (l_we tx n p = l_sk tx n p + (x_w i).length)) tx (l_sk tx n p) (x_w i) 0))), some (.int (nI 0))]) ⟨rfl, rfl, congrArg (fun q => Value.int (b2 q)) (decide_eq_false (show ¬ l_we tx n p = l_sk tx n p + (x_w i).length by omega)), rfl, trivial⟩ ?_
    refine loop ?_ _ 0 (Nat.zero_add _)
    refine X_ld rfl rfl rfl rfl ?_
    exact X_zret rfl rfl (b2_nar _) ⟨rfl, rfl⟩ (Nat.le_of_ble_eq_true rfl) (Nat.le_of_ble_eq_true rfl)
  · have n24 := (n_eq (m_sub (by omega) rfl updI_eq) rfl (by omega) (by omega)).mp c24
    refine X_push (v := .int 1) rfl (by decide +kernel) ?_
    refine X_goto rfl ?_
    refine X_st rfl rfl rfl ?_
    refine X_push (v := .int 0) rfl (by decide +kernel) ?_
    refine X_st rfl rfl rfl ?_
    refine X_loc (L' := [some (.ref 275), some (.ref (4 + i)), none, some (.int (b2 (l_eqg (decide (l_we tx n p = l_sk tx n p + (x_w i).length)) tx (l_sk tx n p) (x_w i) 0))), some (.int (nI 0))]) ⟨rfl, rfl, congrArg (fun q => Value.int (b2 q)) (decide_eq_true (show l_we tx n p = l_sk tx n p + (x_w i).length by omega)), rfl, trivial⟩ ?_
    refine loop ?_ _ 0 (Nat.zero_add _)
    refine X_ld rfl rfl rfl rfl ?_
    exact X_zret rfl rfl (b2_nar _) ⟨rfl, rfl⟩ (Nat.le_of_ble_eq_true rfl) (Nat.le_of_ble_eq_true rfl)
theorem c_isHereE {G : XE} (hG : x_Kn G) {B : XH} {I : Nat → Int32} {T : Int64} {S : Nat → Nat → Int32} {rd tx gv pl : Nat → Int32} (d : Nat) (i : Nat) (he : ¬ I 10 = 0) : x_M G mX11_isHere d 0 0 [.ref 275, .ref (4 + i)] (mset B I T S rd tx gv pl) (x_Ret (mset B I T S rd tx gv pl) (.int 0)) x_noX := by
  refine X_M hG okX11_isHere rfl (L := [some (.ref 275), some (.ref (4 + i)), none, none, none]) rfl (Nat.le_of_ble_eq_true rfl) (fun ad0 nb0 => ?_)
  refine X_ld rfl rfl rfl rfl ?_
  refine X_get f_X11_63 rfl rfl rfl ?_
  refine X_if_eq rfl (fun c4 => absurd c4 he) (fun c4 => ?_)
  refine X_push (v := .int 0) rfl (by decide +kernel) ?_
  exact X_zret rfl rfl rfl ⟨rfl, rfl⟩ (Nat.le_of_ble_eq_true rfl) (Nat.le_of_ble_eq_true rfl)
theorem l_isw_sk {tx : Nat → Int32} {n p : Nat} {w : List Int32} (h : p ≤ n) : l_isw tx n (l_sk tx n p) w = l_isw tx n p w := by unfold l_isw; rw [l_sk_sk h, l_we_sk h]
theorem l_sk_up {I : Nat → Int32} {tx : Nat → Int32} {n p : Nat} (hp : I 9 = nI (l_sk tx n p)) (hpn : p ≤ n) : upd I 9 (nI (l_sk tx n (l_sk tx n p))) = I := by rw [l_sk_sk hpn, ← hp, upd_self]
theorem c_seesS {G : XE} (hG : x_Kn G) {B : XH} {I : Nat → Int32} {T : Int64} {S : Nat → Nat → Int32} {rd tx gv pl : Nat → Int32} (d : Nat) {n p : Nat} (hp : I 9 = nI (l_sk tx n p)) (hn : I 8 = nI n) (hpn : p ≤ n) (hn8 : n ≤ 800) : x_M G mX11_sees d 0 0 [.ref 275] (mset B I T S rd tx gv pl) (x_Ret (mset B I T S rd tx gv pl) (.int (l_see tx n p))) x_noX := by
  have h := c_sees hG (B := B) (T := T) (S := S) (rd := rd) (tx := tx) (gv := gv) (pl := pl) d hp hn (l_sk_le hpn).2 hn8
  rw [l_sk_up hp hpn, l_see_sk hpn] at h
  exact h
theorem c_wordEndS {G : XE} (hG : x_Kn G) {B : XH} {I : Nat → Int32} {T : Int64} {S : Nat → Nat → Int32} {rd tx gv pl : Nat → Int32} (d : Nat) {n p : Nat} (hp : I 9 = nI (l_sk tx n p)) (hn : I 8 = nI n) (hpn : p ≤ n) (hn8 : n ≤ 800) : x_M G mX11_wordEnd (d + 1) 0 0 [.ref 275] (mset B I T S rd tx gv pl) (x_Ret (mset B I T S rd tx gv pl) (.int (nI (l_we tx n p)))) x_noX := by
  have h := c_wordEnd hG (B := B) (T := T) (S := S) (rd := rd) (tx := tx) (gv := gv) (pl := pl) d hp hn (l_sk_le hpn).2 hn8
  rw [l_sk_up hp hpn, l_we_sk hpn] at h
  exact h
theorem c_isHereS {G : XE} (hG : x_Kn G) (hK : x_KS G) {B : XH} {I : Nat → Int32} {T : Int64} {S : Nat → Nat → Int32} {rd tx gv pl : Nat → Int32} (d : Nat) {n p : Nat} (hp : I 9 = nI (l_sk tx n p)) (hn : I 8 = nI n) (hpn : p ≤ n) (hn8 : n ≤ 800) (i : Nat) (hi : i < 13) (he : I 10 = 0) : x_M G mX11_isHere (d + 4) 0 0 [.ref 275, .ref (4 + i)] (mset B I T S rd tx gv pl) (x_Ret (mset B I T S rd tx gv pl) (.int (b2 (l_isw tx n p (x_w i))))) x_noX := by
  have h := c_isHere hG hK (B := B) (T := T) (S := S) (rd := rd) (tx := tx) (gv := gv) (pl := pl) d hp hn (l_sk_le hpn).2 hn8 i hi he
  rw [l_sk_up hp hpn, l_isw_sk hpn] at h
  exact h
theorem c_failsE {G : XE} (hG : x_Kn G) {B : XH} {I : Nat → Int32} {T : Int64} {S : Nat → Nat → Int32} {rd tx gv pl : Nat → Int32} (d : Nat) (he : ¬ I 10 = 0) {x y : Int32} : x_M G mX11_fails d 0 0 [.ref 275, .int x, .int y] (mset B I T S rd tx gv pl) (x_RetV (mset B I T S rd tx gv pl)) x_noX := by
  refine X_M hG okX11_fails rfl (L := [some (.ref 275), some (.int x), some (.int y)]) rfl (Nat.le_of_ble_eq_true rfl) (fun ad0 nb0 => ?_)
  refine X_ld rfl rfl rfl rfl ?_
  refine X_get f_X11_63 rfl rfl rfl ?_
  refine X_if_eq rfl (fun c4 => absurd c4 he) (fun c4 => ?_)
  exact X_vret rfl rfl ⟨rfl, rfl⟩ (Nat.le_of_ble_eq_true rfl) (Nat.le_of_ble_eq_true rfl)
theorem c_fails {G : XE} (hG : x_Kn G) {B : XH} {I : Nat → Int32} {T : Int64} {S : Nat → Nat → Int32} {rd tx gv pl : Nat → Int32} (d : Nat) (he : I 10 = 0) {x y : Int32} : x_M G mX11_fails d 0 0 [.ref 275, .int x, .int y] (mset B I T S rd tx gv pl) (x_RetV (mset B (upd (upd I 10 x) 11 y) T S rd tx gv pl)) x_noX := by
  refine X_M hG okX11_fails rfl (L := [some (.ref 275), some (.int x), some (.int y)]) rfl (Nat.le_of_ble_eq_true rfl) (fun ad0 nb0 => ?_)
  refine X_ld rfl rfl rfl rfl ?_
  refine X_get f_X11_63 rfl rfl rfl ?_
  refine X_if_eq rfl (fun c4 => ?_) (fun c4 => absurd he c4)
  refine X_ld rfl rfl rfl rfl ?_
  refine X_ld rfl rfl rfl rfl ?_
  refine X_mput f_X11_63 rfl rfl ?_
  refine X_ld rfl rfl rfl rfl ?_
  refine X_ld rfl rfl rfl rfl ?_
  refine X_mput f_X11_66 rfl rfl ?_
  exact X_vret rfl rfl ⟨rfl, rfl⟩ (Nat.le_of_ble_eq_true rfl) (Nat.le_of_ble_eq_true rfl)
def l_tk (tx : Nat → Int32) (n p : Nat) (w : List Int32) : Nat := bif l_isw tx n p w then l_sk tx n p + w.length else l_sk tx n p
theorem l_tk_le {tx : Nat → Int32} {n p : Nat} {w : List Int32} (h : p ≤ n) : l_sk tx n p ≤ l_tk tx n p w ∧ l_tk tx n p w ≤ n := by
  have h1 := l_sk_le (tx := tx) h
  have h2 := l_we_le (tx := tx) h
  unfold l_tk
  cases hw : l_isw tx n p w with
  | true =>
    have h3 := l_isw_we hw
    exact ⟨Nat.le_add_right _ _, by show l_sk tx n p + w.length ≤ n; omega⟩
  | false => exact ⟨Nat.le_refl _, h1.2⟩
theorem c_takes {G : XE} (hG : x_Kn G) (hK : x_KS G) {B : XH} {I : Nat → Int32} {T : Int64} {S : Nat → Nat → Int32} {rd tx gv pl : Nat → Int32} (d : Nat) {n p : Nat} (hp : I 9 = nI p) (hn : I 8 = nI n) (hpn : p ≤ n) (hn8 : n ≤ 800) (i : Nat) (hi : i < 13) (he : I 10 = 0) : x_M G mX11_takes (d + 5) 0 0 [.ref 275, .ref (4 + i)] (mset B I T S rd tx gv pl) (x_Ret (mset B (upd I 9 (nI (l_tk tx n p (x_w i)))) T S rd tx gv pl) (.int (b2 (l_isw tx n p (x_w i))))) x_noX := by
  refine X_M hG okX11_takes rfl (L := [some (.ref 275), some (.ref (4 + i)), none]) rfl (Nat.le_of_ble_eq_true rfl) (fun ad0 nb0 => ?_)
  refine X_ld rfl rfl rfl rfl ?_
  refine X_ld rfl rfl rfl rfl ?_
  refine X_mcall l_X11_X11_isHere (c_isHere hG hK d hp hn hpn hn8 i hi he) rfl rfl rfl rfl (Nat.le_of_ble_eq_true rfl) (Nat.le_of_ble_eq_true rfl) (Nat.le_refl _) (Nat.le_of_ble_eq_true rfl) (Nat.le_of_ble_eq_true rfl) ?_
  refine X_st rfl rfl rfl ?_
  refine X_ld rfl rfl rfl rfl ?_
  refine X_if_eq rfl (fun c7 => ?_) (fun c7 => ?_)
  · have h7 : (l_isw tx n p (x_w i)) = false := b2_0 c7
    refine X_heap (N' := mset B (upd I 9 (nI (l_tk tx n p (x_w i)))) T S rd tx gv pl) (by rw [show l_tk tx n p (x_w i) = l_sk tx n p from by unfold l_tk; rw [h7]; rfl]) ?_
    refine X_ld rfl rfl rfl rfl ?_
    exact X_zret rfl rfl (b2_nar _) ⟨rfl, rfl⟩ (Nat.le_of_ble_eq_true rfl) (Nat.le_of_ble_eq_true rfl)
  · have h7 : (l_isw tx n p (x_w i)) = true := b2_1 c7
    refine X_ld rfl rfl rfl rfl ?_
    refine X_dup rfl rfl ?_
    refine X_get f_X11_69 rfl rfl rfl ?_
    refine X_ld rfl rfl rfl rfl ?_
    refine X_callF (o := 4 + i) (by omega) (hK.2.1 i (by omega)).1 l_X11_J0_length_8abf5 (c_strlen hG hK (d + 3) i (by omega)) rfl rfl rfl (Nat.le_of_ble_eq_true rfl) (x_fit_of (Nat.le_of_ble_eq_true rfl) (Nat.le_refl _) (Nat.le_of_ble_eq_true rfl) (Nat.le_of_ble_eq_true rfl)) ?_
    refine X_bin rfl rfl ?_
    refine X_mput f_X11_69 rfl rfl ?_
    refine X_heap (N' := mset B (upd I 9 (nI (l_tk tx n p (x_w i)))) T S rd tx gv pl) (by rw [upd_upd, show upd I 9 (nI (l_sk tx n p)) 9 + nI (x_w i).length = nI (l_tk tx n p (x_w i)) from (m_add updI_eq rfl).trans (congrArg nI (by unfold l_tk; rw [h7]; rfl))]) ?_
    refine X_ld rfl rfl rfl rfl ?_
    exact X_zret rfl rfl (b2_nar _) ⟨rfl, rfl⟩ (Nat.le_of_ble_eq_true rfl) (Nat.le_of_ble_eq_true rfl)
theorem c_takesE {G : XE} (hG : x_Kn G) {B : XH} {I : Nat → Int32} {T : Int64} {S : Nat → Nat → Int32} {rd tx gv pl : Nat → Int32} (d : Nat) (i : Nat) (he : ¬ I 10 = 0) : x_M G mX11_takes (d + 1) 0 0 [.ref 275, .ref (4 + i)] (mset B I T S rd tx gv pl) (x_Ret (mset B I T S rd tx gv pl) (.int 0)) x_noX := by
  refine X_M hG okX11_takes rfl (L := [some (.ref 275), some (.ref (4 + i)), none]) rfl (Nat.le_of_ble_eq_true rfl) (fun ad0 nb0 => ?_)
  refine X_ld rfl rfl rfl rfl ?_
  refine X_ld rfl rfl rfl rfl ?_
  refine X_mcall l_X11_X11_isHere (c_isHereE hG d i he) rfl rfl rfl rfl (Nat.le_of_ble_eq_true rfl) (Nat.le_of_ble_eq_true rfl) (Nat.le_refl _) (Nat.le_of_ble_eq_true rfl) (Nat.le_of_ble_eq_true rfl) ?_
  refine X_st rfl rfl rfl ?_
  refine X_ld rfl rfl rfl rfl ?_
  refine X_if_eq rfl (fun c7 => ?_) (fun c7 => absurd (by decide) c7)
  refine X_ld rfl rfl rfl rfl ?_
  exact X_zret rfl rfl rfl ⟨rfl, rfl⟩ (Nat.le_of_ble_eq_true rfl) (Nat.le_of_ble_eq_true rfl)
theorem c_wants {G : XE} (hG : x_Kn G) {B : XH} {I : Nat → Int32} {T : Int64} {S : Nat → Nat → Int32} {rd tx gv pl : Nat → Int32} (d : Nat) {n p : Nat} (hp : I 9 = nI p) (hn : I 8 = nI n) (hpn : p ≤ n) (hn8 : n ≤ 800) (he : I 10 = 0) {x : Int32} : x_M G mX11_wants (d + 1) 0 0 [.ref 275, .int x] (mset B I T S rd tx gv pl) (x_RetV (mset B (if l_see tx n p = x then upd I 9 (nI (l_sk tx n p + 1)) else upd (upd (upd I 9 (nI (l_sk tx n p))) 10 (-2)) 11 (nI (l_sk tx n p))) T S rd tx gv pl)) x_noX := by
  refine X_M hG okX11_wants rfl (L := [some (.ref 275), some (.int x)]) rfl (Nat.le_of_ble_eq_true rfl) (fun ad0 nb0 => ?_)
  have hsk := l_sk_le (tx := tx) hpn
  refine X_ld rfl rfl rfl rfl ?_
  refine X_get f_X11_63 rfl rfl rfl ?_
  refine X_if_eq rfl (fun c4 => ?_) (fun c4 => absurd he c4)
  refine X_ld rfl rfl rfl rfl ?_
  refine X_mcall l_X11_X11_sees (c_sees hG d hp hn hpn hn8) rfl rfl rfl rfl (Nat.le_of_ble_eq_true rfl) (Nat.le_of_ble_eq_true rfl) (Nat.le_refl _) (Nat.le_of_ble_eq_true rfl) (Nat.le_of_ble_eq_true rfl) ?_
  refine X_ld rfl rfl rfl rfl ?_
  refine X_icmp_eq rfl (fun c13 => ?_) (fun c13 => ?_)
  · refine X_ld rfl rfl rfl rfl ?_
    refine X_dup rfl rfl ?_
    refine X_get f_X11_69 rfl rfl rfl ?_
    refine X_push (v := .int 1) rfl (by decide +kernel) ?_
    refine X_bin rfl rfl ?_
    refine X_mput f_X11_69 rfl rfl ?_
    exact X_vret rfl rfl ⟨by rw [if_pos c13, upd_upd, show upd I 9 (nI (l_sk tx n p)) 9 + 1 = nI (l_sk tx n p + 1) from m_add (b := 1) updI_eq rfl], rfl⟩ (Nat.le_of_ble_eq_true rfl) (Nat.le_of_ble_eq_true rfl)
  · refine X_ld rfl rfl rfl rfl ?_
    refine X_push (v := .int (-2)) rfl (by decide +kernel) ?_
    refine X_ld rfl rfl rfl rfl ?_
    refine X_get f_X11_69 rfl rfl rfl ?_
    refine X_mcallv l_X11_X11_fails (c_fails hG d ((updI_ne (by decide)).trans he)) rfl rfl rfl rfl (Nat.le_of_ble_eq_true rfl) (Nat.le_of_ble_eq_true rfl) (Nat.le_refl _) (Nat.le_of_ble_eq_true rfl) (Nat.le_of_ble_eq_true rfl) ?_
    refine X_goto rfl ?_
    exact X_vret rfl rfl ⟨by rw [if_neg c13, show upd I 9 (nI (l_sk tx n p)) 9 = nI (l_sk tx n p) from updI_eq], rfl⟩ (Nat.le_of_ble_eq_true rfl) (Nat.le_of_ble_eq_true rfl)
theorem c_wantsE {G : XE} (hG : x_Kn G) {B : XH} {I : Nat → Int32} {T : Int64} {S : Nat → Nat → Int32} {rd tx gv pl : Nat → Int32} (d : Nat) (he : ¬ I 10 = 0) {x : Int32} : x_M G mX11_wants d 0 0 [.ref 275, .int x] (mset B I T S rd tx gv pl) (x_RetV (mset B I T S rd tx gv pl)) x_noX := by
  refine X_M hG okX11_wants rfl (L := [some (.ref 275), some (.int x)]) rfl (Nat.le_of_ble_eq_true rfl) (fun ad0 nb0 => ?_)
  refine X_ld rfl rfl rfl rfl ?_
  refine X_get f_X11_63 rfl rfl rfl ?_
  refine X_if_eq rfl (fun c4 => absurd c4 he) (fun c4 => ?_)
  exact X_vret rfl rfl ⟨rfl, rfl⟩ (Nat.le_of_ble_eq_true rfl) (Nat.le_of_ble_eq_true rfl)
theorem c_isDigit {G : XE} (hG : x_Kn G) {B : XH} {I : Nat → Int32} {T : Int64} {S : Nat → Nat → Int32} {rd tx gv pl : Nat → Int32} (d : Nat) {n p : Nat} (hp : I 9 = nI p) (hn : I 8 = nI n) (hpn : p ≤ n) (hn8 : n ≤ 800) : x_M G mX11_isDigit (d + 1) 0 0 [.ref 275] (mset B I T S rd tx gv pl) (x_Ret (mset B (upd I 9 (nI (l_sk tx n p))) T S rd tx gv pl) (.int (bI ((48 : Int32) ≤ l_see tx n p ∧ l_see tx n p ≤ 57)))) x_noX := by
  refine X_M hG okX11_isDigit rfl (L := [some (.ref 275)]) rfl (Nat.le_of_ble_eq_true rfl) (fun ad0 nb0 => ?_)
  refine X_ld rfl rfl rfl rfl ?_
  refine X_mcall l_X11_X11_sees (c_sees hG d hp hn hpn hn8) rfl rfl rfl rfl (Nat.le_of_ble_eq_true rfl) (Nat.le_of_ble_eq_true rfl) (Nat.le_refl _) (Nat.le_of_ble_eq_true rfl) (Nat.le_of_ble_eq_true rfl) ?_
  refine X_push (v := .int 48) rfl (by decide +kernel) ?_
  refine X_icmp_lt rfl (fun c6 => ?_) (fun c6 => ?_)
  · refine X_push (v := .int 0) rfl (by decide +kernel) ?_
    exact X_zret rfl rfl rfl ⟨rfl, by rw [bI_f (fun q => absurd c6 (Int32.not_lt.mpr q.1))]⟩ (Nat.le_of_ble_eq_true rfl) (Nat.le_of_ble_eq_true rfl)
  · refine X_ld rfl rfl rfl rfl ?_
    refine X_mcall l_X11_X11_sees (c_seesS hG d updI_eq ((updI_ne (by decide)).trans hn) hpn hn8) rfl rfl rfl rfl (Nat.le_of_ble_eq_true rfl) (Nat.le_of_ble_eq_true rfl) (Nat.le_refl _) (Nat.le_of_ble_eq_true rfl) (Nat.le_of_ble_eq_true rfl) ?_
    refine X_push (v := .int 57) rfl (by decide +kernel) ?_
    refine X_icmp_gt rfl (fun c15 => ?_) (fun c15 => ?_)
    · refine X_push (v := .int 0) rfl (by decide +kernel) ?_
      exact X_zret rfl rfl rfl ⟨rfl, by rw [bI_f (fun q => absurd c15 (Int32.not_lt.mpr q.2))]⟩ (Nat.le_of_ble_eq_true rfl) (Nat.le_of_ble_eq_true rfl)
    · refine X_push (v := .int 1) rfl (by decide +kernel) ?_
      refine X_goto rfl ?_
      exact X_zret rfl rfl rfl ⟨rfl, by rw [bI_t ⟨Int32.not_lt.mp c6, Int32.not_lt.mp c15⟩]⟩ (Nat.le_of_ble_eq_true rfl) (Nat.le_of_ble_eq_true rfl)
/-- is a name here -/
abbrev l_nm (tx : Nat → Int32) (n p : Nat) : Prop := l_sk tx n p < l_we tx n p ∧ l_we tx n p ≤ l_sk tx n p + 8 ∧ l_isw tx n p (x_w 2) = false ∧ l_isw tx n p (x_w 3) = false ∧ l_isw tx n p (x_w 4) = false
theorem c_isName {G : XE} (hG : x_Kn G) (hK : x_KS G) {B : XH} {I : Nat → Int32} {T : Int64} {S : Nat → Nat → Int32} {rd tx gv pl : Nat → Int32} (d : Nat) {n p : Nat} (hp : I 9 = nI p) (hn : I 8 = nI n) (hpn : p ≤ n) (hn8 : n ≤ 800) (he : I 10 = 0) : x_M G mX11_isName (d + 5) 0 0 [.ref 275] (mset B I T S rd tx gv pl) (x_Ret (mset B (upd I 9 (nI (l_sk tx n p))) T S rd tx gv pl) (.int (bI (l_nm tx n p)))) x_noX := by
  refine X_M hG okX11_isName rfl (L := [some (.ref 275), none]) rfl (Nat.le_of_ble_eq_true rfl) (fun ad0 nb0 => ?_)
  have hsk := l_sk_le (tx := tx) hpn
  have hwe := l_we_le (tx := tx) hpn
  refine X_ld rfl rfl rfl rfl ?_
  refine X_mcall l_X11_X11_wordEnd (c_wordEnd hG (d + 3) hp hn hpn hn8) rfl rfl rfl rfl (Nat.le_of_ble_eq_true rfl) (Nat.le_of_ble_eq_true rfl) (Nat.le_refl _) (Nat.le_of_ble_eq_true rfl) (Nat.le_of_ble_eq_true rfl) ?_
  refine X_st rfl rfl rfl ?_
  refine X_ld rfl rfl rfl rfl ?_
  refine X_get f_X11_63 rfl rfl rfl ?_
  refine X_if_ne rfl (fun c9 => absurd ((updI_ne (by decide)).trans he) c9) (fun c9 => ?_)
  refine X_ld rfl rfl rfl rfl ?_
  refine X_ld rfl rfl rfl rfl ?_
  refine X_get f_X11_69 rfl rfl rfl ?_
  refine X_icmp_le rfl (fun c17 => ?_) (fun c17 => ?_)
  · have n17 := (n_le rfl updI_eq (by omega) (by omega)).mp c17
    refine X_push (v := .int 0) rfl (by decide +kernel) ?_
    exact X_zret rfl rfl rfl ⟨rfl, by rw [bI_f (fun q => absurd q.1 (Nat.not_lt.mpr n17))]⟩ (Nat.le_of_ble_eq_true rfl) (Nat.le_of_ble_eq_true rfl)
  · have n17 := mt (n_le rfl updI_eq (by omega) (by omega)).mpr c17
    refine X_ld rfl rfl rfl rfl ?_
    refine X_ld rfl rfl rfl rfl ?_
    refine X_get f_X11_69 rfl rfl rfl ?_
    refine X_bin rfl rfl ?_
    refine X_push (v := .int 8) rfl (by decide +kernel) ?_
    refine X_icmp_gt rfl (fun c28 => ?_) (fun c28 => ?_)
    · have n28 := (n_lt (a := 8) (show (8 : Int32) = nI 8 from rfl) (m_sub (by omega) rfl updI_eq) (by omega) (by omega)).mp c28
      refine X_push (v := .int 0) rfl (by decide +kernel) ?_
      exact X_zret rfl rfl rfl ⟨rfl, by rw [bI_f (fun q => absurd q.2.1 (by omega))]⟩ (Nat.le_of_ble_eq_true rfl) (Nat.le_of_ble_eq_true rfl)
    · have n28 := mt (n_lt (a := 8) (show (8 : Int32) = nI 8 from rfl) (m_sub (by omega) rfl updI_eq) (by omega) (by omega)).mpr c28
      refine X_ld rfl rfl rfl rfl ?_
      refine X_ldcS (i := 2) hK (List.mem_of_getElem? (i := 2) rfl) (by decide) rfl ?_
      refine X_mcall l_X11_X11_isHere (c_isHereS hG hK d updI_eq ((updI_ne (by decide)).trans hn) hpn hn8 2 (by decide) ((updI_ne (by decide)).trans he)) rfl rfl rfl rfl (Nat.le_of_ble_eq_true rfl) (Nat.le_of_ble_eq_true rfl) (Nat.le_refl _) (Nat.le_of_ble_eq_true rfl) (Nat.le_of_ble_eq_true rfl) ?_
      refine X_if_ne rfl (fun c37 => ?_) (fun c37 => ?_)
      · have h37 : (l_isw tx n p (x_w 2)) = true := b2_1 c37
        refine X_push (v := .int 0) rfl (by decide +kernel) ?_
        exact X_zret rfl rfl rfl ⟨rfl, by rw [bI_f (fun q => by rw [q.2.2.1] at h37; cases h37)]⟩ (Nat.le_of_ble_eq_true rfl) (Nat.le_of_ble_eq_true rfl)
      · have h37 : (l_isw tx n p (x_w 2)) = false := b2_0 c37
        refine X_ld rfl rfl rfl rfl ?_
        refine X_ldcS (i := 3) hK (List.mem_of_getElem? (i := 3) rfl) (by decide) rfl ?_
        refine X_mcall l_X11_X11_isHere (c_isHereS hG hK d updI_eq ((updI_ne (by decide)).trans hn) hpn hn8 3 (by decide) ((updI_ne (by decide)).trans he)) rfl rfl rfl rfl (Nat.le_of_ble_eq_true rfl) (Nat.le_of_ble_eq_true rfl) (Nat.le_refl _) (Nat.le_of_ble_eq_true rfl) (Nat.le_of_ble_eq_true rfl) ?_
        refine X_if_ne rfl (fun c46 => ?_) (fun c46 => ?_)
        · have h46 : (l_isw tx n p (x_w 3)) = true := b2_1 c46
          refine X_push (v := .int 0) rfl (by decide +kernel) ?_
          exact X_zret rfl rfl rfl ⟨rfl, by rw [bI_f (fun q => by rw [q.2.2.2.1] at h46; cases h46)]⟩ (Nat.le_of_ble_eq_true rfl) (Nat.le_of_ble_eq_true rfl)
        · have h46 : (l_isw tx n p (x_w 3)) = false := b2_0 c46
          refine X_ld rfl rfl rfl rfl ?_
          refine X_ldcS (i := 4) hK (List.mem_of_getElem? (i := 4) rfl) (by decide) rfl ?_
          refine X_mcall l_X11_X11_isHere (c_isHereS hG hK d updI_eq ((updI_ne (by decide)).trans hn) hpn hn8 4 (by decide) ((updI_ne (by decide)).trans he)) rfl rfl rfl rfl (Nat.le_of_ble_eq_true rfl) (Nat.le_of_ble_eq_true rfl) (Nat.le_refl _) (Nat.le_of_ble_eq_true rfl) (Nat.le_of_ble_eq_true rfl) ?_
          refine X_if_ne rfl (fun c55 => ?_) (fun c55 => ?_)
          · have h55 : (l_isw tx n p (x_w 4)) = true := b2_1 c55
            refine X_push (v := .int 0) rfl (by decide +kernel) ?_
            exact X_zret rfl rfl rfl ⟨rfl, by rw [bI_f (fun q => by rw [q.2.2.2.2] at h55; cases h55)]⟩ (Nat.le_of_ble_eq_true rfl) (Nat.le_of_ble_eq_true rfl)
          · have h55 : (l_isw tx n p (x_w 4)) = false := b2_0 c55
            refine X_push (v := .int 1) rfl (by decide +kernel) ?_
            refine X_goto rfl ?_
            exact X_zret rfl rfl rfl ⟨rfl, by rw [bI_t ⟨Nat.not_le.mp n17, by omega, h37, h46, h55⟩]⟩ (Nat.le_of_ble_eq_true rfl) (Nat.le_of_ble_eq_true rfl)
