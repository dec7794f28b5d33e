/-! ===== the reference's reader: what it sees ===== -/
/-- the end of the run of bytes that satisfy P, from p -/
def l_runf (P : Int32 → Bool) (tx : Nat → Int32) : Nat → Nat → Nat
  | 0, p => p
  | f + 1, p => bif P (tx p) then l_runf P tx f (p + 1) else p
def l_run (P : Int32 → Bool) (tx : Nat → Int32) (n p : Nat) : Nat := l_runf P tx (n - p) p
section
variable {P : Int32 → Bool} {tx : Nat → Int32} {n p : Nat}
theorem l_run_ge (h : n ≤ p) : l_run P tx n p = p := by
  unfold l_run
  rw [show n - p = 0 by omega]
  rfl
theorem l_run_lt (h : p < n) : l_run P tx n p = bif P (tx p) then l_run P tx n (p + 1) else p := by
  unfold l_run
  rw [show n - p = (n - (p + 1)) + 1 by omega]
  rfl
theorem l_run_y (h : p < n) (hP : P (tx p) = true) : l_run P tx n p = l_run P tx n (p + 1) := by rw [l_run_lt h, hP]; rfl
theorem l_run_n (h : p < n) (hP : P (tx p) = false) : l_run P tx n p = p := by rw [l_run_lt h, hP]; rfl
theorem l_runf_le : ∀ f p, p ≤ l_runf P tx f p ∧ l_runf P tx f p ≤ p + f
  | 0, p => ⟨Nat.le_refl _, Nat.le_refl _⟩
  | f + 1, p => by
    have h := l_runf_le f (p + 1)
    show p ≤ (bif P (tx p) then l_runf P tx f (p + 1) else p) ∧ (bif P (tx p) then l_runf P tx f (p + 1) else p) ≤ p + (f + 1)
    cases P (tx p) with
    | true => exact ⟨by show p ≤ l_runf P tx f (p + 1); omega, by show l_runf P tx f (p + 1) ≤ _; omega⟩
    | false => exact ⟨Nat.le_refl _, by show p ≤ _; omega⟩
theorem l_run_le (h : p ≤ n) : p ≤ l_run P tx n p ∧ l_run P tx n p ≤ n := by
  have h1 := l_runf_le (P := P) (tx := tx) (n - p) p
  unfold l_run
  omega
theorem l_runf_in : ∀ f p j, p ≤ j → j < l_runf P tx f p → P (tx j) = true
  | 0, p, j, h1, h2 => absurd (show j < p from h2) (by omega)
  | f + 1, p, j, h1, h2 => by
    change j < (bif P (tx p) then l_runf P tx f (p + 1) else p) at h2
    cases hP : P (tx p) with
    | true =>
      rw [hP] at h2
      by_cases e : j = p
      · rw [e]; exact hP
      · exact l_runf_in f (p + 1) j (by omega) h2
    | false => rw [hP] at h2; exact absurd (show j < p from h2) (by omega)
theorem l_run_in {j : Nat} (h1 : p ≤ j) (h2 : j < l_run P tx n p) : P (tx j) = true := l_runf_in _ _ _ h1 h2
theorem l_runf_out : ∀ f p, l_runf P tx f p < p + f → P (tx (l_runf P tx f p)) = false
  | 0, p, h => absurd h (Nat.lt_irrefl _)
  | f + 1, p, h => by
    change (bif P (tx p) then l_runf P tx f (p + 1) else p) < p + (f + 1) at h
    show P (tx (bif P (tx p) then l_runf P tx f (p + 1) else p)) = false
    cases hP : P (tx p) with
    | true => rw [hP] at h; exact l_runf_out f (p + 1) (by have h2 : l_runf P tx f (p + 1) < p + (f + 1) := h; omega)
    | false => exact hP
theorem l_run_out (h : l_run P tx n p < n) (hp : p ≤ n) : P (tx (l_run P tx n p)) = false := l_runf_out _ _ (by unfold l_run at h; omega)
end
def l_sp (c : Int32) : Bool := decide (c = 32)
def l_lt (c : Int32) : Bool := decide (s_let c)
def l_dg (c : Int32) : Bool := decide ((48 : Int32) ≤ c ∧ c ≤ 57)
/-- behind the spaces -/
def l_sk (tx : Nat → Int32) (n p : Nat) : Nat := l_run l_sp tx n p
/-- behind the letters that follow -/
def l_we (tx : Nat → Int32) (n p : Nat) : Nat := l_run l_lt tx n (l_sk tx n p)
def l_see (tx : Nat → Int32) (n p : Nat) : Int32 := if l_sk tx n p < n then tx (l_sk tx n p) else -1
theorem l_sk_le {tx : Nat → Int32} {n p : Nat} (h : p ≤ n) : p ≤ l_sk tx n p ∧ l_sk tx n p ≤ n := l_run_le h
theorem l_sk_sk {tx : Nat → Int32} {n p : Nat} (h : p ≤ n) : l_sk tx n (l_sk tx n p) = l_sk tx n p := by
  have h1 := l_sk_le (tx := tx) h
  by_cases e : l_sk tx n p < n
  · exact l_run_n e (l_run_out e h)
  · exact l_run_ge (by omega)
theorem l_we_sk {tx : Nat → Int32} {n p : Nat} (h : p ≤ n) : l_we tx n (l_sk tx n p) = l_we tx n p := by unfold l_we; rw [l_sk_sk h]
theorem l_see_sk {tx : Nat → Int32} {n p : Nat} (h : p ≤ n) : l_see tx n (l_sk tx n p) = l_see tx n p := by unfold l_see; rw [l_sk_sk h]
theorem l_we_le {tx : Nat → Int32} {n p : Nat} (h : p ≤ n) : l_sk tx n p ≤ l_we tx n p ∧ l_we tx n p ≤ n := l_run_le (l_sk_le h).2
/-- do the first k bytes from q agree with the word, if D -/
def l_eqg (D : Bool) (tx : Nat → Int32) (q : Nat) (w : List Int32) : Nat → Bool
  | 0 => D
  | k + 1 => l_eqg D tx q w k && decide (tx (q + k) = w.getD k 0)
theorem l_eqg_f {D : Bool} {tx : Nat → Int32} {q : Nat} {w : List Int32} : ∀ m k, l_eqg D tx q w k = false → k ≤ m → l_eqg D tx q w m = false
  | 0, k, h, hk => by
    obtain rfl : k = 0 := by omega
    exact h
  | m + 1, k, h, hk => by
    by_cases e : k = m + 1
    · rw [← e]; exact h
    · show (l_eqg D tx q w m && _) = false
      rw [l_eqg_f m k h (by omega)]
      rfl
theorem l_eqg_D {D : Bool} {tx : Nat → Int32} {q : Nat} {w : List Int32} {k : Nat} (h : l_eqg D tx q w k = true) : D = true := by
  cases D with
  | true => rfl
  | false => rw [l_eqg_f (D := false) k 0 rfl (Nat.zero_le _)] at h; cases h
/-- is the word here -/
def l_isw (tx : Nat → Int32) (n p : Nat) (w : List Int32) : Bool := l_eqg (decide (l_we tx n p = l_sk tx n p + w.length)) tx (l_sk tx n p) w w.length
theorem l_isw_we {tx : Nat → Int32} {n p : Nat} {w : List Int32} (h : l_isw tx n p w = true) : l_we tx n p = l_sk tx n p + w.length := of_decide_eq_true (l_eqg_D h)
theorem l_isw_sk {tx : Nat → Int32} {n p : Nat} {w : List Int32} (h : p ≤ n) : l_isw tx n (l_sk tx n p) w = l_isw tx n p w := by unfold l_isw; rw [l_sk_sk h, l_we_sk h]
def l_tk (tx : Nat → Int32) (n p : Nat) (w : List Int32) : Nat := bif l_isw tx n p w then l_sk tx n p + w.length else l_sk tx n p
theorem l_tk_le {tx : Nat → Int32} {n p : Nat} {w : List Int32} (h : p ≤ n) : l_sk tx n p ≤ l_tk tx n p w ∧ l_tk tx n p w ≤ n := by
  have h1 := l_sk_le (tx := tx) h
  have h2 := l_we_le (tx := tx) h
  unfold l_tk
  cases hw : l_isw tx n p w with
  | true =>
    have h3 := l_isw_we hw
    exact ⟨Nat.le_add_right _ _, by show l_sk tx n p + w.length ≤ n; omega⟩
  | false => exact ⟨Nat.le_refl _, h1.2⟩
/-- is a name here -/
abbrev l_nm (tx : Nat → Int32) (n p : Nat) : Prop := l_sk tx n p < l_we tx n p ∧ l_we tx n p ≤ l_sk tx n p + 8 ∧ l_isw tx n p (x_w 2) = false ∧ l_isw tx n p (x_w 3) = false ∧ l_isw tx n p (x_w 4) = false
