/-! ===== the reference's reader: its lines ===== -/
theorem s_nmi_ne {rd tx : Nat → Int32} {a e b j : Nat} : ∀ k, (j < b ∨ b + k ≤ j) → s_nmi rd tx a e b k j = rd j
  | 0, _ => rfl
  | k + 1, h => by
    show upd (s_nmi rd tx a e b k) (b + k) (s_ltr tx a e k) j = rd j
    rw [updI_ne (by omega)]
    exact s_nmi_ne k (by omega)
theorem l_fresh_ok {rd tx rd1 : Nat → Int32} {n p f g m q : Nat} (h : l_fresh rd tx n p f g m = .inr (q, rd1)) (hpn : p ≤ n) : (l_sk tx n p < q ∧ q ≤ n) ∧ ∀ j, (j < f + g * m ∨ f + g * m + 8 ≤ j) → rd1 j = rd j := by
  unfold l_fresh at h
  have hwe := l_we_le (tx := tx) hpn
  by_cases h1 : l_nm tx n p
  · rw [if_pos h1] at h
    by_cases h2 : s_sk rd tx f g m (l_sk tx n p) (l_we tx n p) = -1
    · rw [if_pos h2] at h
      cases h
      exact ⟨⟨h1.1, hwe.2⟩, fun j hj => s_nmi_ne 8 hj⟩
    · rw [if_neg h2] at h; cases h
  · rw [if_neg h1] at h; cases h
/-- the sign wanted here, and what is read then -/
def l_want (tx : Nat → Int32) (n : Nat) (sg : Int32) (p : Nat) (rd : Nat → Int32) : LR := if l_see tx n p = sg then .inr (l_sk tx n p + 1, rd) else .inl (-2, l_sk tx n p)
theorem l_want_ok {tx : Nat → Int32} {n p q : Nat} {sg : Int32} {rd rd1 : Nat → Int32} (h : l_want tx n sg p rd = .inr (q, rd1)) (hs : ¬ sg = -1) (hpn : p ≤ n) : (p < q ∧ q ≤ n) ∧ rd1 = rd := by
  unfold l_want at h
  have h1 := l_sk_le (tx := tx) hpn
  by_cases hc : l_see tx n p = sg
  · rw [if_pos hc] at h
    cases h
    have h2 := l_see_lt (tx := tx) (n := n) (p := p) (by rw [hc]; exact hs)
    exact ⟨by omega, rfl⟩
  · rw [if_neg hc] at h; cases h
def l_type (tx : Nat → Int32) (n q : Nat) : LE (Nat × Int32) :=
  if l_isw tx n q (x_w 5) = true then .inr (l_tk tx n q (x_w 5), 0) else if l_isw tx n q (x_w 6) = true then .inr (l_tk tx n q (x_w 6), 1) else if l_isw tx n q (x_w 7) = true then .inr (l_tk tx n q (x_w 7), 2) else .inl (-2, l_sk tx n q)
def l_colLine (tx : Nat → Int32) (n m at_ p : Nat) (rd : Nat → Int32) : LR :=
  if m = 5 then .inl (-7, at_) else l_bi (l_fresh rd tx n p 10 13 m) fun x => l_bi (l_type tx n x.1) fun y => l_want tx n 59 y.1 (upd (upd x.2 (10 + 13 * m + 8) y.2) 0 (nI (m + 1)))
def l_idxLine (tx : Nat → Int32) (n m p : Nat) (rd : Nat → Int32) : LR :=
  l_bi (l_known rd tx n p m) fun x => if rd (10 + 13 * n_ x.2 + 9) = 1 then .inl (-5, l_sk tx n p) else l_want tx n 59 x.1 (upd rd (10 + 13 * n_ x.2 + 9) 1)
/-- the numbers of row l, from column c on: r of them -/
def l_vals (tx : Nat → Int32) (n l : Nat) : Nat → Nat → Nat → (Nat → Int32) → LR
  | 0, _, p, rd => .inr (p, rd)
  | r + 1, c, p, rd => l_bi (l_reads tx n p (s_most (rd (10 + 13 * c + 8)))) fun x => l_vals tx n l r (c + 1) x.1 (upd rd (75 + 5 * l + c) x.2)
def l_rowLine (tx : Nat → Int32) (n m l at_ p : Nat) (rd : Nat → Int32) : LR :=
  if m = 0 then .inl (-2, at_) else if l = 40 then .inl (-7, at_) else l_bi (l_vals tx n l m 0 p rd) fun x => l_want tx n 59 x.1 (upd x.2 1 (nI (l + 1)))
def s_p4 (rd : Nat → Int32) (s : Nat) : Nat → Nat → Int32
  | 0 => rd
  | h + 1 => upd (s_p4 rd s h) (275 + 30 * s + (17 + h)) (-1)
def s_p5 (rd : Nat → Int32) (s : Nat) : Nat → Nat → Int32
  | 0 => rd
  | c + 1 => upd (s_p5 rd s c) (275 + 30 * s + (21 + c)) 100
/-- a new statement's numbers -/
def s_prep (rd : Nat → Int32) (s : Nat) : Nat → Int32 := upd (upd (s_p5 (s_p4 rd s 4) s 5) (275 + 30 * s + 14) (-2)) (275 + 30 * s + 26) (rd 9)
def l_prepLine (tx : Nat → Int32) (n m s at_ p : Nat) (rd : Nat → Int32) : LR :=
  if s = 6 then .inl (-7, at_) else l_bi (l_fresh rd tx n p 275 30 s) fun x => l_bi (l_prs tx n m s (8 * (n - x.1) + 3) 3 true 0 0 x.1 (s_prep x.2 s)) fun y => l_want tx n 59 y.1 (upd (upd y.2 (275 + 30 * s + 27) (y.2 9)) 2 (nI (s + 1)))
def l_costLine (tx : Nat → Int32) (n p : Nat) (rd : Nat → Int32) : LR :=
  l_bi (l_reads tx n p 99) fun a => l_bi (l_reads tx n a.1 99) fun b => l_bi (l_reads tx n b.1 99) fun c => l_want tx n 59 c.1 (upd (upd (upd rd 4 a.2) 5 b.2) 6 c.2)
def l_triesLine (tx : Nat → Int32) (n p : Nat) (rd : Nat → Int32) : LR := l_bi (l_reads tx n p 99) fun a => l_want tx n 59 a.1 (upd rd 7 a.2)
section
variable {B : XH} {T : Int64} {S : Nat → Nat → Int32} {rd rd1 tx gv pl I J : Nat → Int32} {p n q a : Nat} {e : Int32}
end
