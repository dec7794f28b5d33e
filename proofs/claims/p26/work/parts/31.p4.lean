/-! ===== the reference's reader: comparisons ===== -/
section MCALLR
variable {G : XE} {M Mc : XMI} {d mc ms nb0 : Nat} {ad0 : Nat → Nat} {Qn : XH → Option Value → Prop} {Qx : XH → String → Prop} {B N N1 : XH} {I : Nat → Int32} {T : Int64} {S : Nat → Nat → Int32} {rd tx gv pl : Nat → Int32} {cells slots pc pc' t : Nat} {L : List (Option Value)}
end MCALLR
/-- what a reading step comes to: an error and its place, or more -/
abbrev LE (α : Type) : Type := (Int32 × Nat) ⊕ α
abbrev LR : Type := LE (Nat × (Nat → Int32))
def l_bi {α β : Type} (R : LE α) (g : α → LE β) : LE β := match R with
  | .inl e => .inl e
  | .inr x => g x
theorem l_bi_er {α β : Type} {R : LE α} {g : α → LE β} {e : Int32 × Nat} (h : R = .inl e) : l_bi R g = .inl e := by rw [h]; rfl
theorem l_bi_ok {α β : Type} {R : LE α} {g : α → LE β} {x : α} (h : R = .inr x) : l_bi R g = g x := by rw [h]; rfl
theorem l_bi_inr {α β : Type} {R : LE α} {g : α → LE β} {y : β} (h : l_bi R g = .inr y) : ∃ x, R = .inr x ∧ g x = .inr y := by
  cases R with
  | inl e => cases h
  | inr x => exact ⟨x, rfl, h⟩
section
variable {I I1 J : Nat → Int32} {p q n a : Nat} {e : Int32}
end
theorem l_see_lt {tx : Nat → Int32} {n p : Nat} (h : ¬ l_see tx n p = -1) : l_sk tx n p < n := by
  by_cases h1 : l_sk tx n p < n
  · exact h1
  · exact absurd (if_neg h1) h
theorem l_see_at {tx : Nat → Int32} {n p : Nat} (h : l_sk tx n p < n) : l_see tx n p = tx (l_sk tx n p) := if_pos h
theorem l_reads_ok {tx : Nat → Int32} {n p q : Nat} {most v : Int32} (h : l_reads tx n p most = .inr (q, v)) (hpn : p ≤ n) : (l_sk tx n p < q ∧ q ≤ n) ∧ (0 : Int32) ≤ v ∧ v ≤ most := by
  unfold l_reads at h
  by_cases h1 : (48 : Int32) ≤ l_see tx n p ∧ l_see tx n p ≤ 57
  · rw [if_pos h1] at h
    by_cases h2 : (0 : Int32) ≤ l_num tx n p ∧ l_num tx n p ≤ most
    · rw [if_pos h2] at h
      cases h
      have h3 : l_sk tx n p < n := l_see_lt fun e => by rw [e] at h1; exact absurd h1.1 (by decide)
      have h4 : l_de tx n p = l_run l_dg tx n (l_sk tx n p + 1) := l_run_y (P := l_dg) h3 (decide_eq_true (by rw [← l_see_at h3]; exact h1))
      have h5 := l_run_le (P := l_dg) (tx := tx) (n := n) (p := l_sk tx n p + 1) h3
      rw [← h4] at h5
      exact ⟨⟨by omega, h5.2⟩, h2⟩
    · rw [if_neg h2] at h; cases h
  · rw [if_neg h1] at h; cases h
theorem l_known_ok {rd tx : Nat → Int32} {n p m q : Nat} {v : Int32} (h : l_known rd tx n p m = .inr (q, v)) (hpn : p ≤ n) (hm : m < 1000) : (l_sk tx n p < q ∧ q ≤ n) ∧ ∃ j, j < m ∧ v = nI j := by
  unfold l_known at h
  have hwe := l_we_le (tx := tx) hpn
  by_cases h1 : l_nm tx n p
  · rw [if_pos h1] at h
    by_cases h2 : s_sk rd tx 10 13 m (l_sk tx n p) (l_we tx n p) = -1
    · rw [if_pos h2] at h; cases h
    · rw [if_neg h2] at h
      cases h
      refine ⟨⟨h1.1, hwe.2⟩, ?_⟩
      rcases s_first_ok (P := fun t => s_eqn rd tx (10 + 13 * t) (l_sk tx n p) (l_we tx n p) 8) m (by omega) with h3 | ⟨j, h3, h4, -⟩
      · exact absurd h3.1 h2
      · exact ⟨j, h3, h4⟩
  · rw [if_neg h1] at h; cases h
/-- behind the ? at p: a hole that is compared with type t, of statement w -/
def l_holeH (rd tx : Nat → Int32) (n w p : Nat) (t : Int32) : LE (Nat × Int32 × (Nat → Int32)) :=
  l_bi (l_reads tx n (p + 1) 3) fun x => if ¬ rd (275 + 30 * w + (17 + n_ x.2)) = -1 ∧ ¬ rd (275 + 30 * w + (17 + n_ x.2)) = t then .inl (-6, p) else .inr (x.1, x.2, upd rd (275 + 30 * w + (17 + n_ x.2)) t)
def l_colH (rd tx : Nat → Int32) (n m p : Nat) (t : Int32) : LE (Nat × Int32) :=
  l_bi (l_known rd tx n p m) fun x => if rd (10 + 13 * n_ x.2 + 8) = t then .inr x else .inl (-6, l_sk tx n p)
/-- what stands behind the sign: its kind, where it ends, the operand -/
def l_opd (tx : Nat → Int32) (n m w p : Nat) (t : Int32) (rd : Nat → Int32) : LE (Int32 × Nat × Int32 × (Nat → Int32)) :=
  if (48 : Int32) ≤ l_see tx n p ∧ l_see tx n p ≤ 57 then l_bi (l_reads tx n (l_sk tx n p) (s_most t)) fun x => .inr (0, x.1, x.2, rd)
  else if l_see tx n p = 63 then l_bi (l_holeH rd tx n w (l_sk tx n p) t) fun x => .inr (2, x.1, x.2.1, x.2.2)
  else l_bi (l_colH rd tx n m (l_sk tx n p) t) fun x => .inr (1, x.1, x.2, rd)
def s_cmpc (rd : Nat → Int32) (k : Nat) (z : Bool) (c sg kd wi : Int32) : Nat → Int32 :=
  upd (upd (upd (upd (s_code rd k 0 (if z = true ∧ ¬ kd = 1 then 1 else 0)) (455 + 6 * k + 1) c) (455 + 6 * k + 2) sg) (455 + 6 * k + 3) kd) (455 + 6 * k + 4) wi
def l_cmp (tx : Nat → Int32) (n m w k : Nat) (z : Bool) (p : Nat) (rd : Nat → Int32) : LR :=
  l_bi (l_known rd tx n p m) fun x => if l_see tx n x.1 = 60 ∨ l_see tx n x.1 = 61 ∨ l_see tx n x.1 = 62 then
    l_bi (l_opd tx n m w (l_sk tx n x.1 + 1) (rd (10 + 13 * n_ x.2 + 8)) rd) fun y => .inr (y.2.1, s_cmpc y.2.2.2 k z x.2 (l_see tx n x.1) y.1 y.2.2.1)
  else .inl (-2, l_sk tx n x.1)
section
variable {B : XH} {T : Int64} {S : Nat → Nat → Int32} {rd rd1 tx gv pl I J : Nat → Int32} {p n q a a0 k : Nat} {e v : Int32}
end
theorem l_sk_lt3 {tx : Nat → Int32} {n p : Nat} (h : l_see tx n p = 63) : l_sk tx n p < n := l_see_lt (by rw [h]; decide)
