/-! ===== the class: estimates are the reference's; the chosen comparison ===== -/
theorem nI_ge0 {q : Nat} (h : q < 2147483648) : (0 : Int32) ≤ nI q := by
  rw [Int32.le_iff_toInt_le, nI_toInt h]
  exact Int.natCast_nonneg q
theorem nI_ne_neg {q : Nat} (h : q < 2147483648) : ¬ nI q = -1 := fun e => by
  have := nI_ge0 h
  rw [e] at this
  exact absurd this (by decide)
theorem s_wid {a b : Nat} (hab : a ≤ b) (hb : b ≤ 9999) : ¬ nI b - nI a + 1 ≤ 0 := by
  have e : nI b - nI a + 1 = nI (b - a + 1) := by rw [m_sub hab rfl rfl]; exact m_add (b := 1) rfl rfl
  rw [e]
  intro h
  have := Int32.le_iff_toInt_le.mp h
  rw [nI_toInt (by omega)] at this
  have h0 : (0 : Int32).toInt = 0 := rfl
  rw [h0] at this
  omega
theorem nI_npos {u : Nat} (h1 : 1 ≤ u) (h2 : u < 2147483648) : ¬ nI u ≤ 0 := by
  intro h
  have := Int32.le_iff_toInt_le.mp h
  rw [nI_toInt h2, show (0 : Int32).toInt = 0 from rfl] at this
  omega
/-- values that are seen, or all not seen -/
def g_ok (z : Bool) (g gv : Nat → Int32) : Prop := ∀ h, h < 4 → g h = (bif z then gv h else -1) ∧ (z = true → (0 : Int32) ≤ gv h)
theorem s_cest_est {e c g gv : Nat → Int32} {k j : Nat} {z : Bool} (hwf : s_wf e) (hc : s_cmpok e k) (hrel : s_rel e c) (hj : j < s_cm e) (hj1 : s_cod e k 1 = nI j) (hg : g_ok z g gv) : s_cest e c g k j = s_est e gv k z := by
  have hcm5 := hwf.cmE.2
  obtain ⟨q, hq40, hq⟩ := hwf.seen
  have hq8 : c 8 = nI q := hrel.1.2.2.symm.trans hq
  obtain ⟨-, -, ⟨u, hu40, hu, hu1⟩, a, b, hab, hb, ha, hb'⟩ := hwf.col j hj
  have r10 : s_col c j 10 = nI u := (hrel.2.1 j hj 10 (by omega) (by omega)).symm.trans hu
  have r11 : s_col c j 11 = nI a := (hrel.2.1 j hj 11 (by omega) (by omega)).symm.trans ha
  have r12 : s_col c j 12 = nI b := (hrel.2.1 j hj 12 (by omega) (by omega)).symm.trans hb'
  have ej : (s_cod e k 1).toNatClampNeg = j := n_of hj1 (by omega)
  unfold s_est
  rw [ej]
  unfold s_est0 s_cest
  by_cases h0 : q = 0
  · subst h0
    rw [if_pos (by rw [hq8]; decide), if_pos (by rw [hq]; rfl)]
  · have hn0 : ¬ e 8 = 0 := fun h => h0 ((nI_eq (by omega) (by omega)).mp (hq.symm.trans h))
    have hu2 := hu1 hn0
    rw [if_neg (by rw [hq8]; exact nI_npos (by omega) (by omega)), if_neg hn0]
    have seen : ∀ v : Int32, ¬ v = -1 → (if s_cod e k 2 = 61 then s_ee c j v else if v = -1 then (c 8 + 2) / 3 else if s_col c j 12 - s_col c j 11 + 1 ≤ 0 then 0 else x_max 0 (x_min (c 8 * (if s_cod e k 2 = 60 then v - s_col c j 11 else s_col c j 12 - v) / (s_col c j 12 - s_col c j 11 + 1)) (c 8))) = s_seen e k j v := by
      intro v hv
      unfold s_seen
      by_cases h61 : s_cod e k 2 = 61
      · rw [if_pos h61, if_pos h61]
        unfold s_ee
        rw [ha, hb', hu, hq, r10, r11, r12, hq8]
        by_cases c1 : v < nI a
        · rw [if_pos c1, if_pos ⟨hv, Or.inl c1⟩]
        · rw [if_neg c1]
          by_cases c2 : nI b < v
          · rw [if_pos c2, if_pos ⟨hv, Or.inr c2⟩]
          · rw [if_neg c2, if_neg (fun h => h.2.elim c1 c2), if_neg (nI_npos hu2 (by omega))]
      · rw [if_neg h61, if_neg h61, if_neg hv, ha, hb', hq, r11, r12, hq8, if_neg (s_wid hab hb), x_min_comm]
    by_cases h2 : s_cod e k 3 = 2
    · rw [if_pos h2]
      obtain ⟨h, hh, hh2⟩ : ∃ h, h < 4 ∧ s_cod e k 4 = nI h := by
        rcases hc.2.2 with y | y | y
        · rw [y.1] at h2; exact absurd h2 (by decide)
        · rw [y.1] at h2; exact absurd h2 (by decide)
        · exact y.2
      have eh : (s_cod e k 4).toNatClampNeg = h := n_of hh2 (by omega)
      have ev : s_vw e g k = g h := by
        unfold s_vw
        rw [if_pos h2]
        exact congrArg g eh
      rw [ev, eh, (hg h hh).1]
      cases z with
      | true =>
        exact seen (gv h) (fun q => by have := (hg h hh).2 rfl; rw [q] at this; exact absurd this (by decide))
      | false =>
        show (if s_cod e k 2 = 61 then s_ee c j (-1) else if (-1 : Int32) = -1 then (c 8 + 2) / 3 else _) = (if s_cod e k 2 = 61 then s_up (e 8) (s_col e j 10) else (e 8 + 2) / 3)
        by_cases h61 : s_cod e k 2 = 61
        · rw [if_pos h61, if_pos h61]
          unfold s_ee
          rw [if_neg (fun h => h.1 rfl), r10, hu, hq, hq8, if_neg (nI_npos hu2 (by omega))]
        · rw [if_neg h61, if_neg h61, if_pos rfl, hq, hq8]
    · rw [if_neg h2]
      have ev : s_vw e g k = s_cod e k 4 := by
        unfold s_vw
        rw [if_neg h2]
      rw [ev]
      refine seen _ ?_
      rcases hc.2.2 with ⟨-, v, hv, y⟩ | ⟨-, v, hv, y⟩ | y
      · rw [y]; exact nI_ne_neg (by omega)
      · rw [y]; exact nI_ne_neg (by omega)
      · exact absurd y.1 h2
/-- is code k a comparison that a plan may use -/
def s_pln (e : Nat → Int32) (k : Nat) : Prop := s_cod e k 0 = 0 ∧ s_cod e k 5 = 1
/-- how many of the m codes from f are -/
def s_cn (e : Nat → Int32) (f : Nat) : Nat → Nat
  | 0 => 0
  | m + 1 => s_cn e f m + (if s_cod e (f + m) 0 = 0 ∧ s_cod e (f + m) 5 = 1 then 1 else 0)
theorem s_cn_y {e : Nat → Int32} {f m : Nat} (h : s_pln e (f + m)) : s_cn e f (m + 1) = s_cn e f m + 1 := congrArg (s_cn e f m + ·) (if_pos h)
theorem s_cn_n {e : Nat → Int32} {f m : Nat} (h : ¬ s_pln e (f + m)) : s_cn e f (m + 1) = s_cn e f m := congrArg (s_cn e f m + ·) (if_neg h)
theorem s_pick_n {e gv : Nat → Int32} {col b : Int32} {z : Bool} {k : Nat} (h : ¬ s_pln e k) : s_pick e gv col z k b = b := by
  unfold s_pick
  by_cases h0 : s_cod e k 0 = 0
  · rw [if_pos h0]
    by_cases h5 : s_cod e k 5 = 1
    · exact absurd ⟨h0, h5⟩ h
    · rw [if_neg h5]
  · rw [if_neg h0]
/-- the next one that is -/
theorem s_cn_next {e gv : Nat → Int32} {col : Int32} {z : Bool} {f j : Nat} : ∀ (r m : Nat), s_cn e f m = j → j < s_cn e f (m + r) → ∃ m2, m ≤ m2 ∧ m2 < m + r ∧ s_pln e (f + m2) ∧ s_cn e f m2 = j ∧ s_chos e gv col z f m2 = s_chos e gv col z f m
  | 0, m, h1, h2 => by rw [Nat.add_zero, h1] at h2; exact absurd h2 (Nat.lt_irrefl _)
  | r + 1, m, h1, h2 => by
    by_cases hp : s_pln e (f + m)
    · exact ⟨m, Nat.le_refl _, by omega, hp, h1, rfl⟩
    · obtain ⟨m2, a1, a2, a3, a4, a5⟩ := s_cn_next (gv := gv) (col := col) (z := z) r (m + 1) ((s_cn_n hp).trans h1) (by rw [show m + 1 + r = m + (r + 1) by omega]; exact h2)
      exact ⟨m2, by omega, by omega, a3, a4, a5.trans (s_pick_n hp)⟩
theorem s_cn_same {e gv : Nat → Int32} {col : Int32} {z : Bool} {f : Nat} : ∀ (r m : Nat), s_cn e f m = s_cn e f (m + r) → s_chos e gv col z f (m + r) = s_chos e gv col z f m
  | 0, m, _ => rfl
  | r + 1, m, h => by
    have hm : ∀ a b, s_cn e f a ≤ s_cn e f (a + b) := fun a b => by
      induction b with
      | zero => exact Nat.le_refl _
      | succ b ih => exact Nat.le_trans ih (Nat.le_add_right _ _)
    by_cases hp : s_pln e (f + m)
    · have h1 := s_cn_y hp
      have h2 := hm (m + 1) r
      rw [show m + 1 + r = m + (r + 1) by omega] at h2
      omega
    · have h1 := s_cn_same (gv := gv) (col := col) (z := z) r (m + 1) ((s_cn_n hp).trans (h.trans (by rw [show m + 1 + r = m + (r + 1) by omega])))
      rw [show m + (r + 1) = m + 1 + r by omega, h1]
      exact s_pick_n hp

