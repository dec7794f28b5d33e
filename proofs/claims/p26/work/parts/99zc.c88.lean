/-! ===== what a text that is read leaves: all of it ===== -/
theorem l_rep_P {tx : Nat → Int32} {n w : Nat} {g : Nat → Nat → (Nat → Int32) → LR} {Q : (Nat → Int32) → Prop} (hg : ∀ (a p : Nat) (rd rd1 : Nat → Int32) (q : Nat), s_iv n p rd → Q rd → g a p rd = .inr (q, rd1) → s_iv n q rd1 ∧ Q rd1) : ∀ (f p : Nat) (rd rd1 : Nat → Int32) (q : Nat), s_iv n p rd → Q rd → l_rep tx n w g f p rd = .inr (q, rd1) → s_iv n q rd1 ∧ Q rd1
  | 0, p, rd, rd1, q, hv, hQ, h => by cases h
  | f + 1, p, rd, rd1, q, hv, hQ, h => by
    change (if l_isw tx n p (x_w w) = true then l_bi (g (l_sk tx n p) (l_tk tx n p (x_w w)) rd) (fun x => l_rep tx n w g f x.1 x.2) else (.inr (l_sk tx n p, rd) : LR)) = .inr (q, rd1) at h
    by_cases hw : l_isw tx n p (x_w w) = true
    · rw [if_pos hw] at h
      obtain ⟨x, h1, h2⟩ := l_bi_inr h
      obtain ⟨g1, g2⟩ := hg _ _ _ x.2 x.1 (s_iv_tk hv) hQ h1
      exact l_rep_P hg f _ _ _ _ g1 g2 h2
    · rw [if_neg hw] at h
      cases h
      exact ⟨s_iv_sk hv, hQ⟩
theorem l_col_ty {tx rd rd1 : Nat → Int32} {n m a p q : Nat} (hp : p ≤ n) (h : l_colLine tx n m a p rd = .inr (q, rd1)) : rd1 (10 + 13 * m + 8) = 0 ∨ rd1 (10 + 13 * m + 8) = 1 ∨ rd1 (10 + 13 * m + 8) = 2 := by
  unfold l_colLine at h
  by_cases e : m = 5
  · rw [if_pos e] at h; cases h
  · rw [if_neg e] at h
    obtain ⟨x, h1, h2⟩ := l_bi_inr h
    obtain ⟨y, h3, h4⟩ := l_bi_inr h2
    obtain ⟨g1, g2⟩ := l_fresh_ok h1 hp
    obtain ⟨-, v1⟩ := l_type_ok (y := y.1) (ty := y.2) h3 g1.2
    rw [l_want_rd h4, updI_ne (by omega), updI_eq]
    exact v1
def s_q1 (rd : Nat → Int32) : Prop := (∀ j, ((1 ≤ j ∧ j < 9) ∨ 75 ≤ j) → rd j = s_pl j) ∧ s_ctyp rd (s_cm rd)
theorem s_q1_col {tx rd rd1 : Nat → Int32} {n a p q : Nat} (hv : s_iv n p rd) (hQ : s_q1 rd) (h : g_col tx n a p rd = .inr (q, rd1)) : s_q1 rd1 := by
  obtain ⟨h1, ⟨m, hm, h2⟩, -⟩ := hv
  have em : s_cm rd = m := n_of h2 (by omega)
  unfold g_col at h
  rw [show n_ (rd 0) = m from em] at h
  have ht := l_col_ty h1 h
  obtain ⟨i1, i2, i3, -⟩ := l_col_inv hm h1 h
  have em1 : s_cm rd1 = m + 1 := n_of i2 (by omega)
  refine ⟨fun j hj => (i3 j (by omega) (by omega)).trans (hQ.1 j hj), fun j hj => ?_⟩
  rw [em1] at hj
  by_cases e : j = m
  · rw [e]; exact ht
  · rw [i3 _ (by omega) (by omega)]
    exact hQ.2 j (by omega)
theorem s_q1_idx {tx rd rd1 : Nat → Int32} {n a p q : Nat} (hv : s_iv n p rd) (hQ : s_q1 rd) (h : g_idx tx n a p rd = .inr (q, rd1)) : s_q1 rd1 := by
  obtain ⟨h1, ⟨m, hm, h2⟩, -⟩ := hv
  have em : s_cm rd = m := n_of h2 (by omega)
  unfold g_idx at h
  rw [show n_ (rd 0) = m from em] at h
  obtain ⟨j0, i1, -, i3, -⟩ := l_idx_inv hm h1 h
  have em1 : s_cm rd1 = m := by unfold s_cm; rw [i3, updI_ne (by omega)]; exact em
  refine ⟨fun j hj => by rw [i3, updI_ne (by omega)]; exact hQ.1 j hj, fun j hj => ?_⟩
  rw [i3, updI_ne (by omega)]
  exact hQ.2 j (by omega)
theorem l_vals_b {tx : Nat → Int32} {n l : Nat} : ∀ (r c p : Nat) (rd rd1 : Nat → Int32) (q : Nat), p ≤ n → l_vals tx n l r c p rd = .inr (q, rd1) → (∀ j, j < 75 + 5 * l + c → rd1 j = rd j) ∧ ∀ b, c ≤ b → b < c + r → ∃ v, v ≤ 9999 ∧ rd1 (75 + 5 * l + b) = nI v
  | 0, c, p, rd, rd1, q, hp, h => by cases h; exact ⟨fun _ _ => rfl, fun b h1 h2 => absurd h2 (by omega)⟩
  | r + 1, c, p, rd, rd1, q, hp, h => by
    obtain ⟨x, h1, h2⟩ := l_bi_inr h
    obtain ⟨g1, g2, g3⟩ := l_reads_ok (q := x.1) (v := x.2) h1 hp
    obtain ⟨i1, i2⟩ := l_vals_b r (c + 1) _ _ _ _ g1.2 h2
    refine ⟨fun j hj => (i1 j (by omega)).trans (updI_ne (by omega)), fun b b1 b2 => ?_⟩
    by_cases e : b = c
    · obtain ⟨v, v1, v2⟩ := m_rngc (m := 9999) (show (9999 : Int32) = nI 9999 from rfl) (by decide) ⟨g2, Int32.le_trans g3 (s_most_le _)⟩
      exact ⟨v, v1, by rw [e, i1 _ (by omega), updI_eq]; exact v2⟩
    · exact i2 b (by omega) (by omega)
def s_vals (rd : Nat → Int32) : Prop := ∀ l, l < s_lm rd → ∀ j, j < s_cm rd → ∃ v, v ≤ 9999 ∧ rd (75 + 5 * l + j) = nI v
def s_q3 (r0 rd : Nat → Int32) : Prop := (∀ j, j ≠ 1 → (j < 75 ∨ 275 ≤ j) → rd j = r0 j) ∧ s_vals rd
theorem s_q3_row {tx r0 rd rd1 : Nat → Int32} {n a p q : Nat} (hv : s_iv n p rd) (hQ : s_q3 r0 rd) (h : g_row tx n a p rd = .inr (q, rd1)) : s_q3 r0 rd1 := by
  obtain ⟨h1, ⟨m, hm, h2⟩, ⟨l, hl, h3⟩, -⟩ := hv
  have em : s_cm rd = m := n_of h2 (by omega)
  have el : s_lm rd = l := n_of h3 (by omega)
  unfold g_row at h
  rw [show n_ (rd 0) = m from em, show n_ (rd 1) = l from el] at h
  obtain ⟨i1, i2, i3, -⟩ := l_row_inv hm hl h1 h
  have el1 : s_lm rd1 = l + 1 := n_of i2 (by omega)
  have em1 : s_cm rd1 = m := by unfold s_cm; rw [i3 0 (by omega) (by omega)]; exact em
  refine ⟨fun j j1 j2 => (i3 j j1 (by omega)).trans (hQ.1 j j1 j2), fun k hk j hj => ?_⟩
  rw [el1] at hk
  rw [em1] at hj
  by_cases e : k = l
  · subst e
    unfold l_rowLine at h
    rw [if_neg (by omega), if_neg (by omega)] at h
    obtain ⟨x, h5, h6⟩ := l_bi_inr h
    rw [l_want_rd h6, updI_ne (by omega)]
    exact (l_vals_b m 0 p rd x.2 x.1 h1 h5).2 j (by omega) (by omega)
  · rw [i3 _ (by omega) (by omega)]
    exact hQ.2 k (by omega) j (by omega)
def s_q4 (r0 rd : Nat → Int32) : Prop := (∀ j, j < 275 → j ≠ 2 → j ≠ 9 → rd j = r0 j) ∧ s_usg rd (s_sm rd) ∧ ∀ t, t < s_sm rd → s_ps1 rd t
theorem s_q4_prep {tx r0 rd rd1 : Nat → Int32} {n a p q : Nat} (hn8 : n ≤ 800) (hty : s_ctyp r0 (s_cm r0)) (hv : s_iv n p rd) (hQ : s_q4 r0 rd) (h : g_prep tx n a p rd = .inr (q, rd1)) : s_q4 r0 rd1 := by
  obtain ⟨h1, ⟨m, hm, h2⟩, -, ⟨s, hs, h4⟩, k, h5, h6⟩ := hv
  have em : s_cm rd = m := n_of h2 (by omega)
  have es : s_sm rd = s := n_of h4 (by omega)
  have em0 : s_cm r0 = m := by unfold s_cm; rw [← hQ.1 0 (by omega) (by omega) (by omega)]; exact em
  unfold g_prep at h
  rw [show n_ (rd 0) = m from em, show n_ (rd 2) = s from es] at h
  obtain ⟨i1, i2, i3, -⟩ := l_prep_inv hn8 hm hs h1 h5 h6 h
  have es1 : s_sm rd1 = s + 1 := n_of i1 (by omega)
  have hty1 : s_ctyp rd m := fun j hj => by rw [hQ.1 _ (by omega) (by omega) (by omega)]; exact hty j (by omega)
  obtain ⟨u1, -⟩ := l_prep_us hn8 hm hs h1 h5 h6 h
  refine ⟨fun j j1 j2 j3 => (i3 j j1 j2 j3).trans (hQ.1 j j1 j2 j3), ?_, fun t ht => ?_⟩
  · rw [es1]
    exact s_usg_1 hn8 hm i2 h1 h5 h6 h (by rw [← es]; exact hQ.2.1)
  · rw [es1] at ht
    by_cases e : t = s
    · rw [e]; exact l_prep_ps hn8 hm i2 h1 h5 h6 hty1 h
    · exact (hQ.2.2 t (by omega)).of (fun x x1 x2 => u1 _ (by omega) (by omega) (by omega))
def s_n99 (x : Int32) : Prop := ∃ a, a ≤ 99 ∧ x = nI a
theorem s_n99_of {x : Int32} (h : (0 : Int32) ≤ x ∧ x ≤ 99) : s_n99 x := m_rngc (m := 99) (show (99 : Int32) = nI 99 from rfl) (by decide) h
def s_cst (rd : Nat → Int32) : Prop := s_n99 (rd 4) ∧ s_n99 (rd 5) ∧ s_n99 (rd 6)
theorem l_t4_cst {tx rd rd1 : Nat → Int32} {n p q : Nat} (hp : p ≤ n) (hc : s_cst rd) (h : l_t4 tx n (p, rd) = .inr (q, rd1)) : s_cst rd1 := by
  obtain ⟨x, h1, h2⟩ := l_bi_inr h
  obtain ⟨y, h3, h4⟩ := l_bi_inr h2
  have htk := l_tk_le (tx := tx) (w := x_w 11) hp
  have e1 : s_cst x.2 := by
    by_cases e : l_isw tx n p (x_w 11) = true
    · rw [if_pos e] at h1
      obtain ⟨a, ha, h5⟩ := l_bi_inr h1
      obtain ⟨b, hb, h6⟩ := l_bi_inr h5
      obtain ⟨c, hc9, h7⟩ := l_bi_inr h6
      obtain ⟨a1, a2⟩ := l_reads_ok (q := a.1) (v := a.2) ha htk.2
      obtain ⟨b1, b2⟩ := l_reads_ok (q := b.1) (v := b.2) hb a1.2
      obtain ⟨c1, c2⟩ := l_reads_ok (q := c.1) (v := c.2) hc9 b1.2
      rw [l_want_rd (rd1 := x.2) (q := x.1) h7]
      refine ⟨?_, ?_, ?_⟩
      · rw [updI_ne (by decide), updI_ne (by decide), updI_eq]; exact s_n99_of a2
      · rw [updI_ne (by decide), updI_eq]; exact s_n99_of b2
      · rw [updI_eq]; exact s_n99_of c2
    · rw [if_neg e] at h1
      cases h1
      exact hc
  have e2 : s_cst y.2 := by
    by_cases e : l_isw tx n x.1 (x_w 12) = true
    · rw [if_pos e] at h3
      obtain ⟨a, -, h5⟩ := l_bi_inr h3
      rw [l_want_rd (rd1 := y.2) (q := y.1) h5]
      refine ⟨?_, ?_, ?_⟩
      · rw [updI_ne (by decide)]; exact e1.1
      · rw [updI_ne (by decide)]; exact e1.2.1
      · rw [updI_ne (by decide)]; exact e1.2.2
    · rw [if_neg e] at h3
      cases h3
      exact e1
  have e3 : rd1 = y.2 := by
    unfold l_t6 at h4
    by_cases e : l_see tx n y.1 = -1
    · rw [if_pos e] at h4; cases h4; rfl
    · rw [if_neg e] at h4; cases h4
  rw [e3]
  exact e2
/-- what is known of the numbers of a text that is read -/
def s_rdok (rd : Nat → Int32) : Prop := rd 3 = 0 ∧ s_cst rd ∧ s_ctyp rd (s_cm rd) ∧ s_vals rd ∧ s_usg rd (s_sm rd) ∧ ∀ t, t < s_sm rd → s_ps1 rd t
theorem l_txt_big {tx rd1 : Nat → Int32} {n q : Nat} (hn8 : n ≤ 800) (h : l_txt tx n = .inr (q, rd1)) : s_rdok rd1 := by
  unfold l_txt at h
  by_cases h1 : l_isw tx n 0 (x_w 0) = true
  · rw [if_pos h1] at h
    have htk := l_tk_le (tx := tx) (w := x_w 0) (Nat.zero_le n)
    obtain ⟨x0, g0, h⟩ := l_bi_inr h
    obtain ⟨gw, gr⟩ := l_want_ok (q := x0.1) (rd1 := x0.2) g0 (by decide) htk.2
    have v0 : s_iv n x0.1 x0.2 := by rw [gr]; exact ⟨gw.2, ⟨0, by omega, rfl⟩, ⟨0, by omega, rfl⟩, ⟨0, by omega, rfl⟩, 0, rfl, by omega⟩
    have q0 : s_q1 x0.2 := by rw [gr]; exact ⟨fun _ _ => rfl, fun j hj => absurd hj (by rw [show s_cm s_pl = 0 from rfl]; omega)⟩
    obtain ⟨x1, g1, h⟩ := l_bi_inr h
    obtain ⟨v1, q1⟩ := l_rep_P (Q := s_q1) (fun a p rd rd1 q hv hQ hR => ⟨(g_col_ok hv hR).1, s_q1_col hv hQ hR⟩) _ _ _ x1.2 x1.1 v0 q0 g1
    obtain ⟨x2, g2, h⟩ := l_bi_inr h
    obtain ⟨v2, q2⟩ := l_rep_P (Q := s_q1) (fun a p rd rd1 q hv hQ hR => ⟨(g_idx_ok hv hR).1, s_q1_idx hv hQ hR⟩) _ _ _ x2.2 x2.1 v1 q1 g2
    obtain ⟨x3, g3, h⟩ := l_bi_inr h
    have z1 : s_lm x2.2 = 0 := by unfold s_lm; rw [q2.1 1 (by omega)]; rfl
    have q20 : s_q3 x2.2 x2.2 := ⟨fun _ _ _ => rfl, fun l hl => absurd hl (by omega)⟩
    obtain ⟨v3, q3⟩ := l_rep_P (Q := s_q3 x2.2) (fun a p rd rd1 q hv hQ hR => ⟨(g_row_ok hv hR).1, s_q3_row hv hQ hR⟩) _ _ _ x3.2 x3.1 v2 q20 g3
    obtain ⟨x4, g4, h⟩ := l_bi_inr h
    have c3 : s_cm x3.2 = s_cm x2.2 := by unfold s_cm; rw [q3.1 0 (by omega) (by omega)]
    have z2 : s_sm x3.2 = 0 := by unfold s_sm; rw [q3.1 2 (by omega) (by omega), q2.1 2 (by omega)]; rfl
    have ty3 : s_ctyp x3.2 (s_cm x3.2) := fun j hj => by
      have hm := v2.2.1
      have hm5 : s_cm x2.2 ≤ 5 := by obtain ⟨m, m1, m2⟩ := hm; rw [show s_cm x2.2 = m from n_of m2 (by omega)]; exact m1
      rw [q3.1 _ (by omega) (by omega)]
      exact q2.2 j (by omega)
    have u0 : ∀ j, 275 ≤ j → x3.2 j = 0 := fun j hj => by rw [q3.1 j (by omega) (by omega), q2.1 j (by omega)]; exact s_pl_0 (by omega)
    have q30 : s_q4 x3.2 x3.2 := ⟨fun _ _ _ _ => rfl, by rw [z2]; exact ⟨fun t ht => absurd ht (by omega), fun t _ _ x _ _ => u0 _ (by omega)⟩, fun t ht => absurd ht (by omega)⟩
    obtain ⟨v4, q4⟩ := l_rep_P (Q := s_q4 x3.2) (fun a p rd rd1 q hv hQ hR => ⟨(g_prep_ok hn8 hv hR).1, s_q4_prep hn8 ty3 hv hQ hR⟩) _ _ _ x4.2 x4.1 v3 q30 g4
    obtain ⟨p4, r4⟩ := x4
    have hin := l_t4_inv h
    have k4 : ∀ j, 2 < j → j < 9 → r4 j = s_pl j := fun j a b => (q4.1 j (by omega) (by omega) (by omega)).trans ((q3.1 j (by omega) (by omega)).trans (q2.1 j (by omega)))
    have cst : s_cst rd1 := l_t4_cst v4.1 (by unfold s_cst; rw [k4 4 (by omega) (by omega), k4 5 (by omega) (by omega), k4 6 (by omega) (by omega)]; exact ⟨⟨1, by omega, rfl⟩, ⟨3, by omega, rfl⟩, ⟨2, by omega, rfl⟩⟩) h
    have cm1 : s_cm rd1 = s_cm x3.2 := by unfold s_cm; rw [hin 0 (by omega)]; exact congrArg n_ (q4.1 0 (by omega) (by omega) (by omega))
    have lm1 : s_lm rd1 = s_lm x3.2 := by unfold s_lm; rw [hin 1 (by omega)]; exact congrArg n_ (q4.1 1 (by omega) (by omega) (by omega))
    have sm1 : s_sm rd1 = s_sm r4 := by unfold s_sm; rw [hin 2 (by omega)]
    have b3 : ∀ j, 10 ≤ j → j < 275 → rd1 j = x3.2 j := fun j a b => (hin j (by omega)).trans (q4.1 j b (by omega) (by omega))
    have hm5 : s_cm x3.2 ≤ 5 := by obtain ⟨m, m1, m2⟩ := v3.2.1; rw [show s_cm x3.2 = m from n_of m2 (by omega)]; exact m1
    have hl40 : s_lm x3.2 ≤ 40 := by obtain ⟨m, m1, m2⟩ := v3.2.2.1; rw [show s_lm x3.2 = m from n_of m2 (by omega)]; exact m1
    refine ⟨(hin 3 (by omega)).trans ((k4 3 (by omega) (by omega)).trans (s_pl_0 (by omega))), cst, fun j hj => ?_, fun l hl j hj => ?_, ?_, fun t ht => ?_⟩
    · rw [b3 _ (by omega) (by omega)]
      exact ty3 j (by omega)
    · rw [b3 _ (by omega) (by omega)]
      exact q3.2 l (by omega) j (by omega)
    · rw [sm1]
      obtain ⟨u1, u2⟩ := q4.2.1
      exact ⟨fun t ht => ⟨(hin _ (by omega)).trans (u1 t ht).1, fun c hc => (hin _ (by omega)).trans ((u1 t ht).2.1 c hc), fun x hx => (hin _ (by omega)).trans ((u1 t ht).2.2 x hx)⟩, fun t a b x c d => (hin _ (by omega)).trans (u2 t a b x c d)⟩
    · rw [sm1] at ht
      exact (q4.2.2 t ht).of (fun x x1 x2 => hin _ (by omega))
  · rw [if_neg h1] at h; cases h

