/-! ===== a text that is read: its row is as rows are, and the class's data agree with it ===== -/
theorem s_uc0_v {e : Nat → Int32} {s x : Nat} (hx : (8 ≤ x ∧ x ≤ 11) ∨ (13 ≤ x ∧ x ≤ 16)) : s_uc0 e s (275 + 30 * s + x) = if x = 14 then -2 else 0 := by
  unfold s_uc0
  rcases (show x = 8 ∨ x = 9 ∨ x = 10 ∨ x = 11 ∨ x = 13 ∨ x = 14 ∨ x = 15 ∨ x = 16 by omega) with h | h | h | h | h | h | h | h
  · subst h; rw [updI_ne (by omega), updI_ne (by omega), updI_ne (by omega), updI_ne (by omega), updI_ne (by omega), updI_ne (by omega), updI_ne (by omega), updI_eq]; rfl
  · subst h; rw [updI_ne (by omega), updI_ne (by omega), updI_ne (by omega), updI_ne (by omega), updI_ne (by omega), updI_ne (by omega), updI_eq]; rfl
  · subst h; rw [updI_ne (by omega), updI_ne (by omega), updI_ne (by omega), updI_ne (by omega), updI_ne (by omega), updI_eq]; rfl
  · subst h; rw [updI_ne (by omega), updI_ne (by omega), updI_ne (by omega), updI_ne (by omega), updI_eq]; rfl
  · subst h; rw [updI_eq]; rfl
  · subst h; rw [updI_ne (by omega), updI_ne (by omega), updI_ne (by omega), updI_eq]; rfl
  · subst h; rw [updI_ne (by omega), updI_ne (by omega), updI_eq]; rfl
  · subst h; rw [updI_ne (by omega), updI_eq]; rfl
theorem s_ucl_v {e : Nat → Int32} {s x : Nat} (hx : (8 ≤ x ∧ x ≤ 11) ∨ (13 ≤ x ∧ x ≤ 16)) : ∀ k, s_ucl e s k (275 + 30 * s + x) = if x = 14 then -2 else 0
  | 0 => s_uc0_v hx
  | k + 1 => by
    show upd (s_ucl e s k) (275 + 30 * s + (21 + k)) 100 (275 + 30 * s + x) = _
    rw [updI_ne (by omega)]
    exact s_ucl_v hx k
theorem s_ucl_p {e : Nat → Int32} {s c : Nat} : ∀ k, c < k → s_ucl e s k (275 + 30 * s + (21 + c)) = 100
  | 0, h => absurd h (Nat.not_lt_zero _)
  | k + 1, h => by
    show upd (s_ucl e s k) (275 + 30 * s + (21 + k)) 100 (275 + 30 * s + (21 + c)) = 100
    by_cases e1 : c = k
    · rw [e1, updI_eq]
    · rw [updI_ne (by omega)]
      exact s_ucl_p k (by omega)
theorem s_ucl_q {e : Nat → Int32} {s j : Nat} (hj : j < 275 + 30 * s + 8 ∨ 275 + 30 * s + 26 ≤ j) : ∀ k, k ≤ 5 → s_ucl e s k j = e j
  | 0, _ => by
    show s_uc0 e s j = e j
    unfold s_uc0
    rw [updI_ne (by omega), updI_ne (by omega), updI_ne (by omega), updI_ne (by omega), updI_ne (by omega), updI_ne (by omega), updI_ne (by omega), updI_ne (by omega)]
  | k + 1, h => by
    show upd (s_ucl e s k) (275 + 30 * s + (21 + k)) 100 j = e j
    rw [updI_ne (by omega)]
    exact s_ucl_q hj k (by omega)
theorem s_clu_at {e : Nat → Int32} {s x : Nat} (hx : x < 30) : ∀ k, s < k → s_clu e k (275 + 30 * s + x) = s_ucl (s_clu e s) s 5 (275 + 30 * s + x)
  | 0, h => absurd h (Nat.not_lt_zero _)
  | k + 1, h => by
    show s_ucl (s_clu e k) k 5 (275 + 30 * s + x) = _
    by_cases e1 : s = k
    · rw [e1]
    · rw [s_ucl_q (by omega) 5 (Nat.le_refl _)]
      exact s_clu_at hx k (by omega)
theorem s_cld_3 {e : Nat → Int32} : s_cld e 3 = 0 := by
  unfold s_cld
  rw [s_clu_o (by decide), s_clx_ne 5 (fun x hx => by omega)]
  exact updI_eq
theorem s_cld_v {e : Nat → Int32} {s x : Nat} (hs : s < 6) (hx : (8 ≤ x ∧ x ≤ 11) ∨ (13 ≤ x ∧ x ≤ 16)) : s_cld e (275 + 30 * s + x) = if x = 14 then -2 else 0 := by
  unfold s_cld
  rw [s_clu_at (by omega) 6 hs]
  exact s_ucl_v hx 5
theorem s_cld_p {e : Nat → Int32} {s c : Nat} (hs : s < 6) (hc : c < 5) : s_cld e (275 + 30 * s + (21 + c)) = 100 := by
  unfold s_cld
  rw [s_clu_at (by omega) 6 hs]
  exact s_ucl_p 5 hc
section STCF
variable {e e' : Nat → Int32}
theorem s_stc.tok (h : s_stc e e') {k : Nat} (ht : s_tok e k) : s_tok e' k := by
  obtain ⟨h1, h2, h3⟩ := ht
  unfold s_tok
  rw [← h.cod k 1, ← h.cod k 3, ← h.cod k 4]
  exact ⟨h1, h2, h3⟩
theorem s_stc.pok (h : s_stc e e') {f n : Nat} (hp : s_pok e f n) : s_pok e' f n := fun k hk => by
  rw [← h.cod (f + k) 0, ← h.hg f k]
  rcases hp k hk with ⟨a, b⟩ | q | q
  · exact Or.inl ⟨a, h.tok b⟩
  · exact Or.inr (Or.inl q)
  · exact Or.inr (Or.inr q)
theorem s_stc.fok (h : s_stc e e') {s : Nat} (hs : s < 6) (hf : s_fok e s) : s_fok e' s := by
  unfold s_fok
  rw [← h.from s hs, ← h.to s hs, ← h.hg]
  exact ⟨h.pok hf.1, hf.2⟩
end STCF
/-- how often a statement ran, what its runs cost: not too much -/
def s_unb (t : Nat) (e : Nat → Int32) (s : Nat) : Prop := (∃ p, p ≤ t ∧ s_st e s 9 = nI p) ∧ (∃ p, p ≤ 39699 * t ∧ s_st e s 10 = nI p) ∧ (∃ p, p ≤ 39699 ∧ s_st e s 15 = nI p) ∧ ∀ j, j < 5 → ∃ p, p ≤ 1000 ∧ s_st e s (21 + j) = nI p
/-- a statement's holes and name -/
def s_sok (e : Nat → Int32) (s : Nat) : Prop := s_hts e s ∧ ∃ L, y_nmok e (275 + 30 * s) L
theorem s_sok.of {e e' : Nat → Int32} {s : Nat} (h : s_sok e s) (hc : ∀ x, (x < 8 ∨ (17 ≤ x ∧ x < 21)) → e' (275 + 30 * s + x) = e (275 + 30 * s + x)) : s_sok e' s := by
  obtain ⟨h1, L, h2, h3, h4⟩ := h
  refine ⟨h1.of (fun j hj => hc _ (by omega)), L, h2, fun k hk => ?_, fun k k1 k2 => ?_⟩
  · rw [hc k (by omega)]; exact h3 k hk
  · rw [hc k (by omega)]; exact h4 k k1 k2
/-- what holds of each row after t calls -/
def s_inv (t : Nat) (e : Nat → Int32) : Prop := s_wf e ∧ s_cst e ∧ s_vals e ∧ ∀ s, s < s_sm e → s_sok e s ∧ s_unb t e s
theorem s_ldd_stc {rd : Nat → Int32} {l m : Nat} (hm : m ≤ 5) : s_stc rd (s_look rd l m) := fun k hk => (s_look_o (by omega) m (fun j hj x x1 x2 => by omega)).symm
theorem ld_inv {rd : Nat → Int32} {m l s : Nat} (h0 : rd 0 = nI m) (h1 : rd 1 = nI l) (h2 : rd 2 = nI s) (hm : m ≤ 5) (hl : l ≤ 40) (hs : s ≤ 6) (hok : s_rdok rd) (hx : ∀ j, j < 5 → rd (10 + 13 * j + 9) = 0 ∨ rd (10 + 13 * j + 9) = 1) (hf : ∀ t, t < s → s_fok rd t ∧ s_from rd t ≤ s_to rd t ∧ ∀ k, s_from rd t ≤ k → k < s_to rd t → s_cod rd k 0 = 0 → s_cmpok rd k) (hn : ∀ t, t < s → ∃ L, y_nmok rd (275 + 30 * t) L) : s_inv 0 (s_ldd rd) := by
  obtain ⟨h3, hc, hty, hv, hu, hp⟩ := hok
  have em : s_cm rd = m := n_of h0 (by omega)
  have el : s_lm rd = l := n_of h1 (by omega)
  have es : s_sm rd = s := n_of h2 (by omega)
  have eD : s_ldd rd = s_look rd l m := by unfold s_ldd; rw [em, el]
  rw [eD]
  have hst : s_stc rd (s_look rd l m) := s_ldd_stc hm
  have hag := s_look_ag (c := rd) (q := l) m hm
  have em1 : s_cm (s_look rd l m) = m := hst.cm.symm.trans em
  have es1 : s_sm (s_look rd l m) = s := hst.sm.symm.trans es
  have el1 : s_lm (s_look rd l m) = l := by unfold s_lm; rw [← hag 1 (by omega)]; exact el
  have hv1 : ∀ a, a < l → ∀ b, b < m → ∃ v, v ≤ 9999 ∧ s_val rd a b = nI v := fun a ha b hb => hv a (by omega) b (by omega)
  refine ⟨⟨⟨⟨m, hm, (hag 0 (by omega)).symm.trans h0⟩, ⟨l, hl, (hag 1 (by omega)).symm.trans h1⟩, ⟨s, hs, (hag 2 (by omega)).symm.trans h2⟩, ⟨l, hl, (s_look_8 m).trans h1⟩⟩, fun j hj => ?_, fun t ht => ?_, fun t ht => ?_⟩, ?_, fun a ha b hb => ?_, fun t ht => ?_⟩
  · rw [em1] at hj
    exact s_look_col h1 hl hm hv1 hj (hty j (by omega)) (hx j (by omega))
  · rw [es1] at ht
    obtain ⟨f1, f2, f3⟩ := hf t ht
    obtain ⟨-, f, g, p1, p2, p3, p4⟩ := hp t (by omega)
    have ef : s_from rd t = f := n_of p1 (by omega)
    have eg : s_to rd t = g := n_of p2 (by omega)
    refine ⟨⟨f, g, by omega, by omega, (hag _ (by omega)).symm.trans p1, (hag _ (by omega)).symm.trans p2⟩, hst.fok (by omega) f1, ?_⟩
    rw [← hst.from t (by omega), ← hst.to t (by omega)]
    exact fun k k1 k2 k3 => hst.ok (f3 k k1 k2 ((hst.cod k 0).trans k3))
  · rw [es1] at ht
    exact Or.inl ((hag _ (by omega)).symm.trans (hu.1 t (by omega)).1)
  · unfold s_cst
    rw [← hag 4 (by omega), ← hag 5 (by omega), ← hag 6 (by omega)]
    exact hc
  · rw [el1] at ha
    rw [em1] at hb
    rw [← hag _ (by omega)]
    exact hv1 a ha b hb
  · rw [es1] at ht
    obtain ⟨u1, u2, u3⟩ := hu.1 t (by omega)
    refine ⟨s_sok.of ⟨(hp t (by omega)).1, hn t ht⟩ (fun x hx => (hag _ (by omega)).symm), ⟨0, Nat.le_refl _, ?_⟩, ⟨0, by omega, ?_⟩, ⟨0, by omega, ?_⟩, fun j hj => ⟨100, by omega, ?_⟩⟩
    · exact (hag _ (by omega)).symm.trans (u3 9 (by omega))
    · exact (hag _ (by omega)).symm.trans (u3 10 (by omega))
    · exact (hag _ (by omega)).symm.trans (u3 15 (by omega))
    · exact (hag _ (by omega)).symm.trans (u2 j hj)
theorem ld_rel {rd dd c : Nat → Int32} {m l s : Nat} (h0 : rd 0 = nI m) (h1 : rd 1 = nI l) (h2 : rd 2 = nI s) (hm : m ≤ 5) (hl : l ≤ 40) (hs : s ≤ 6) (hok : s_rdok rd) (d1 : dd 1 = nI l) (hx : ∀ j, j < 5 → dd (10 + 13 * j + 9) = rd (10 + 13 * j + 9)) (hv : ∀ a, a < l → ∀ b, b < m → dd (75 + 5 * a + b) = rd (75 + 5 * a + b)) (hc : ∀ k, k ≠ 1 → (k < 10 ∨ 275 ≤ k) → dd k = s_cld c k) : s_rel (s_ldd rd) (s_look dd l m) := by
  obtain ⟨h3, -, -, -, hu, -⟩ := hok
  have em : s_cm rd = m := n_of h0 (by omega)
  have el : s_lm rd = l := n_of h1 (by omega)
  have es : s_sm rd = s := n_of h2 (by omega)
  have eD : s_ldd rd = s_look rd l m := by unfold s_ldd; rw [em, el]
  rw [eD]
  have hst : s_stc rd (s_look rd l m) := s_ldd_stc hm
  have hag := s_look_ag (c := rd) (q := l) m hm
  have hag2 := s_look_ag (c := dd) (q := l) m hm
  have em1 : s_cm (s_look rd l m) = m := hst.cm.symm.trans em
  have es1 : s_sm (s_look rd l m) = s := hst.sm.symm.trans es
  have el1 : s_lm (s_look rd l m) = l := by unfold s_lm; rw [← hag 1 (by omega)]; exact el
  refine ⟨⟨?_, ?_, ?_⟩, fun j hj x x1 x2 => ?_, fun a ha b hb => ?_, fun t ht x hx2 => ?_⟩
  · rw [← hag 1 (by omega), ← hag2 1 (by omega), h1, d1]
  · rw [← hag 3 (by omega), ← hag2 3 (by omega), h3, hc 3 (by omega) (by omega)]
    exact s_cld_3.symm
  · rw [s_look_8, s_look_8, h1, d1]
  · rw [em1] at hj
    by_cases e9 : x = 9
    · subst e9
      show s_look rd l m (10 + 13 * j + 9) = s_look dd l m (10 + 13 * j + 9)
      rw [s_look_o (by omega) m (fun i hi x x1 x2 => by omega), s_look_o (by omega) m (fun i hi x x1 x2 => by omega)]
      exact (hx j (by omega)).symm
    · exact s_look_rel h1 d1 hl (fun a ha b hb => (hv a ha b hb).symm) hj x (by omega) x2
  · rw [el1] at ha
    rw [em1] at hb
    show s_look rd l m (75 + 5 * a + b) = s_look dd l m (75 + 5 * a + b)
    rw [← hag _ (by omega), ← hag2 _ (by omega)]
    exact (hv a ha b hb).symm
  · rw [es1] at ht
    show s_look rd l m (275 + 30 * t + x) = s_look dd l m (275 + 30 * t + x)
    rw [← hag _ (by omega), ← hag2 _ (by omega), hc _ (by omega) (by omega)]
    obtain ⟨u1, u2, u3⟩ := hu.1 t (by omega)
    rcases (show ((8 ≤ x ∧ x ≤ 11) ∨ (13 ≤ x ∧ x ≤ 16)) ∨ (21 ≤ x ∧ x ≤ 25) by omega) with h | h
    · rw [s_cld_v (by omega) h]
      by_cases e : x = 14
      · rw [if_pos e, e]; exact u1
      · rw [if_neg e]; exact u3 x (by omega)
    · obtain ⟨y, rfl⟩ : ∃ y, x = 21 + y := ⟨x - 21, by omega⟩
      rw [s_cld_p (by omega) (by omega)]
      exact u2 y (by omega)

