/-! ===== the usage numbers of statements that are read ===== -/
theorem s_p5_at {rd : Nat → Int32} {s h : Nat} : ∀ n, h < n → s_p5 rd s n (275 + 30 * s + (21 + h)) = 100
  | 0, hh => absurd hh (Nat.not_lt_zero _)
  | n + 1, hh => by
    show upd (s_p5 rd s n) (275 + 30 * s + (21 + n)) 100 (275 + 30 * s + (21 + h)) = 100
    by_cases e : h = n
    · rw [e, updI_eq]
    · rw [updI_ne (by omega)]
      exact s_p5_at n (by omega)
theorem l_prep_us {tx rd rd1 : Nat → Int32} {n m s a p q k : Nat} (hn8 : n ≤ 800) (hm : m ≤ 5) (hs6 : s ≤ 6) (hp : p ≤ n) (hk : rd 9 = nI k) (hk5 : 5 * k ≤ 2 * p) (h : l_prepLine tx n m s a p rd = .inr (q, rd1)) : (∀ j, 275 ≤ j → j < 455 → ¬ (275 + 30 * s ≤ j ∧ j < 275 + 30 * s + 28) → rd1 j = rd j) ∧ rd1 (275 + 30 * s + 14) = -2 ∧ (∀ c, c < 5 → rd1 (275 + 30 * s + (21 + c)) = 100) ∧ ∀ x, ((8 ≤ x ∧ x ≤ 13) ∨ x = 15 ∨ x = 16) → rd1 (275 + 30 * s + x) = rd (275 + 30 * s + x) := by
  unfold l_prepLine at h
  by_cases e : s = 6
  · rw [if_pos e] at h; cases h
  · rw [if_neg e] at h
    obtain ⟨x, h1, h2⟩ := l_bi_inr h
    obtain ⟨y, h3, h4⟩ := l_bi_inr h2
    obtain ⟨g1, g2⟩ := l_fresh_ok h1 hp
    have hsl := l_sk_le (tx := tx) hp
    have h9 : s_prep x.2 s 9 = nI k := (s_prep_o (by omega)).trans ((g2 9 (by omega)).trans hk)
    have hrg := l_prs_rg (w := s) hn8 (by omega) _ _ _ _ _ _ k _ _ _ g1.2 h9 (by omega) h3
    have hw := l_want_rd h4
    have hr : ∀ j, 275 ≤ j → j < 455 → ¬ (275 + 30 * s + 17 ≤ j ∧ j < 275 + 30 * s + 21) → j ≠ 275 + 30 * s + 27 → rd1 j = s_prep x.2 s j := fun j a b c d => by
      rw [hw, updI_ne (by omega), updI_ne d]
      exact hrg j a b c
    refine ⟨fun j a b c => ?_, ?_, fun c hc => ?_, fun v hv => ?_⟩
    · rw [hr j a b (by omega) (by omega), s_prep_o (by omega)]
      exact g2 j (by omega)
    · rw [hr _ (by omega) (by omega) (by omega) (by omega)]
      unfold s_prep
      rw [updI_ne (by omega), updI_eq]
    · rw [hr _ (by omega) (by omega) (by omega) (by omega)]
      unfold s_prep
      rw [updI_ne (by omega), updI_ne (by omega)]
      exact s_p5_at 5 hc
    · rw [hr _ (by omega) (by omega) (by omega) (by omega)]
      have hx : s_prep x.2 s (275 + 30 * s + v) = x.2 (275 + 30 * s + v) := by
        unfold s_prep
        rw [updI_ne (by omega), updI_ne (by omega), s_p5_o 5 (by omega), s_p4_o 4 (by omega)]
      rw [hx]
      exact g2 _ (by omega)
/-- the usage numbers of s statements that are read, and of those that aren't -/
def s_usg (rd : Nat → Int32) (s : Nat) : Prop := (∀ t, t < s → rd (275 + 30 * t + 14) = -2 ∧ (∀ c, c < 5 → rd (275 + 30 * t + (21 + c)) = 100) ∧ ∀ x, ((8 ≤ x ∧ x ≤ 13) ∨ x = 15 ∨ x = 16) → rd (275 + 30 * t + x) = 0) ∧ ∀ t, s ≤ t → t < 6 → ∀ x, 8 ≤ x → x ≤ 16 → rd (275 + 30 * t + x) = 0
theorem s_usg_1 {tx rd rd1 : Nat → Int32} {n m s a p q k : Nat} (hn8 : n ≤ 800) (hm : m ≤ 5) (hs6 : s < 6) (hp : p ≤ n) (hk : rd 9 = nI k) (hk5 : 5 * k ≤ 2 * p) (h : l_prepLine tx n m s a p rd = .inr (q, rd1)) (hu : s_usg rd s) : s_usg rd1 (s + 1) := by
  obtain ⟨h1, h2, h3, h4⟩ := l_prep_us hn8 hm (by omega) hp hk hk5 h
  refine ⟨fun t ht => ?_, fun t a b x c d => ?_⟩
  · by_cases e : t = s
    · rw [e]
      exact ⟨h2, h3, fun x hx => (h4 x hx).trans (hu.2 s (Nat.le_refl _) hs6 x (by omega) (by omega))⟩
    · obtain ⟨u1, u2, u3⟩ := hu.1 t (by omega)
      exact ⟨(h1 _ (by omega) (by omega) (by omega)).trans u1, fun c hc => (h1 _ (by omega) (by omega) (by omega)).trans (u2 c hc), fun x hx => (h1 _ (by omega) (by omega) (by omega)).trans (u3 x hx)⟩
  · exact (h1 _ (by omega) (by omega) (by omega)).trans (hu.2 t (by omega) b x c d)
