/-! ===== the reference's reader: of a statement's numbers it changes the holes only ===== -/
section RG
variable {tx : Nat → Int32} {n m w : Nat}
theorem l_cmp_rg {rd rd1 : Nat → Int32} {p q k : Nat} {z : Bool} (hpn : p ≤ n) (hm : m < 1000) (h : l_cmp tx n m w k z p rd = .inr (q, rd1)) : ∀ j, 275 ≤ j → j < 455 → ¬ (275 + 30 * w + 17 ≤ j ∧ j < 275 + 30 * w + 21) → rd1 j = rd j := fun j a b c => by
  obtain ⟨x, h1, h2⟩ := l_bi_inr h
  have h3 := l_known_ok h1 hpn hm
  by_cases hc : l_see tx n x.1 = 60 ∨ l_see tx n x.1 = 61 ∨ l_see tx n x.1 = 62
  · rw [if_pos hc] at h2
    obtain ⟨⟨kd4, q4, v4, rd4⟩, h4, h5⟩ := l_bi_inr h2
    cases h5
    have h6 : l_sk tx n x.1 < n := l_see_lt (by rcases hc with h | h | h <;> rw [h] <;> decide)
    refine (s_cmpc_ne b (by omega)).trans ?_
    show rd4 j = rd j
    generalize l_sk tx n x.1 + 1 = p2 at h4
    generalize rd (10 + 13 * n_ x.2 + 8) = t at h4
    unfold l_opd at h4
    by_cases e1 : (48 : Int32) ≤ l_see tx n p2 ∧ l_see tx n p2 ≤ 57
    · rw [if_pos e1] at h4
      obtain ⟨y, -, h8⟩ := l_bi_inr h4
      cases h8
      rfl
    · rw [if_neg e1] at h4
      by_cases e2 : l_see tx n p2 = 63
      · rw [if_pos e2] at h4
        obtain ⟨y, h7, h8⟩ := l_bi_inr h4
        cases h8
        obtain ⟨u, h9, h10⟩ := l_bi_inr h7
        have hu := (l_reads_ok h9 (l_sk_lt3 e2)).2
        obtain ⟨h0, hh, eu⟩ := m_rngc (m := 3) (show (3 : Int32) = nI 3 from rfl) (by decide) hu
        have hn : n_ u.2 = h0 := by rw [eu]; exact nI_clamp (by omega)
        by_cases hcd : ¬ rd (275 + 30 * w + (17 + n_ u.2)) = -1 ∧ ¬ rd (275 + 30 * w + (17 + n_ u.2)) = t
        · rw [if_pos hcd] at h10; cases h10
        · rw [if_neg hcd] at h10
          cases h10
          exact updI_ne (by omega)
      · rw [if_neg e2] at h4
        obtain ⟨y, -, h8⟩ := l_bi_inr h4
        cases h8
        rfl
  · rw [if_neg hc] at h2; cases h2
theorem l_prs_rg (hn8 : n ≤ 800) (hm : m < 1000) : ∀ (f md : Nat) (z : Bool) (h fr p k : Nat) (rd rd1 : Nat → Int32) (q : Nat), p ≤ n → rd 9 = nI k → 5 * k ≤ 2 * p → l_prs tx n m w f md z h fr p rd = .inr (q, rd1) → ∀ j, 275 ≤ j → j < 455 → ¬ (275 + 30 * w + 17 ≤ j ∧ j < 275 + 30 * w + 21) → rd1 j = rd j := by
  intro f
  induction f with
  | zero => intro md z h fr p k rd rd1 q _ _ _ hR; cases hR
  | succ f ih =>
    intro md z h fr p k rd rd1 q hpn hk hk5 hR j a b c
    have hs := l_sk_le (tx := tx) hpn
    have hwe := l_we_le (tx := tx) hpn
    rcases md with _ | _ | _ | _ | md
    · rw [l_prs_0] at hR
      by_cases c1 : l_isw tx n p (x_w 4) = true
      · rw [if_pos c1] at hR
        by_cases c2 : h = 6
        · rw [if_pos c2] at hR; cases hR
        · rw [if_neg c2, l_tk_sk hpn] at hR
          have h1 : l_tk tx n p (x_w 4) = l_sk tx n p + 3 := l_tk_y c1
          have h2 : l_we tx n p = l_sk tx n p + 3 := l_isw_we c1
          obtain ⟨x, h3, h4⟩ := l_bi_inr hR
          cases h4
          rw [h1] at h3
          exact (s_code_ne b (by omega)).trans (ih 0 _ _ _ _ k _ _ _ (by omega) hk (by omega) h3 j a b c)
      · rw [if_neg c1] at hR
        by_cases c2 : l_see tx n p = 40
        · rw [if_pos c2] at hR
          by_cases c3 : h = 6
          · rw [if_pos c3] at hR; cases hR
          · rw [if_neg c3] at hR
            obtain ⟨x, h3, h4⟩ := l_bi_inr hR
            have h6 : l_sk tx n p < n := l_see_lt (by rw [c2]; decide)
            by_cases c4 : l_see tx n x.1 = 41
            · rw [if_pos c4] at h4
              cases h4
              exact ih 3 _ _ _ _ k _ _ _ (by omega) hk (by omega) h3 j a b c
            · rw [if_neg c4] at h4; cases h4
        · rw [if_neg c2] at hR
          exact l_cmp_rg hs.2 hm hR j a b c
    · rw [l_prs_1] at hR
      obtain ⟨x, h3, h4⟩ := l_bi_inr hR
      obtain ⟨g0, -, k1, g1, g2, g3⟩ := l_prs_ok hn8 hm _ _ _ _ _ _ k _ _ _ hpn hk hk5 h3
      exact (ih 2 _ _ _ _ k1 _ _ _ g0.2 g1 (by omega) h4 j a b c).trans (ih 0 _ _ _ _ k _ _ _ hpn hk hk5 h3 j a b c)
    · rw [l_prs_2] at hR
      by_cases c1 : l_isw tx n p (x_w 3) = true
      · rw [if_pos c1] at hR
        have h1 : l_tk tx n p (x_w 3) = l_sk tx n p + 3 := l_tk_y c1
        have h2 : l_we tx n p = l_sk tx n p + 3 := l_isw_we c1
        obtain ⟨x, h3, h4⟩ := l_bi_inr hR
        rw [h1] at h3
        obtain ⟨g0, -, k1, g1, g2, g3⟩ := l_prs_ok hn8 hm _ _ _ _ _ _ k _ _ _ (by omega) hk (by omega) h3
        have e : n_ (x.2 9) = k1 := by rw [g1]; exact nI_clamp (by omega)
        rw [e] at h4
        exact (ih 2 _ _ _ _ (k1 + 1) _ _ _ g0.2 s_code_9 (by change 5 * k1 + 2 * (l_sk tx n p + 3) + 1 ≤ 5 * k + 2 * x.1 at g3; omega) h4 j a b c).trans ((s_code_ne b (by omega)).trans (ih 0 _ _ _ _ k _ _ _ (by omega) hk (by omega) h3 j a b c))
      · rw [if_neg c1] at hR
        cases hR
        rfl
    · rw [l_prs_3] at hR
      obtain ⟨x, h3, h4⟩ := l_bi_inr hR
      obtain ⟨g0, -, k1, g1, g2, g3⟩ := l_prs_ok hn8 hm _ _ _ _ _ _ k _ _ _ hpn hk hk5 h3
      exact (ih 4 _ _ _ _ k1 _ _ _ g0.2 g1 (by omega) h4 j a b c).trans (ih 1 _ _ _ _ k _ _ _ hpn hk hk5 h3 j a b c)
    · rw [l_prs_4] at hR
      by_cases c1 : l_isw tx n p (x_w 2) = true
      · rw [if_pos c1] at hR
        have h1 : l_tk tx n p (x_w 2) = l_sk tx n p + 2 := l_tk_y c1
        have h2 : l_we tx n p = l_sk tx n p + 2 := l_isw_we c1
        obtain ⟨x, h3, h4⟩ := l_bi_inr hR
        rw [h1] at h3
        have e0 : ∀ j, j < 455 → (bif z then s_clr rd fr (n_ (rd 9) - fr) else rd) j = rd j := fun j hj => by
          cases z with
          | true => exact s_clr_ne hj _
          | false => rfl
        obtain ⟨g0, -, k1, g1, g2, g3⟩ := l_prs_ok hn8 hm _ _ _ _ _ _ k _ _ _ (by omega) ((e0 9 (by omega)).trans hk) (by omega) h3
        have e : n_ (x.2 9) = k1 := by rw [g1]; exact nI_clamp (by omega)
        rw [e] at h4
        exact (ih 4 _ _ _ _ (k1 + 1) _ _ _ g0.2 s_code_9 (by change 5 * k1 + 2 * (l_sk tx n p + 2) + 1 ≤ 5 * k + 2 * x.1 at g3; omega) h4 j a b c).trans ((s_code_ne b (by omega)).trans ((ih 1 _ _ _ _ k _ _ _ (by omega) ((e0 9 (by omega)).trans hk) (by omega) h3 j a b c).trans (e0 j b)))
      · rw [if_neg c1] at hR
        cases hR
        rfl
end RG
