/-! ===== what a text that is read leaves: the numbers that are in range ===== -/
def s_ht (x : Int32) : Prop := x = -1 ∨ x = 0 ∨ x = 1 ∨ x = 2
def s_hts (rd : Nat → Int32) (w : Nat) : Prop := ∀ h, h < 4 → s_ht (rd (275 + 30 * w + (17 + h)))
def s_ctyp (rd : Nat → Int32) (m : Nat) : Prop := ∀ j, j < m → rd (10 + 13 * j + 8) = 0 ∨ rd (10 + 13 * j + 8) = 1 ∨ rd (10 + 13 * j + 8) = 2
theorem s_ctyp.of {rd rd1 : Nat → Int32} {m : Nat} (h : s_ctyp rd m) (hm : m ≤ 5) (hc : ∀ j, j < 275 → j ≠ 9 → rd1 j = rd j) : s_ctyp rd1 m := fun j hj => by
  rw [hc _ (by omega) (by omega)]
  exact h j hj
theorem s_hts.of {rd rd1 : Nat → Int32} {w : Nat} (h : s_hts rd w) (hc : ∀ j, j < 4 → rd1 (275 + 30 * w + (17 + j)) = rd (275 + 30 * w + (17 + j))) : s_hts rd1 w := fun j hj => by
  rw [hc j hj]
  exact h j hj
theorem s_most_le (t : Int32) : s_most t ≤ 9999 := by
  unfold s_most
  by_cases h : t = 0
  · rw [if_pos h]; decide
  · rw [if_neg h]
    by_cases h1 : t = 1
    · rw [if_pos h1]; decide
    · rw [if_neg h1]; decide
section HT
variable {tx : Nat → Int32} {n m w : Nat}
theorem l_cmp_ht {rd rd1 : Nat → Int32} {p q k : Nat} {z : Bool} (hpn : p ≤ n) (hm : m ≤ 5) (hw : w < 6) (hty : s_ctyp rd m) (hh : s_hts rd w) (h : l_cmp tx n m w k z p rd = .inr (q, rd1)) : s_hts rd1 w := by
  obtain ⟨x, h1, h2⟩ := l_bi_inr h
  have h3 := l_known_ok h1 hpn (by omega)
  by_cases hc : l_see tx n x.1 = 60 ∨ l_see tx n x.1 = 61 ∨ l_see tx n x.1 = 62
  · rw [if_pos hc] at h2
    obtain ⟨⟨kd4, q4, v4, rd4⟩, h4, h5⟩ := l_bi_inr h2
    cases h5
    have h6 : l_sk tx n x.1 < n := l_see_lt (by rcases hc with h | h | h <;> rw [h] <;> decide)
    refine s_hts.of (rd := rd4) ?_ (fun j hj => s_cmpc_ne (by omega) (by omega))
    obtain ⟨-, c0, hc0, ec0⟩ := h3
    have hn0 : n_ x.2 = c0 := by rw [ec0]; exact nI_clamp (by omega)
    have ht := hty c0 hc0
    rw [hn0] at h4
    generalize l_sk tx n x.1 + 1 = p2 at h4
    generalize rd (10 + 13 * c0 + 8) = t at h4 ht
    unfold l_opd at h4
    by_cases e1 : (48 : Int32) ≤ l_see tx n p2 ∧ l_see tx n p2 ≤ 57
    · rw [if_pos e1] at h4
      obtain ⟨y, -, h8⟩ := l_bi_inr h4
      cases h8
      exact hh
    · rw [if_neg e1] at h4
      by_cases e2 : l_see tx n p2 = 63
      · rw [if_pos e2] at h4
        obtain ⟨y, h7, h8⟩ := l_bi_inr h4
        cases h8
        obtain ⟨u, h9, h10⟩ := l_bi_inr h7
        by_cases hcd : ¬ rd (275 + 30 * w + (17 + n_ u.2)) = -1 ∧ ¬ rd (275 + 30 * w + (17 + n_ u.2)) = t
        · rw [if_pos hcd] at h10; cases h10
        · rw [if_neg hcd] at h10
          cases h10
          intro a ha
          show s_ht (upd rd (275 + 30 * w + (17 + n_ u.2)) t (275 + 30 * w + (17 + a)))
          by_cases ea : 275 + 30 * w + (17 + a) = 275 + 30 * w + (17 + n_ u.2)
          · rw [ea, updI_eq]
            exact Or.inr ht
          · rw [updI_ne ea]
            exact hh a ha
      · rw [if_neg e2] at h4
        obtain ⟨y, -, h8⟩ := l_bi_inr h4
        cases h8
        exact hh
  · rw [if_neg hc] at h2; cases h2
theorem l_prs_ht (hn8 : n ≤ 800) (hm : m ≤ 5) (hw : w < 6) : ∀ (f md : Nat) (z : Bool) (h fr p k : Nat) (rd rd1 : Nat → Int32) (q : Nat), p ≤ n → rd 9 = nI k → 5 * k ≤ 2 * p → s_ctyp rd m → s_hts rd w → l_prs tx n m w f md z h fr p rd = .inr (q, rd1) → s_hts rd1 w := by
  intro f
  induction f with
  | zero => intro md z h fr p k rd rd1 q _ _ _ _ _ hR; cases hR
  | succ f ih =>
    intro md z h fr p k rd rd1 q hpn hk hk5 hty hh hR
    have hs := l_sk_le (tx := tx) hpn
    have hwe := l_we_le (tx := tx) hpn
    rcases md with _ | _ | _ | _ | md
    · rw [l_prs_0] at hR
      by_cases c1 : l_isw tx n p (x_w 4) = true
      · rw [if_pos c1] at hR
        by_cases c2 : h = 6
        · rw [if_pos c2] at hR; cases hR
        · rw [if_neg c2, l_tk_sk hpn] at hR
          have h1 : l_tk tx n p (x_w 4) = l_sk tx n p + 3 := l_tk_y c1
          have h2 : l_we tx n p = l_sk tx n p + 3 := l_isw_we c1
          obtain ⟨x, h3, h4⟩ := l_bi_inr hR
          cases h4
          rw [h1] at h3
          exact s_hts.of (ih 0 _ _ _ _ k _ _ _ (by omega) hk (by omega) hty hh h3) (fun j hj => s_code_ne (by omega) (by omega))
      · rw [if_neg c1] at hR
        by_cases c2 : l_see tx n p = 40
        · rw [if_pos c2] at hR
          by_cases c3 : h = 6
          · rw [if_pos c3] at hR; cases hR
          · rw [if_neg c3] at hR
            obtain ⟨x, h3, h4⟩ := l_bi_inr hR
            have h6 : l_sk tx n p < n := l_see_lt (by rw [c2]; decide)
            by_cases c4 : l_see tx n x.1 = 41
            · rw [if_pos c4] at h4
              cases h4
              exact ih 3 _ _ _ _ k _ _ _ (by omega) hk (by omega) hty hh h3
            · rw [if_neg c4] at h4; cases h4
        · rw [if_neg c2] at hR
          exact l_cmp_ht hs.2 hm hw hty hh hR
    · rw [l_prs_1] at hR
      obtain ⟨x, h3, h4⟩ := l_bi_inr hR
      obtain ⟨g0, gg, k1, g1, g2, g3⟩ := l_prs_ok hn8 (by omega) _ _ _ _ _ _ k _ _ _ hpn hk hk5 h3
      exact ih 2 _ _ _ _ k1 _ _ _ g0.2 g1 (by omega) (hty.of hm gg) (ih 0 _ _ _ _ k _ _ _ hpn hk hk5 hty hh h3) h4
    · rw [l_prs_2] at hR
      by_cases c1 : l_isw tx n p (x_w 3) = true
      · rw [if_pos c1] at hR
        have h1 : l_tk tx n p (x_w 3) = l_sk tx n p + 3 := l_tk_y c1
        have h2 : l_we tx n p = l_sk tx n p + 3 := l_isw_we c1
        obtain ⟨x, h3, h4⟩ := l_bi_inr hR
        rw [h1] at h3
        obtain ⟨g0, gg, k1, g1, g2, g3⟩ := l_prs_ok hn8 (by omega) _ _ _ _ _ _ k _ _ _ (by omega) hk (by omega) h3
        have e : n_ (x.2 9) = k1 := by rw [g1]; exact nI_clamp (by omega)
        rw [e] at h4
        exact ih 2 _ _ _ _ (k1 + 1) _ _ _ g0.2 s_code_9 (by change 5 * k1 + 2 * (l_sk tx n p + 3) + 1 ≤ 5 * k + 2 * x.1 at g3; omega) ((hty.of hm gg).of hm (fun j a b => s_code_ne (by omega) b)) (s_hts.of (ih 0 _ _ _ _ k _ _ _ (by omega) hk (by omega) hty hh h3) (fun j hj => s_code_ne (by omega) (by omega))) h4
      · rw [if_neg c1] at hR
        cases hR
        exact hh
    · rw [l_prs_3] at hR
      obtain ⟨x, h3, h4⟩ := l_bi_inr hR
      obtain ⟨g0, gg, k1, g1, g2, g3⟩ := l_prs_ok hn8 (by omega) _ _ _ _ _ _ k _ _ _ hpn hk hk5 h3
      exact ih 4 _ _ _ _ k1 _ _ _ g0.2 g1 (by omega) (hty.of hm gg) (ih 1 _ _ _ _ k _ _ _ hpn hk hk5 hty hh h3) h4
    · rw [l_prs_4] at hR
      by_cases c1 : l_isw tx n p (x_w 2) = true
      · rw [if_pos c1] at hR
        have h1 : l_tk tx n p (x_w 2) = l_sk tx n p + 2 := l_tk_y c1
        have h2 : l_we tx n p = l_sk tx n p + 2 := l_isw_we c1
        obtain ⟨x, h3, h4⟩ := l_bi_inr hR
        rw [h1] at h3
        have e0 : ∀ j, j < 455 → (bif z then s_clr rd fr (n_ (rd 9) - fr) else rd) j = rd j := fun j hj => by
          cases z with
          | true => exact s_clr_ne hj _
          | false => rfl
        have ty0 : s_ctyp (bif z then s_clr rd fr (n_ (rd 9) - fr) else rd) m := hty.of hm (fun j a b => e0 j (by omega))
        have hh0 : s_hts (bif z then s_clr rd fr (n_ (rd 9) - fr) else rd) w := hh.of (fun j hj => e0 _ (by omega))
        obtain ⟨g0, gg, k1, g1, g2, g3⟩ := l_prs_ok hn8 (by omega) _ _ _ _ _ _ k _ _ _ (by omega) ((e0 9 (by omega)).trans hk) (by omega) h3
        have e : n_ (x.2 9) = k1 := by rw [g1]; exact nI_clamp (by omega)
        rw [e] at h4
        exact ih 4 _ _ _ _ (k1 + 1) _ _ _ g0.2 s_code_9 (by change 5 * k1 + 2 * (l_sk tx n p + 2) + 1 ≤ 5 * k + 2 * x.1 at g3; omega) ((ty0.of hm gg).of hm (fun j a b => s_code_ne (by omega) b)) (s_hts.of (ih 1 _ _ _ _ k _ _ _ (by omega) ((e0 9 (by omega)).trans hk) (by omega) ty0 hh0 h3) (fun j hj => s_code_ne (by omega) (by omega))) h4
      · rw [if_neg c1] at hR
        cases hR
        exact hh
end HT
/-- the codes' bounds and the holes of a statement that is read -/
def s_ps1 (rd : Nat → Int32) (t : Nat) : Prop := s_hts rd t ∧ ∃ f g, rd (275 + 30 * t + 26) = nI f ∧ rd (275 + 30 * t + 27) = nI g ∧ f ≤ 320 ∧ g ≤ 320
theorem s_ps1.of {rd rd1 : Nat → Int32} {t : Nat} (h : s_ps1 rd t) (hc : ∀ x, 17 ≤ x → x < 28 → rd1 (275 + 30 * t + x) = rd (275 + 30 * t + x)) : s_ps1 rd1 t := by
  obtain ⟨h1, f, g, h2, h3, h4⟩ := h
  exact ⟨h1.of (fun j hj => hc _ (by omega) (by omega)), f, g, (hc 26 (by omega) (by omega)).trans h2, (hc 27 (by omega) (by omega)).trans h3, h4⟩
theorem l_prep_ps {tx rd rd1 : Nat → Int32} {n m s a p q k : Nat} (hn8 : n ≤ 800) (hm : m ≤ 5) (hs6 : s < 6) (hp : p ≤ n) (hk : rd 9 = nI k) (hk5 : 5 * k ≤ 2 * p) (hty : s_ctyp rd m) (h : l_prepLine tx n m s a p rd = .inr (q, rd1)) : s_ps1 rd1 s := by
  unfold l_prepLine at h
  by_cases e : s = 6
  · rw [if_pos e] at h; cases h
  · rw [if_neg e] at h
    obtain ⟨x, h1, h2⟩ := l_bi_inr h
    obtain ⟨y, h3, h4⟩ := l_bi_inr h2
    obtain ⟨g1, g2⟩ := l_fresh_ok h1 hp
    have hsl := l_sk_le (tx := tx) hp
    have h9 : s_prep x.2 s 9 = nI k := (s_prep_o (by omega)).trans ((g2 9 (by omega)).trans hk)
    have hrg := l_prs_rg (w := s) hn8 (by omega) _ _ _ _ _ _ k _ _ _ g1.2 h9 (by omega) h3
    obtain ⟨i0, i1, k1, i2, i3, i4⟩ := l_prs_ok hn8 (by omega) _ _ _ _ _ _ k _ _ _ g1.2 h9 (by omega) h3
    have hw := l_want_rd h4
    have hty2 : s_ctyp (s_prep x.2 s) m := hty.of hm (fun j a b => (s_prep_o (by omega)).trans (g2 j (by omega)))
    have hh2 : s_hts (s_prep x.2 s) s := fun j hj => by
      have e1 : s_prep x.2 s (275 + 30 * s + (17 + j)) = -1 := by
        unfold s_prep
        rw [updI_ne (by omega), updI_ne (by omega), s_p5_o 5 (by omega)]
        exact s_p4_at 4 hj
      rw [e1]
      exact Or.inl rfl
    have hh3 := l_prs_ht hn8 hm hs6 _ _ _ _ _ _ k _ _ _ g1.2 h9 (by omega) hty2 hh2 h3
    refine ⟨hh3.of (fun j hj => by rw [hw, updI_ne (by omega), updI_ne (by omega)]), k, k1, ?_, ?_, by omega, by have := i0.2; omega⟩
    · rw [hw, updI_ne (by omega), updI_ne (by omega), hrg _ (by omega) (by omega) (by omega)]
      unfold s_prep
      rw [updI_eq]
      exact (g2 9 (by omega)).trans hk
    · rw [hw, updI_ne (by omega), updI_eq]
      exact i2

