/-! ===== the reference's reader: conditions ===== -/
/-- the codes f to f + n are no longer plain -/
def s_clr (rd : Nat → Int32) (f : Nat) : Nat → Nat → Int32
  | 0 => rd
  | n + 1 => upd (s_clr rd f n) (455 + 6 * (f + n) + 5) 0
theorem s_clr_ne {rd : Nat → Int32} {f j : Nat} (hj : j < 455) : ∀ n, s_clr rd f n j = rd j
  | 0 => rfl
  | n + 1 => by
    show upd (s_clr rd f n) (455 + 6 * (f + n) + 5) 0 j = rd j
    rw [updI_ne (by omega)]
    exact s_clr_ne hj n
/-- a factor (0), a term (1), what follows a factor (2), a condition (3), what follows a term (4: is it the first) -/
def l_prs (tx : Nat → Int32) (n m w : Nat) : Nat → Nat → Bool → Nat → Nat → Nat → (Nat → Int32) → LR
  | 0, _, _, _, _, _, _ => .inl (0, 0)
  | f + 1, 0, z, h, _, p, rd =>
    if l_isw tx n p (x_w 4) = true then (if h = 6 then .inl (-8, l_sk tx n p) else l_bi (l_prs tx n m w f 0 false (h + 1) 0 (l_tk tx n (l_sk tx n p) (x_w 4)) rd) fun x => .inr (x.1, s_code x.2 (n_ (x.2 9)) 3 0))
    else if l_see tx n p = 40 then (if h = 6 then .inl (-8, l_sk tx n p) else l_bi (l_prs tx n m w f 3 z (h + 1) 0 (l_sk tx n p + 1) rd) fun x => if l_see tx n x.1 = 41 then .inr (l_sk tx n x.1 + 1, x.2) else .inl (-2, l_sk tx n x.1))
    else l_cmp tx n m w (n_ (rd 9)) z (l_sk tx n p) rd
  | f + 1, 1, z, h, _, p, rd => l_bi (l_prs tx n m w f 0 z h 0 p rd) fun x => l_prs tx n m w f 2 z h 0 x.1 x.2
  | f + 1, 2, z, h, _, p, rd => if l_isw tx n p (x_w 3) = true then l_bi (l_prs tx n m w f 0 z h 0 (l_tk tx n p (x_w 3)) rd) fun x => l_prs tx n m w f 2 z h 0 x.1 (s_code x.2 (n_ (x.2 9)) 1 0) else .inr (l_sk tx n p, rd)
  | f + 1, 3, z, h, _, p, rd => l_bi (l_prs tx n m w f 1 z h 0 p rd) fun x => l_prs tx n m w f 4 true h (n_ (rd 9)) x.1 x.2
  | f + 1, _ + 4, z, h, fr, p, rd => if l_isw tx n p (x_w 2) = true then l_bi (l_prs tx n m w f 1 false h 0 (l_tk tx n p (x_w 2)) (bif z then s_clr rd fr (n_ (rd 9) - fr) else rd)) fun x => l_prs tx n m w f 4 false h fr x.1 (s_code x.2 (n_ (x.2 9)) 2 0) else .inr (l_sk tx n p, rd)
section
variable {tx rd rd1 : Nat → Int32} {n m w p k : Nat}
theorem s_code_9 {op pl : Int32} : s_code rd k op pl 9 = nI (k + 1) := updI_eq
theorem s_code_ne {op pl : Int32} {j : Nat} (hj : j < 455) (h9 : j ≠ 9) : s_code rd k op pl j = rd j := by
  unfold s_code
  rw [updI_ne h9, updI_ne (by omega), updI_ne (by omega)]
theorem l_tk_y {v : List Int32} (h : l_isw tx n p v = true) : l_tk tx n p v = l_sk tx n p + v.length := by unfold l_tk; rw [h]; rfl
theorem l_tk_sk {v : List Int32} (h : p ≤ n) : l_tk tx n (l_sk tx n p) v = l_tk tx n p v := by unfold l_tk; rw [l_isw_sk h, l_sk_sk h]
theorem l_prs_0 {f h fr : Nat} {z : Bool} : l_prs tx n m w (f + 1) 0 z h fr p rd = if l_isw tx n p (x_w 4) = true then (if h = 6 then .inl (-8, l_sk tx n p) else l_bi (l_prs tx n m w f 0 false (h + 1) 0 (l_tk tx n (l_sk tx n p) (x_w 4)) rd) fun x => .inr (x.1, s_code x.2 (n_ (x.2 9)) 3 0))
    else if l_see tx n p = 40 then (if h = 6 then .inl (-8, l_sk tx n p) else l_bi (l_prs tx n m w f 3 z (h + 1) 0 (l_sk tx n p + 1) rd) fun x => if l_see tx n x.1 = 41 then .inr (l_sk tx n x.1 + 1, x.2) else .inl (-2, l_sk tx n x.1))
    else l_cmp tx n m w (n_ (rd 9)) z (l_sk tx n p) rd := rfl
theorem l_prs_1 {f h fr : Nat} {z : Bool} : l_prs tx n m w (f + 1) 1 z h fr p rd = l_bi (l_prs tx n m w f 0 z h 0 p rd) fun x => l_prs tx n m w f 2 z h 0 x.1 x.2 := rfl
theorem l_prs_2 {f h fr : Nat} {z : Bool} : l_prs tx n m w (f + 1) 2 z h fr p rd = if l_isw tx n p (x_w 3) = true then l_bi (l_prs tx n m w f 0 z h 0 (l_tk tx n p (x_w 3)) rd) fun x => l_prs tx n m w f 2 z h 0 x.1 (s_code x.2 (n_ (x.2 9)) 1 0) else .inr (l_sk tx n p, rd) := rfl
theorem l_prs_3 {f h fr : Nat} {z : Bool} : l_prs tx n m w (f + 1) 3 z h fr p rd = l_bi (l_prs tx n m w f 1 z h 0 p rd) fun x => l_prs tx n m w f 4 true h (n_ (rd 9)) x.1 x.2 := rfl
theorem l_prs_4 {f h fr md : Nat} {z : Bool} : l_prs tx n m w (f + 1) (md + 4) z h fr p rd = if l_isw tx n p (x_w 2) = true then l_bi (l_prs tx n m w f 1 false h 0 (l_tk tx n p (x_w 2)) (bif z then s_clr rd fr (n_ (rd 9) - fr) else rd)) fun x => l_prs tx n m w f 4 false h fr x.1 (s_code x.2 (n_ (x.2 9)) 2 0) else .inr (l_sk tx n p, rd) := rfl
end
/-- what reading from p to q, with k codes before it, leaves as it was, and how many codes there are then -/
def s_pk (c : Nat) (rd rd1 : Nat → Int32) (p q k n : Nat) : Prop :=
  (p ≤ q ∧ q ≤ n) ∧ (∀ j, j < 275 → j ≠ 9 → rd1 j = rd j) ∧ ∃ k', rd1 9 = nI k' ∧ k ≤ k' ∧ 5 * k' + 2 * p + c ≤ 5 * k + 2 * q
def s_ml : Nat → Nat
  | 0 => 1
  | 1 => 1
  | 2 => 0
  | 3 => 1
  | _ + 4 => 0
section
variable {tx : Nat → Int32} {n m w : Nat}
theorem s_pk.trans {rd rd1 rd2 : Nat → Int32} {p q q2 k k1 c c1 : Nat} (h : s_pk c rd rd1 p q k n) (hk : rd1 9 = nI k1) (hk8 : 5 * k1 ≤ 2 * q) (hn8 : n ≤ 800) (hk0 : 5 * k ≤ 2 * p) (g : s_pk c1 rd1 rd2 q q2 k1 n) : s_pk (c + c1) rd rd2 p q2 k n := by
  obtain ⟨h1, h2, k', h3, h4, h5⟩ := h
  obtain ⟨g1, g2, k2, g3, g4, g5⟩ := g
  have e : k' = k1 := (nI_eq (by omega) (by omega)).mp (h3.symm.trans hk)
  subst e
  exact ⟨by omega, fun j hj h9 => (g2 j hj h9).trans (h2 j hj h9), k2, g3, by omega, by omega⟩
theorem l_opd_ok {rd rd1 : Nat → Int32} {p q : Nat} {t kd v : Int32} (hpn : p ≤ n) (hm : m < 1000) (h : l_opd tx n m w p t rd = .inr (kd, q, v, rd1)) : (p < q ∧ q ≤ n) ∧ (∀ j, j < 275 → rd1 j = rd j) := by
  have hs := l_sk_le (tx := tx) hpn
  have hss := l_sk_sk (tx := tx) hpn
  unfold l_opd at h
  by_cases h1 : (48 : Int32) ≤ l_see tx n p ∧ l_see tx n p ≤ 57
  · rw [if_pos h1] at h
    obtain ⟨x, h2, h3⟩ := l_bi_inr h
    cases h3
    have h4 := l_reads_ok h2 hs.2
    exact ⟨by omega, fun _ _ => rfl⟩
  · rw [if_neg h1] at h
    by_cases h2 : l_see tx n p = 63
    · rw [if_pos h2] at h
      obtain ⟨x, h3, h4⟩ := l_bi_inr h
      cases h4
      obtain ⟨y, h5, h6⟩ := l_bi_inr h3
      have h7 : l_sk tx n p < n := l_sk_lt3 h2
      have h8 := l_reads_ok h5 (show l_sk tx n p + 1 ≤ n by omega)
      have h9 := l_sk_le (tx := tx) (show l_sk tx n p + 1 ≤ n by omega)
      by_cases hc : ¬ rd (275 + 30 * w + (17 + n_ y.2)) = -1 ∧ ¬ rd (275 + 30 * w + (17 + n_ y.2)) = t
      · rw [if_pos hc] at h6; cases h6
      · rw [if_neg hc] at h6
        cases h6
        exact ⟨by show p < y.1 ∧ y.1 ≤ n; omega, fun j hj => updI_ne (by omega)⟩
    · rw [if_neg h2] at h
      obtain ⟨x, h3, h4⟩ := l_bi_inr h
      cases h4
      obtain ⟨y, h5, h6⟩ := l_bi_inr h3
      have h8 := l_known_ok h5 hs.2 hm
      by_cases hc : rd (10 + 13 * n_ y.2 + 8) = t
      · rw [if_pos hc] at h6
        cases h6
        exact ⟨by omega, fun _ _ => rfl⟩
      · rw [if_neg hc] at h6; cases h6
theorem s_cmpc_9 {rd : Nat → Int32} {k : Nat} {z : Bool} {c sg kd wi : Int32} : s_cmpc rd k z c sg kd wi 9 = nI (k + 1) := by
  unfold s_cmpc
  rw [updI_ne (by omega), updI_ne (by omega), updI_ne (by omega), updI_ne (by omega)]
  exact s_code_9
theorem s_cmpc_ne {rd : Nat → Int32} {k j : Nat} {z : Bool} {c sg kd wi : Int32} (hj : j < 455) (h9 : j ≠ 9) : s_cmpc rd k z c sg kd wi j = rd j := by
  unfold s_cmpc
  rw [updI_ne (by omega), updI_ne (by omega), updI_ne (by omega), updI_ne (by omega)]
  exact s_code_ne hj h9
theorem l_cmp_ok {rd rd1 : Nat → Int32} {p q k : Nat} {z : Bool} (hpn : p ≤ n) (hm : m < 1000) (h : l_cmp tx n m w k z p rd = .inr (q, rd1)) : s_pk 1 rd rd1 p q k n := by
  have hs := l_sk_le (tx := tx) hpn
  obtain ⟨x, h1, h2⟩ := l_bi_inr h
  have h3 := l_known_ok h1 hpn hm
  by_cases hc : l_see tx n x.1 = 60 ∨ l_see tx n x.1 = 61 ∨ l_see tx n x.1 = 62
  · rw [if_pos hc] at h2
    obtain ⟨⟨kd4, q4, v4, rd4⟩, h4, h5⟩ := l_bi_inr h2
    cases h5
    have h6 : l_sk tx n x.1 < n := l_see_lt (by rcases hc with h | h | h <;> rw [h] <;> decide)
    have h7 := l_sk_le (tx := tx) h3.1.2
    have h8 := l_opd_ok (show l_sk tx n x.1 + 1 ≤ n by omega) hm h4
    show s_pk 1 rd (s_cmpc rd4 k z x.2 (l_see tx n x.1) kd4 v4) p q4 k n
    exact ⟨by omega, fun j hj h9 => (s_cmpc_ne (by omega) h9).trans (h8.2 j hj), k + 1, s_cmpc_9, by omega, by omega⟩
  · rw [if_neg hc] at h2; cases h2
theorem s_pk_code {rd rd1 : Nat → Int32} {p q k n c b : Nat} {op pl : Int32} (h : s_pk c rd rd1 (p + b) q k n) (hb : 5 ≤ 2 * b) (hk : 5 * k ≤ 2 * p) (hn8 : n ≤ 800) : s_pk c rd (s_code rd1 (n_ (rd1 9)) op pl) p q k n := by
  obtain ⟨h1, h2, k', h3, h4, h5⟩ := h
  have e : n_ (rd1 9) = k' := by rw [h3]; exact nI_clamp (by omega)
  rw [e]
  exact ⟨by omega, fun j hj h9 => (s_code_ne (by omega) h9).trans (h2 j hj h9), k' + 1, s_code_9, by omega, by omega⟩
theorem s_pk_wk {rd rd1 : Nat → Int32} {p p' q q' k c c' : Nat} (h : s_pk c rd rd1 p' q' k n) (h1 : p ≤ p' ∧ q' ≤ q ∧ q ≤ n) (h2 : c' ≤ c + 2 * (p' - p) + 2 * (q - q')) : s_pk c' rd rd1 p q k n := by
  obtain ⟨g1, g2, k', g3, g4, g5⟩ := h
  exact ⟨by omega, g2, k', g3, g4, by omega⟩
theorem l_prs_ok (hn8 : n ≤ 800) (hm : m < 1000) : ∀ (f md : Nat) (z : Bool) (h fr p k : Nat) (rd rd1 : Nat → Int32) (q : Nat), p ≤ n → rd 9 = nI k → 5 * k ≤ 2 * p → l_prs tx n m w f md z h fr p rd = .inr (q, rd1) → s_pk (s_ml md) rd rd1 p q k n := by
  intro f
  induction f with
  | zero => intro md z h fr p k rd rd1 q _ _ _ hR; cases hR
  | succ f ih =>
    intro md z h fr p k rd rd1 q hpn hk hk5 hR
    have hs := l_sk_le (tx := tx) hpn
    have hwe := l_we_le (tx := tx) hpn
    rcases md with _ | _ | _ | _ | md
    · rw [l_prs_0] at hR
      by_cases c1 : l_isw tx n p (x_w 4) = true
      · rw [if_pos c1] at hR
        by_cases c2 : h = 6
        · rw [if_pos c2] at hR; cases hR
        · rw [if_neg c2, l_tk_sk hpn] at hR
          have h1 : l_tk tx n p (x_w 4) = l_sk tx n p + 3 := l_tk_y c1
          have h2 := l_isw_we c1
          have h2' : l_we tx n p = l_sk tx n p + 3 := h2
          obtain ⟨x, h3, h4⟩ := l_bi_inr hR
          cases h4
          rw [h1] at h3
          have h5 := ih 0 _ _ _ _ k _ _ _ (by omega) hk (by omega) h3
          exact s_pk_wk (s_pk_code (b := 3) h5 (by decide) (by omega) hn8) ⟨hs.1, Nat.le_refl _, h5.1.2⟩ (by show 1 ≤ s_ml 0 + _ + _; exact Nat.le_trans (Nat.le_add_right 1 _) (Nat.le_add_right _ _))
      · rw [if_neg c1] at hR
        by_cases c2 : l_see tx n p = 40
        · rw [if_pos c2] at hR
          by_cases c3 : h = 6
          · rw [if_pos c3] at hR; cases hR
          · rw [if_neg c3] at hR
            obtain ⟨x, h3, h4⟩ := l_bi_inr hR
            have h6 : l_sk tx n p < n := l_see_lt (by rw [c2]; decide)
            have h5 := ih 3 _ _ _ _ k _ _ _ (by omega) hk (by omega) h3
            have h8 := h5.1
            by_cases c4 : l_see tx n x.1 = 41
            · rw [if_pos c4] at h4
              cases h4
              have h7 : l_sk tx n x.1 < n := l_see_lt (by rw [c4]; decide)
              have h9 := l_sk_le (tx := tx) h8.2
              exact s_pk_wk h5 ⟨by omega, by omega, by omega⟩ (by show 1 ≤ 1 + _ + _; omega)
            · rw [if_neg c4] at h4; cases h4
        · rw [if_neg c2, show n_ (rd 9) = k by rw [hk]; exact nI_clamp (by omega)] at hR
          exact s_pk_wk (l_cmp_ok hs.2 hm hR) ⟨hs.1, Nat.le_refl _, (l_cmp_ok hs.2 hm hR).1.2⟩ (by show 1 ≤ 1 + _ + _; omega)
    · rw [l_prs_1] at hR
      obtain ⟨x, h3, h4⟩ := l_bi_inr hR
      have h5 := ih 0 _ _ _ _ k _ _ _ hpn hk hk5 h3
      obtain ⟨k1, g1, g2, g3⟩ := id h5.2.2
      have g4 : 5 * k1 ≤ 2 * x.1 := by omega
      have h6 := ih 2 _ _ _ _ k1 _ _ _ h5.1.2 g1 g4 h4
      exact s_pk.trans h5 g1 g4 hn8 hk5 h6
    · rw [l_prs_2] at hR
      by_cases c1 : l_isw tx n p (x_w 3) = true
      · rw [if_pos c1] at hR
        have h1 : l_tk tx n p (x_w 3) = l_sk tx n p + 3 := l_tk_y c1
        have h2' : l_we tx n p = l_sk tx n p + 3 := l_isw_we c1
        obtain ⟨x, h3, h4⟩ := l_bi_inr hR
        rw [h1] at h3
        have h5 := s_pk_wk (c' := 1) (s_pk_code (op := 1) (pl := 0) (b := 3) (ih 0 _ _ _ _ k _ _ _ (by omega) hk (by omega) h3) (by decide) (by omega) hn8) ⟨hs.1, Nat.le_refl _, (ih 0 _ _ _ _ k _ _ _ (by omega) hk (by omega) h3).1.2⟩ (by show 1 ≤ 1 + _ + _; omega)
        obtain ⟨k1, g1, g2, g3⟩ := id h5.2.2
        have g4 : 5 * k1 ≤ 2 * x.1 := by omega
        have h6 := ih 2 _ _ _ _ k1 _ _ _ h5.1.2 g1 g4 h4
        exact s_pk_wk (s_pk.trans h5 g1 g4 hn8 hk5 h6) ⟨Nat.le_refl _, Nat.le_refl _, h6.1.2⟩ (Nat.zero_le _)
      · rw [if_neg c1] at hR
        cases hR
        exact ⟨hs, fun _ _ _ => rfl, k, hk, Nat.le_refl _, by show 5 * k + 2 * p + 0 ≤ 5 * k + 2 * l_sk tx n p; omega⟩
    · rw [l_prs_3] at hR
      obtain ⟨x, h3, h4⟩ := l_bi_inr hR
      have h5 := ih 1 _ _ _ _ k _ _ _ hpn hk hk5 h3
      obtain ⟨k1, g1, g2, g3⟩ := id h5.2.2
      have g4 : 5 * k1 ≤ 2 * x.1 := by omega
      have h6 := ih 4 _ _ _ _ k1 _ _ _ h5.1.2 g1 g4 h4
      exact s_pk.trans h5 g1 g4 hn8 hk5 h6
    · rw [l_prs_4] at hR
      by_cases c1 : l_isw tx n p (x_w 2) = true
      · rw [if_pos c1] at hR
        have h1 : l_tk tx n p (x_w 2) = l_sk tx n p + 2 := l_tk_y c1
        have h2' : l_we tx n p = l_sk tx n p + 2 := l_isw_we c1
        obtain ⟨x, h3, h4⟩ := l_bi_inr hR
        rw [h1] at h3
        have e0 : ∀ j, j < 275 → (bif z then s_clr rd fr (n_ (rd 9) - fr) else rd) j = rd j := fun j hj => by
          cases z with
          | true => exact s_clr_ne (by omega) _
          | false => rfl
        have h50 := ih 1 _ _ _ _ k _ _ _ (by omega) ((e0 9 (by omega)).trans hk) (by omega) h3
        obtain ⟨k0, i1, i2, i3⟩ := id h50.2.2
        have i0 := h50.1
        change 5 * k0 + 2 * (l_sk tx n p + 2) + 1 ≤ 5 * k + 2 * x.1 at i3
        have e : n_ (x.2 9) = k0 := by rw [i1]; exact nI_clamp (by omega)
        rw [e] at h4
        have h5 : s_pk 0 rd (s_code x.2 k0 2 0) p x.1 k n := ⟨by omega, fun j hj h9 => (s_code_ne (by omega) h9).trans ((h50.2.1 j hj h9).trans (e0 j hj)), k0 + 1, s_code_9, by omega, by omega⟩
        have h6 := ih 4 _ _ _ _ (k0 + 1) _ _ _ h50.1.2 s_code_9 (by omega) h4
        exact s_pk.trans h5 s_code_9 (by omega) hn8 hk5 h6
      · rw [if_neg c1] at hR
        cases hR
        exact ⟨hs, fun _ _ _ => rfl, k, hk, Nat.le_refl _, by show 5 * k + 2 * p + 0 ≤ 5 * k + 2 * l_sk tx n p; omega⟩
end
