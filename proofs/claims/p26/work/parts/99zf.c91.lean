/-! ===== bounds: estimates, costs, plans ===== -/
/-- limited to 0 .. n -/
theorem y_clampN {n : Nat} (hn : n < 2147483648) (y : Int32) : ∃ q, q ≤ n ∧ x_max 0 (x_min (nI n) y) = nI q := by
  unfold x_max x_min
  by_cases h1 : y < nI n
  · rw [if_pos h1]
    by_cases h2 : (0 : Int32) < y
    · rw [if_pos h2]
      obtain ⟨j, j1, j2⟩ := nI_of (x := y) (fun h => by
        have a := Int32.lt_iff_toInt_lt.mp h
        have b := Int32.lt_iff_toInt_lt.mp h2
        omega)
      rw [j2] at h1
      exact ⟨j, Nat.le_of_lt ((n_lt rfl rfl j1 hn).mp h1), j2⟩
    · rw [if_neg h2]
      exact ⟨0, Nat.zero_le _, rfl⟩
  · rw [if_neg h1]
    by_cases h2 : (0 : Int32) < nI n
    · rw [if_pos h2]
      exact ⟨n, Nat.le_refl _, rfl⟩
    · rw [if_neg h2]
      exact ⟨0, Nat.zero_le _, rfl⟩
theorem s_up_b {n u : Nat} (hn : n ≤ 40) (hu : u ≤ 40) (h1 : 1 ≤ u) : ∃ q, q ≤ 40 ∧ s_up (nI n) (nI u) = nI q := by
  unfold s_up
  rw [nI_add, show (1 : Int32) = nI 1 from rfl, pk_sub (by omega), pk_div (by omega) h1 (by omega)]
  refine ⟨_, ?_, rfl⟩
  have h2 : (n + u - 1) / u ≤ n + u - 1 := Nat.div_le_self _ _
  by_cases hn0 : n = 0
  · subst hn0; omega
  · have : (n + u - 1) / u ≤ n := by
      refine Nat.div_le_of_le_mul ?_
      have h3 : n + u ≤ u * n + 1 := by
        obtain ⟨a, rfl⟩ : ∃ a, n = a + 1 := ⟨n - 1, by omega⟩
        obtain ⟨b, rfl⟩ : ∃ b, u = b + 1 := ⟨u - 1, by omega⟩
        have : (b + 1) * (a + 1) = b * a + b + a + 1 := by
          rw [Nat.add_mul, Nat.mul_add]; omega
        rw [this]
        omega
      omega
    omega
/-- an estimate is at most the number of rows -/
theorem s_est_b {e gv : Nat → Int32} {k : Nat} {z : Bool} (hwf : s_wf e) (hc : s_cmpok e k) : ∃ q, q ≤ 40 ∧ s_est e gv k z = nI q := by
  obtain ⟨⟨j, hj, hj1⟩, -, -⟩ := hc
  obtain ⟨n, hn40, hn⟩ := hwf.seen
  have hcm5 := hwf.cmE.2
  obtain ⟨-, -, ⟨u, hu40, hu, hu1⟩, a, b, hab, hb, ha, hb'⟩ := hwf.col j hj
  have ej : (s_cod e k 1).toNatClampNeg = j := n_of hj1 (by omega)
  unfold s_est
  rw [ej]
  unfold s_est0
  by_cases h0 : e 8 = 0
  · rw [if_pos h0]
    exact ⟨0, by omega, rfl⟩
  · rw [if_neg h0]
    have hu2 := hu1 h0
    have hup : ∃ q, q ≤ 40 ∧ s_up (e 8) (s_col e j 10) = nI q := by rw [hn, hu]; exact s_up_b hn40 hu40 hu2
    have seen : ∀ v : Int32, ∃ q, q ≤ 40 ∧ s_seen e k j v = nI q := by
      intro v
      unfold s_seen
      by_cases h61 : s_cod e k 2 = 61
      · rw [if_pos h61]
        by_cases c1 : v < s_col e j 11
        · rw [if_pos c1]; exact ⟨0, by omega, rfl⟩
        · rw [if_neg c1]
          by_cases c2 : s_col e j 12 < v
          · rw [if_pos c2]; exact ⟨0, by omega, rfl⟩
          · rw [if_neg c2]; exact hup
      · rw [if_neg h61, hn]
        obtain ⟨q, q1, q2⟩ := y_clampN (n := n) (by omega) (nI n * (if s_cod e k 2 = 60 then v - s_col e j 11 else s_col e j 12 - v) / (s_col e j 12 - s_col e j 11 + 1))
        exact ⟨q, by omega, q2⟩
    by_cases h2 : s_cod e k 3 = 2
    · rw [if_pos h2]
      cases z with
      | true => exact seen _
      | false =>
        show ∃ q, q ≤ 40 ∧ (if s_cod e k 2 = 61 then s_up (e 8) (s_col e j 10) else (e 8 + 2) / 3) = nI q
        by_cases h61 : s_cod e k 2 = 61
        · rw [if_pos h61]; exact hup
        · rw [if_neg h61, hn, show (2 : Int32) = nI 2 from rfl, nI_add, show (3 : Int32) = nI 3 from rfl, pk_div (by omega) (by omega) (by omega)]
          exact ⟨_, by omega, rfl⟩
    · rw [if_neg h2]
      exact seen _
/-- what a plan costs -/
theorem s_cost_b {e gv : Nat → Int32} {s t : Nat} {p : Int32} {z : Bool} (hi : s_inv t e) (hs : s < s_sm e) (hp : p = -1 ∨ ∃ j, j < 5 ∧ p = nI j) : (p = -1 ∧ ∃ r, r ≤ 39699 ∧ s_cost e gv s p z = nI r) ∨ (¬ p = -1 ∧ (s_cost e gv s p z = -1 ∨ ∃ r, r ≤ 39699 ∧ s_cost e gv s p z = nI r)) := by
  obtain ⟨hwf, ⟨⟨a4, b4, c4⟩, ⟨a5, b5, c5⟩, ⟨a6, b6, c6⟩⟩, -, hst⟩ := hi
  obtain ⟨-, -, -, -, hpc⟩ := hst s hs
  obtain ⟨n, hn40, hn⟩ := hwf.seen
  by_cases e1 : p = -1
  · refine Or.inl ⟨e1, a4 * n, ?_, ?_⟩
    · have : a4 * n ≤ 99 * 40 := Nat.mul_le_mul b4 hn40
      omega
    · unfold s_cost
      rw [if_pos e1, c4, hn]
      exact pk_mul a4 n
  · refine Or.inr ⟨e1, ?_⟩
    obtain ⟨j, hj, hpj⟩ := hp.resolve_left e1
    have ej : p.toNatClampNeg = j := n_of hpj (by omega)
    unfold s_cost s_cost1
    rw [if_neg e1, ej]
    by_cases h9 : s_col e j 9 = 1
    · rw [if_pos h9]
      by_cases hch : s_chosen e gv s p z = -1
      · rw [if_pos hch]; exact Or.inl rfl
      · rw [if_neg hch]
        obtain ⟨k, k1, k2⟩ := (s_chosen_ok (gv := gv) (col := p) (z := z) (hwf.kok hs)).resolve_left hch
        have hk325 := (s_kok_ft (hwf.kok hs)).2.1
        have ek : (s_chosen e gv s p z).toNatClampNeg = k := n_of k2 (by omega)
        obtain ⟨q, q1, q2⟩ := s_est_b (gv := gv) (z := z) hwf ((hwf.st s hs).2.2 k k1.1 k1.2.1 k1.2.2.1)
        obtain ⟨r, r1, r2⟩ := hpc j hj
        rw [ek, q2, r2, c5, c6, pk_mul, show (100 : Int32) = nI 100 from rfl]
        have hqr : q * r ≤ 40 * 1000 := Nat.mul_le_mul q1 r1
        rw [pk_div (by omega) (by omega) (by omega), pk_mul, nI_add]
        refine Or.inr ⟨_, ?_, rfl⟩
        have h3 : q * r / 100 ≤ 400 := by omega
        have h4 : a6 * (q * r / 100) ≤ 99 * 400 := Nat.mul_le_mul b6 h3
        omega
    · rw [if_neg h9]; exact Or.inl rfl
/-- the best plan, its cost -/
theorem s_bst_b {e gv : Nat → Int32} {s t : Nat} {z : Bool} (hi : s_inv t e) (hs : s < s_sm e) : ∀ m, m ≤ 5 → (s_bst e gv s z m).2 = s_cost e gv s (s_bst e gv s z m).1 z ∧ ∃ r, r ≤ 39699 ∧ (s_bst e gv s z m).2 = nI r
  | 0, _ => by
    rcases s_cost_b (gv := gv) (z := z) hi hs (Or.inl rfl) with ⟨-, h⟩ | ⟨h, -⟩
    · exact ⟨rfl, h⟩
    · exact absurd rfl h
  | m + 1, hm => by
    obtain ⟨h1, h2⟩ := s_bst_b (gv := gv) (z := z) hi hs m (by omega)
    show (s_bst1 (s_bst e gv s z m) m (s_cost e gv s (nI m) z)).2 = s_cost e gv s (s_bst1 (s_bst e gv s z m) m (s_cost e gv s (nI m) z)).1 z ∧ ∃ r, r ≤ 39699 ∧ (s_bst1 (s_bst e gv s z m) m (s_cost e gv s (nI m) z)).2 = nI r
    unfold s_bst1
    by_cases e1 : s_cost e gv s (nI m) z = -1
    · rw [if_pos e1]; exact ⟨h1, h2⟩
    · rw [if_neg e1]
      by_cases e2 : s_cost e gv s (nI m) z < (s_bst e gv s z m).2
      · rw [if_pos e2]
        refine ⟨rfl, ?_⟩
        rcases s_cost_b (gv := gv) (p := nI m) (z := z) hi hs (Or.inr ⟨m, by omega, rfl⟩) with ⟨h, -⟩ | ⟨-, h⟩
        · exact absurd h (nI_ne_m1 (by omega))
        · exact h.resolve_left e1
      · rw [if_neg e2]; exact ⟨h1, h2⟩
theorem s_best_b {e gv : Nat → Int32} {s t : Nat} {z : Bool} (hi : s_inv t e) (hs : s < s_sm e) : ∃ r, r ≤ 39699 ∧ s_cost e gv s (s_best e gv s (s_cm e) z) z = nI r := by
  obtain ⟨h1, h2⟩ := s_bst_b (gv := gv) (z := z) hi hs (s_cm e) hi.1.cmE.2
  unfold s_best
  rw [← h1]
  exact h2
/-- what the other statements have stays -/
def s_oth (c c' : Nat → Int32) (s : Nat) : Prop := ∀ k, (k < 275 + 30 * s ∨ 275 + 30 * s + 30 ≤ k) → c' k = c k
theorem s_oth_rfl {c : Nat → Int32} {s : Nat} : s_oth c c s := fun _ _ => rfl
theorem s_oth_upd {c c' : Nat → Int32} {s k : Nat} {v : Int32} (h : s_oth c c' s) (hk : 275 + 30 * s ≤ k ∧ k < 275 + 30 * s + 30) : s_oth c (upd c' k v) s := fun j hj => by
  rw [updI_ne (by omega)]
  exact h j hj
theorem s_mkg_oth {c gv : Nat → Int32} {s : Nat} : s_oth c (s_mkg c gv s) s := by
  unfold s_mkg
  by_cases h : s_fresh c s
  · rw [if_pos h]; exact s_oth_rfl
  · rw [if_neg h]
    exact s_oth_upd (s_oth_upd (s_oth_upd (s_oth_upd s_oth_rfl (by omega)) (by omega)) (by omega)) (by omega)
theorem s_r1_oth {c gv : Nat → Int32} {s : Nat} : s_oth c (s_r1 c gv s) s := by
  unfold s_r1
  by_cases h : s_late c s
  · rw [if_pos h]; exact s_mkg_oth
  · rw [if_neg h]; exact s_oth_rfl
theorem s_r2_oth {c gv : Nat → Int32} {s : Nat} : s_oth c (s_r2 c gv s) s := by
  unfold s_r2
  by_cases h : s_keep c gv s
  · rw [if_pos h]; exact s_mkg_oth
  · rw [if_neg h]; exact s_oth_upd (s_oth_upd s_r1_oth (by omega)) (by omega)
theorem s_run_oth {c gv : Nat → Int32} {s : Nat} (hp : s_rplan c gv s = -1 ∨ ∃ j, j < 5 ∧ s_rplan c gv s = nI j) : s_oth c (s_run c gv s) s := by
  have h3 : s_oth c (s_r3 c gv s) s := s_oth_upd s_r2_oth (by omega)
  unfold s_run s_tou s_tou1
  by_cases e0 : s_rplan c gv s = -1
  · rw [if_pos e0, if_pos rfl]
    exact s_oth_upd h3 (by omega)
  · rw [if_neg e0]
    obtain ⟨j, hj, ej⟩ := hp.resolve_left e0
    have en : (s_rplan c gv s).toNatClampNeg = j := n_of ej (by omega)
    rw [en]
    by_cases e1 : s_chosen (s_r3 c gv s) gv s (s_rplan c gv s) (!decide (s_keep c gv s)) = -1
    · rw [if_pos e1]
      exact s_oth_upd h3 (by omega)
    · rw [if_neg e1]
      exact s_oth_upd (s_oth_upd h3 (by omega)) (by omega)
theorem s_unb_oth {t : Nat} {c c' : Nat → Int32} {s q : Nat} (h : s_oth c c' s) (hq : q ≠ s) (hu : s_unb t c q) : s_unb t c' q := by
  have e : ∀ x, x < 30 → s_st c' q x = s_st c q x := fun x hx => h _ (by omega)
  obtain ⟨⟨a, a1, a2⟩, ⟨b, b1, b2⟩, ⟨d, d1, d2⟩, h4⟩ := hu
  exact ⟨⟨a, a1, (e 9 (by omega)).trans a2⟩, ⟨b, b1, (e 10 (by omega)).trans b2⟩, ⟨d, d1, (e 15 (by omega)).trans d2⟩, fun j hj => by
    obtain ⟨f, f1, f2⟩ := h4 j hj
    exact ⟨f, f1, (e (21 + j) (by omega)).trans f2⟩⟩
theorem s_unb_mono {t t' : Nat} {c : Nat → Int32} {s : Nat} (h : t ≤ t') (hu : s_unb t c s) : s_unb t' c s := by
  obtain ⟨⟨a, a1, a2⟩, ⟨b, b1, b2⟩, h3, h4⟩ := hu
  exact ⟨⟨a, by omega, a2⟩, ⟨b, by omega, b2⟩, h3, h4⟩
theorem s_inv_mono {t t' : Nat} {c : Nat → Int32} (h : t ≤ t') (hi : s_inv t c) : s_inv t' c := ⟨hi.1, hi.2.1, hi.2.2.1, fun s hs => ⟨(hi.2.2.2 s hs).1, s_unb_mono h (hi.2.2.2 s hs).2⟩⟩
theorem s_mkg_unb {t : Nat} {c gv : Nat → Int32} {s : Nat} (hi : s_inv t c) (hs : s < s_sm c) : s_unb t (s_mkg c gv s) s := by
  obtain ⟨h1, h2, h3, h4⟩ := (hi.2.2.2 s hs).2
  obtain ⟨r, r1, r2⟩ := s_best_b (gv := gv) (z := false) hi hs
  unfold s_mkg
  by_cases h : s_fresh c s
  · rw [if_pos h]; exact ⟨h1, h2, h3, h4⟩
  · rw [if_neg h]
    obtain ⟨a, a1, a2⟩ := h1
    obtain ⟨b, b1, b2⟩ := h2
    refine ⟨⟨a, a1, ?_⟩, ⟨b, b1, ?_⟩, ⟨r, r1, ?_⟩, fun j hj => ?_⟩
    · show upd _ _ _ _ = _
      rw [updI_ne (by omega), updI_ne (by omega), updI_ne (by omega), updI_ne (by omega)]
      exact a2
    · show upd _ _ _ _ = _
      rw [updI_ne (by omega), updI_ne (by omega), updI_ne (by omega), updI_ne (by omega)]
      exact b2
    · show upd _ _ _ _ = _
      rw [updI_ne (by omega), updI_ne (by omega), updI_eq]
      exact r2
    · obtain ⟨f, f1, f2⟩ := h4 j hj
      refine ⟨f, f1, ?_⟩
      show upd _ _ _ _ = _
      rw [updI_ne (by omega), updI_ne (by omega), updI_ne (by omega), updI_ne (by omega)]
      exact f2
/-- int and long compare alike there -/
theorem s_hov {t : Nat} {c gv : Nat → Int32} {s : Nat} (ht : t ≤ 512) (hi : s_inv t c) (hs : s < s_sm c) : s_gen (s_mkg c gv s) s (s_st (s_mkg c gv s) s 15) ↔ s_st (s_mkg c gv s) s 15 * s_st (s_mkg c gv s) s 9 ≤ s_st (s_mkg c gv s) s 10 := by
  obtain ⟨⟨a, a1, a2⟩, ⟨b, b1, b2⟩, ⟨r, r1, r2⟩, -⟩ := s_mkg_unb (gv := gv) hi hs
  have hm : r * a ≤ 39699 * 512 := Nat.mul_le_mul r1 (by omega)
  have hb : b ≤ 39699 * 512 := Nat.le_trans b1 (Nat.mul_le_mul_left _ ht)
  rw [a2, b2, r2]
  unfold s_gen
  rw [nI_l (by omega), a2, b2, nI_l (by omega), nI_l (by omega), lN_mul, pk_mul, lN_le (by omega) (by omega), nI_leI (by omega) (by omega)]

