/-! ===== the law's start (wip/whole/gen_d12.py) ===== -/
/-- the old cells: NONE_SEEN, the script -/
def q_M0 (n : Nat) (xs : Nat → Int32) : XH := fun k => if k = 1 then some (.inr (false, .int, 4, fun _ => .int (-1))) else if k = 56 then some (.inr (false, .int, n, fun j => .int (xs j))) else none
/-- .. and the first Setup's -/
def q_B (n : Nat) (xs : Nat → Int32) : XH := fun k => if k = 71 then some (.inl (5, stV 72 73 74 s_pl)) else if k = 72 then some (.inr (true, .long, 5, fun _ => .long 0)) else if k = 73 then some (.inr (true, .int, 5, fun _ => .int 0)) else if k = 74 then some (.inl (0, lV 0 2 0)) else q_M0 n xs k
def q_J : Nat → Int32 := upd (fun _ => 0) 2 (-1)
def q_K : Nat → Int32 := upd (fun _ => 0) 5 256
/-- the cells at the loop's head -/
def q_N (n : Nat) (xs : Nat → Int32) : XH := cset (L_X (q_B n xs) 0 s_I0 0 (updR (fun _ _ => 0) 0 s_pl) s_pl (fun _ => 0) (fun _ => 0) (fun _ => false)) q_J (fun _ => 0) q_K (fun _ => 0) (fun _ => 0) 0 (fun _ => 0) (fun _ => 71) (fun _ => s_dz)
/-- the cells as they are made -/
def q_H (n : Nat) (xs : Nat → Int32) : XH := x_set (x_set (mset (k_at (k_at (q_M0 n xs) 64 (zC 10 ++ zDs 10)) 281 []) s_I0 0 (updR (fun _ _ => 0) 0 s_pl) s_pl (fun _ => 0) (fun _ => 0) (fun _ => 0)) 281 (.inr (true, .long, 1, fun _ => defaultValue .long))) 0 (x_gh 282)
theorem q_LB {n : Nat} {xs : Nat → Int32} : L_B (q_B n xs) n xs := by
  refine ⟨rfl, rfl, fun k h1 h2 => ?_, ⟨⟨by omega, by omega⟩, false, rfl⟩, rfl⟩
  unfold q_B q_M0
  rw [if_neg (by omega), if_neg (by omega), if_neg (by omega), if_neg (by omega), if_neg (by omega), if_neg (by omega)]
theorem q_cm : s_cm s_pl = 0 := rfl
theorem q_lm : s_lm s_pl = 0 := rfl
theorem q_sm : s_sm s_pl = 0 := rfl
theorem q_inv : s_inv 0 s_pl := by
  refine ⟨⟨⟨⟨0, by omega, rfl⟩, ⟨0, by omega, rfl⟩, ⟨0, by omega, rfl⟩, ⟨0, by omega, rfl⟩⟩, fun j h => ?_, fun s h => ?_, fun s h => ?_⟩, ⟨⟨1, by omega, rfl⟩, ⟨3, by omega, rfl⟩, ⟨2, by omega, rfl⟩⟩, fun l h => ?_, fun s h => ?_⟩
  · rw [q_cm] at h; exact absurd h (Nat.not_lt_zero _)
  · rw [q_sm] at h; exact absurd h (Nat.not_lt_zero _)
  · rw [q_sm] at h; exact absurd h (Nat.not_lt_zero _)
  · rw [q_lm] at h; exact absurd h (Nat.not_lt_zero _)
  · rw [q_sm] at h; exact absurd h (Nat.not_lt_zero _)
theorem q_rel : s_rel s_pl s_dz := by
  refine ⟨⟨rfl, rfl, rfl⟩, fun j h => ?_, fun l h => ?_, fun s h => ?_⟩
  · rw [q_cm] at h; exact absurd h (Nat.not_lt_zero _)
  · rw [q_lm] at h; exact absurd h (Nat.not_lt_zero _)
  · rw [q_sm] at h; exact absurd h (Nat.not_lt_zero _)
theorem q_st {n : Nat} {xs : Nat → Int32} : st_at (q_B n xs) s_pl 71 := by
  refine ⟨⟨by omega, by omega⟩, 72, 73, 74, fun _ => 0, rfl, ⟨⟨by omega, by omega⟩, fun _ => 0, rfl, fun j h => ?_⟩, ⟨⟨by omega, by omega⟩, fun _ => 0, rfl, fun j h => ?_⟩, ⟨⟨by omega, by omega⟩, by rw [q_sm]; decide, 0, 2, rfl, fun h => ?_⟩, fun s h => ?_⟩
  · rw [q_cm] at h; exact absurd h (Nat.not_lt_zero _)
  · rw [q_cm] at h; exact absurd h (Nat.not_lt_zero _)
  · rw [q_sm] at h; exact absurd h (Nat.not_lt_zero _)
  · rw [q_sm] at h; exact absurd h (Nat.not_lt_zero _)
theorem q_I {n : Nat} {xs : Nat → Int32} : L_I n xs 0 0 (q_N n xs) := by
  refine ⟨q_B n xs, 0, s_I0, 0, updR (fun _ _ => 0) 0 s_pl, s_pl, fun _ => 0, fun _ => 0, fun _ => false, q_J, fun _ => 0, q_K, fun _ => 0, fun _ => 0, 0, fun _ => 0, fun _ => 71, fun _ => s_dz, 0, 0, 0, rfl, q_LB, ⟨rfl, by omega, rfl, by omega, rfl, by omega⟩, ⟨rfl, by omega, rfl, rfl, rfl⟩, fun j h => absurd h (Nat.not_lt_zero _), fun j hj => ?_⟩
  obtain rfl : j = 0 := by omega
  exact ⟨q_inv, q_rel, q_st, fun q hq => Or.inl (s_dz0 (by omega))⟩
theorem q_low {n k : Nat} {xs : Nat → Int32} (h1 : 64 ≤ k) (h2 : k < 275) : q_H n xs k = (zC 10 ++ zDs 10)[k - 64]? := by
  unfold q_H
  rw [x_set_ne (by omega), x_set_ne (by omega), m_out (by omega)]
  unfold k_at
  rw [if_neg (by omega), if_pos (by omega), if_neg (by omega), if_neg (by omega)]
theorem q_al {n : Nat} {xs : Nat → Int32} : ∀ k c', q_N n xs k = some c' → ∃ c, q_H n xs k = some c ∧ x_lk c c' := by
  intro k c' hk
  by_cases h1 : 275 ≤ k ∧ k ≤ 281
  · rcases (show k = 275 ∨ k = 276 ∨ k = 277 ∨ k = 278 ∨ k = 279 ∨ k = 280 ∨ k = 281 by omega) with e | e | e | e | e | e | e <;> subst e <;> (obtain rfl := Option.some.inj hk) <;> exact ⟨_, rfl, x_lk_rfl⟩
  · by_cases h2 : 64 ≤ k ∧ k ≤ 74
    · rw [q_low h2.1 (by omega)]
      rcases (show k = 64 ∨ k = 65 ∨ k = 66 ∨ k = 67 ∨ k = 68 ∨ k = 69 ∨ k = 70 ∨ k = 71 ∨ k = 72 ∨ k = 73 ∨ k = 74 by omega) with e | e | e | e | e | e | e | e | e | e | e <;> subst e <;> (obtain rfl := Option.some.inj hk)
      · exact ⟨_, rfl, rfl, fun r h => by cases h; exact z_f7 rfl rfl rfl rfl rfl rfl rfl⟩
      · exact ⟨_, rfl, x_lk_rfl⟩
      · exact ⟨_, rfl, rfl, fun r h => by cases h; exact y_f8 rfl rfl rfl rfl rfl rfl rfl rfl⟩
      · exact ⟨_, rfl, x_lk_rfl⟩
      · exact ⟨_, rfl, x_lk_rfl⟩
      · exact ⟨_, rfl, x_lk_rfl⟩
      · exact ⟨_, rfl, ⟨rfl, rfl, rfl⟩, fun j hj => if_pos hj⟩
      · exact ⟨_, rfl, x_lk_rfl⟩
      · exact ⟨_, rfl, x_lk_rfl⟩
      · exact ⟨_, rfl, x_lk_rfl⟩
      · exact ⟨_, rfl, x_lk_rfl⟩
    · by_cases h3 : 75 ≤ k ∧ k ≤ 274
      · have e : (Nat.ble 75 k && Nat.ble k 274) = true := by rw [Nat.ble_eq_true_of_le h3.1, Nat.ble_eq_true_of_le h3.2]; rfl
        unfold q_N cset at hk
        rw [beq_ne (by omega), beq_ne (by omega), beq_ne (by omega), beq_ne (by omega), beq_ne (by omega), beq_ne (by omega), beq_ne (by omega), e] at hk
        obtain rfl := Option.some.inj hk
        refine ⟨_, ?_, x_lk_rfl⟩
        rw [q_low (by omega) (by omega), List.getElem?_append_right (by show 11 ≤ _; omega)]
        show (zDs 10)[k - 64 - 11]? = _
        rw [show k - 64 - 11 = 20 * ((k - 75) / 20) + (k - 75) % 20 by omega]
        exact zDs_get 10 _ _ (by omega) (Nat.mod_lt _ (by decide))
      · unfold q_N at hk
        rw [c_out (by omega) (by omega)] at hk
        unfold L_X at hk
        rw [m_out (by omega), x_set_ne (by omega)] at hk
        unfold q_B at hk
        rw [if_neg (by omega), if_neg (by omega), if_neg (by omega), if_neg (by omega)] at hk
        have h64 : k = 1 ∨ k = 56 := by
          unfold q_M0 at hk
          by_cases e1 : k = 1
          · exact Or.inl e1
          · by_cases e2 : k = 56
            · exact Or.inr e2
            · rw [if_neg e1, if_neg e2] at hk
              cases hk
        refine ⟨c', ?_, x_lk_rfl⟩
        unfold q_H
        rw [x_set_ne (by omega), x_set_ne (by omega), m_out (by omega)]
        unfold k_at
        rw [if_neg (by omega), if_pos (by omega), if_neg (by omega), if_pos (by omega)]
        exact hk
theorem q_walk {G : XE} (hG : x_Kn G) (hX : x_KX G) (hN : x_KN G) (hK : x_KS G) (hM : x_KM G) {ad0 : Nat → Nat} {n : Nat} {xs : Nat → Int32} (h36 : n ≤ 3584) : x_W G mL_law (L_Z G ad0 64) (k_at (q_M0 n xs) 64 []) 0 0 0 [some (.ref 56), none, none, none, none, none, none, none] [] := by
  refine X_newK n_L_8 aL_0 (by show 0 + 1 ≤ 601024; omega) (by show 0 + 7 ≤ 7293034; omega) (Z_new (Nat.le_refl 64) 64 rfl ?_)
  refine X_dup aL_3 rfl ?_
  refine X_callI l_L_X10_init (z_X10 hG hK hM 50) aL_4 rfl rfl (Nat.le_of_ble_eq_true rfl) (L_fit (Nat.le_of_ble_eq_true rfl) (Nat.le_of_ble_eq_true rfl) (by omega) (by omega)) (fun N9 r h => ?_)
  obtain ⟨rfl, rfl⟩ := h
  refine X_st aL_7 rfl rfl ?_
  refine X_newK n_L_76 aL_8 (by show _ ≤ 601024; omega) (by show _ ≤ 7293034; omega) (Z_new (Nat.le_refl 64) 275 (by rw [List.length_append, zDs_len]; rfl) ?_)
  refine X_dup aL_11 rfl ?_
  refine X_heap (z_app (Nat.le_refl 64) (f := 275) (by rw [List.length_append, zDs_len]; rfl)) ?_
  refine X_callI l_L_X11_init (z_X11 hG 50) aL_12 rfl rfl (Nat.le_of_ble_eq_true rfl) (L_fit (Nat.le_of_ble_eq_true rfl) (Nat.le_of_ble_eq_true rfl) (by omega) (by omega)) (fun N9 r h => ?_)
  obtain ⟨rfl, rfl⟩ := h
  refine X_st aL_15 rfl rfl ?_
  refine X_push (v := .int 1) aL_16 (by decide +kernel) ?_
  refine X_newaK 1 aL_17 rfl (List.mem_of_getElem? (i := 1) rfl) (x_in 184 (by decide +kernel) rfl) (by decide) rfl (by decide) (by show _ ≤ 601024; omega) (by show _ ≤ 7293034; omega) (x_K_gh (f := 281) rfl (fun _ _ => ?_))
  refine X_st aL_19 rfl rfl ?_
  refine X_push (v := .int 0) aL_20 (by decide +kernel) ?_
  refine X_st aL_21 rfl rfl ?_
  refine X_heap (N' := q_H n xs) rfl ?_
  refine X_alike q_al (fun c' h => nomatch (show (none : Option XC) = some c' from h)) ?_
  refine X_loc (L' := L_l 0) ⟨rfl, rfl, rfl, rfl, rfl, trivial⟩ ?_
  exact law_loop hG hX hN hK hM h36 513 0 0 _ _ _ rfl (by omega) q_I (by omega) (by omega)
