/-! ===== the class: copyFrom ===== -/
/-- row c, but statement s's numbers are row c's -/
def s_cpu (c c' : Nat → Int32) (s : Nat) : Nat → Int32 := fun p => if 275 + 30 * s ≤ p ∧ p < 275 + 30 * s + 30 then c' p else c p
/-- row c, but the statistics are row c's -/
def s_cps (c c' : Nat → Int32) : Nat → Int32 := fun p => if p = 8 ∨ (10 ≤ p ∧ p < 75 ∧ 10 ≤ (p - 10) % 13) then c' p else c p
def s_cpk (c c' : Nat → Int32) : Nat → Nat → Int32
  | 0 => c
  | k + 1 => s_cpu (s_cpk c c' k) c' k
/-- row c, but the first k columns' index flags are row c's -/
def s_cpx (c c' : Nat → Int32) : Nat → Nat → Int32
  | 0 => c
  | k + 1 => upd (s_cpx c c' k) (10 + 13 * k + 9) (c' (10 + 13 * k + 9))
def s_cp1 (c c' : Nat → Int32) : Nat → Int32 := s_mixt 1 (upd (upd c 1 (c' 1)) 3 (c' 3)) c'
def s_cp2 (c c' : Nat → Int32) : Nat → Int32 := s_cps (s_cpx (s_cp1 c c') c' 5) c'
theorem s_cpx_eq {c c' : Nat → Int32} {p : Nat} : ∀ k, s_cpx c c' k p = if 19 ≤ p ∧ p < 19 + 13 * k ∧ (p - 19) % 13 = 0 then c' p else c p
  | 0 => by rw [if_neg (by omega)]; rfl
  | k + 1 => by
    show upd (s_cpx c c' k) (10 + 13 * k + 9) (c' (10 + 13 * k + 9)) p = _
    by_cases h1 : p = 10 + 13 * k + 9
    · rw [h1, updI_eq, if_pos (by omega)]
    · rw [updI_ne h1, s_cpx_eq k]
      by_cases h2 : 19 ≤ p ∧ p < 19 + 13 * k ∧ (p - 19) % 13 = 0
      · rw [if_pos h2, if_pos (by omega)]
      · rw [if_neg h2, if_neg (by omega)]
theorem nar_b {v : Int32} (h : v = 0 ∨ v = 1) : narrow .boolean (.int v) = .int v := by
  rcases h with rfl | rfl <;> rfl
theorem s_cpu_eq {c c' : Nat → Int32} {s t p : Nat} (hs : s < 6) (ht : t < 20) (hp : rdP t p) (hn : p < 275 ∨ (p - 275) % 30 ≠ 12) : s_mixt (9 + 2 * s) (upd (upd (upd (upd (upd (upd (upd (upd c (275 + 30 * s + 8) (c' (275 + 30 * s + 8))) (275 + 30 * s + 9) (c' (275 + 30 * s + 9))) (275 + 30 * s + 10) (c' (275 + 30 * s + 10))) (275 + 30 * s + 11) (c' (275 + 30 * s + 11))) (275 + 30 * s + 14) (c' (275 + 30 * s + 14))) (275 + 30 * s + 15) (c' (275 + 30 * s + 15))) (275 + 30 * s + 16) (c' (275 + 30 * s + 16))) (275 + 30 * s + 13) (c' (275 + 30 * s + 13))) c' p = s_cpu c c' s p := by
  unfold s_cpu
  by_cases h9 : rdP (9 + 2 * s) p
  · rw [show s_mixt (9 + 2 * s) (upd (upd (upd (upd (upd (upd (upd (upd c (275 + 30 * s + 8) (c' (275 + 30 * s + 8))) (275 + 30 * s + 9) (c' (275 + 30 * s + 9))) (275 + 30 * s + 10) (c' (275 + 30 * s + 10))) (275 + 30 * s + 11) (c' (275 + 30 * s + 11))) (275 + 30 * s + 14) (c' (275 + 30 * s + 14))) (275 + 30 * s + 15) (c' (275 + 30 * s + 15))) (275 + 30 * s + 16) (c' (275 + 30 * s + 16))) (275 + 30 * s + 13) (c' (275 + 30 * s + 13))) c' p = c' p from if_pos h9, if_pos (by unfold rdP at h9; omega)]
  · rw [show s_mixt (9 + 2 * s) (upd (upd (upd (upd (upd (upd (upd (upd c (275 + 30 * s + 8) (c' (275 + 30 * s + 8))) (275 + 30 * s + 9) (c' (275 + 30 * s + 9))) (275 + 30 * s + 10) (c' (275 + 30 * s + 10))) (275 + 30 * s + 11) (c' (275 + 30 * s + 11))) (275 + 30 * s + 14) (c' (275 + 30 * s + 14))) (275 + 30 * s + 15) (c' (275 + 30 * s + 15))) (275 + 30 * s + 16) (c' (275 + 30 * s + 16))) (275 + 30 * s + 13) (c' (275 + 30 * s + 13))) c' p = _ from if_neg h9]
    by_cases hr : 275 + 30 * s ≤ p ∧ p < 275 + 30 * s + 30
    · rw [if_pos hr]
      have h21 : ¬ (275 + 30 * s + 21 ≤ p ∧ p ≤ 275 + 30 * s + 25) := fun q => h9 (by unfold rdP; omega)
      have h : p = 275 + 30 * s + 8 ∨ p = 275 + 30 * s + 9 ∨ p = 275 + 30 * s + 10 ∨ p = 275 + 30 * s + 11 ∨ p = 275 + 30 * s + 14 ∨ p = 275 + 30 * s + 15 ∨ p = 275 + 30 * s + 16 ∨ p = 275 + 30 * s + 13 := by
        clear h9
        unfold rdP at hp
        rcases hp with q | q | q | q | q | q | q | q | q <;> omega
      clear h9 hp hn h21
      rcases h with h | h | h | h | h | h | h | h
      · rw [updI_ne (by omega), updI_ne (by omega), updI_ne (by omega), updI_ne (by omega), updI_ne (by omega), updI_ne (by omega), updI_ne (by omega), h, updI_eq]
      · rw [updI_ne (by omega), updI_ne (by omega), updI_ne (by omega), updI_ne (by omega), updI_ne (by omega), updI_ne (by omega), h, updI_eq]
      · rw [updI_ne (by omega), updI_ne (by omega), updI_ne (by omega), updI_ne (by omega), updI_ne (by omega), h, updI_eq]
      · rw [updI_ne (by omega), updI_ne (by omega), updI_ne (by omega), updI_ne (by omega), h, updI_eq]
      · rw [updI_ne (by omega), updI_ne (by omega), updI_ne (by omega), h, updI_eq]
      · rw [updI_ne (by omega), updI_ne (by omega), h, updI_eq]
      · rw [updI_ne (by omega), h, updI_eq]
      · rw [h, updI_eq]
    · rw [if_neg hr, updI_ne (by omega), updI_ne (by omega), updI_ne (by omega), updI_ne (by omega), updI_ne (by omega), updI_ne (by omega), updI_ne (by omega), updI_ne (by omega)]
theorem s_cps_eq {c c' : Nat → Int32} {p : Nat} : s_mixt 6 (s_mixt 5 (s_mixt 4 (upd c 8 (c' 8)) c') c') c' p = s_cps c c' p := by
  unfold s_cps
  by_cases h6 : rdP 6 p
  · rw [show s_mixt 6 _ c' p = c' p from if_pos h6, if_pos (by unfold rdP at h6; omega)]
  · rw [show s_mixt 6 _ c' p = _ from if_neg h6]
    by_cases h5 : rdP 5 p
    · rw [show s_mixt 5 _ c' p = c' p from if_pos h5, if_pos (by unfold rdP at h5; omega)]
    · rw [show s_mixt 5 _ c' p = _ from if_neg h5]
      by_cases h4 : rdP 4 p
      · rw [show s_mixt 4 _ c' p = c' p from if_pos h4, if_pos (by unfold rdP at h4; omega)]
      · rw [show s_mixt 4 _ c' p = _ from if_neg h4]
        by_cases h8 : p = 8
        · rw [h8, updI_eq, if_pos (Or.inl rfl)]
        · have h4' : ¬ (20 ≤ p ∧ p ≤ 72 ∧ (p - 20) % 13 = 0) := fun q => h4 (Or.inr (Or.inr (Or.inr (Or.inr (Or.inl ⟨rfl, q⟩)))))
          have h5' : ¬ (21 ≤ p ∧ p ≤ 73 ∧ (p - 21) % 13 = 0) := fun q => h5 (Or.inr (Or.inr (Or.inr (Or.inr (Or.inr (Or.inl ⟨rfl, q⟩))))))
          have h6' : ¬ (22 ≤ p ∧ p ≤ 74 ∧ (p - 22) % 13 = 0) := fun q => h6 (Or.inr (Or.inr (Or.inr (Or.inr (Or.inr (Or.inr (Or.inl ⟨rfl, q⟩)))))))
          clear h4 h5 h6
          rw [updI_ne h8, if_neg (by omega)]
theorem s_cpk_eq {c c' : Nat → Int32} {p : Nat} : ∀ k, s_cpk c c' k p = if 275 ≤ p ∧ p < 275 + 30 * k then c' p else c p
  | 0 => by rw [if_neg (by omega)]; rfl
  | k + 1 => by
    show (if 275 + 30 * k ≤ p ∧ p < 275 + 30 * k + 30 then c' p else s_cpk c c' k p) = _
    rw [s_cpk_eq k]
    by_cases h1 : 275 + 30 * k ≤ p ∧ p < 275 + 30 * k + 30
    · rw [if_pos h1, if_pos (by omega)]
    · rw [if_neg h1]
      by_cases h2 : 275 ≤ p ∧ p < 275 + 30 * k
      · rw [if_pos h2, if_pos (by omega)]
      · rw [if_neg h2, if_neg (by omega)]
theorem s_cpd_eq {c c' : Nat → Int32} {t p : Nat} (ht : t < 20) (hp : rdP t p) : s_cpk (s_cp2 c c') c' 6 p = c' p := by
  rw [s_cpk_eq]
  by_cases h1 : 275 ≤ p ∧ p < 275 + 30 * 6
  · rw [if_pos h1]
  · rw [if_neg h1]
    unfold s_cp2 s_cps
    by_cases h2 : p = 8 ∨ (10 ≤ p ∧ p < 75 ∧ 10 ≤ (p - 10) % 13)
    · rw [if_pos h2]
    · rw [if_neg h2]
      rw [s_cpx_eq 5]
      by_cases h3 : 19 ≤ p ∧ p < 19 + 13 * 5 ∧ (p - 19) % 13 = 0
      · exact if_pos h3
      · rw [if_neg h3]
        unfold s_cp1
        by_cases h4 : rdP 1 p
        · exact if_pos h4
        · rw [show s_mixt 1 _ c' p = _ from if_neg h4]
          have h5 : p = 1 ∨ p = 3 := by
            have h3' : ¬ (19 ≤ p ∧ p ≤ 71 ∧ (p - 19) % 13 = 0) := fun q => h3 (by omega)
            have h4' : ¬ (75 ≤ p ∧ p < 275) := fun q => h4 (by unfold rdP; omega)
            unfold rdP at hp
            rcases hp with q | q | q | q | q | q | q | q | q <;> omega
          rcases h5 with rfl | rfl
          · rw [updI_ne (by decide), updI_eq]
          · rw [updI_eq]
theorem u_copyFrom {G : XE} (hG : x_Kn G) {B : XH} {J bf K tk ts : Nat → Int32} {tl : Int64} {tv : Nat → Int64} {su : Nat → Nat} {D : Nat → Nat → Int32} (d : Nat) (i : Nat) (hi : i < 10) {c : Nat → Int32} {j : Nat} (hj : j < 10) (hji : j ≠ i) {c' : Nat → Int32} (hDj : D j = c') (s : Nat) (hs : s < 6) : x_M G mX9_copyFrom (d + 1) 0 0 [.ref (75 + 20 * i + (8 + 2 * s)), .ref (75 + 20 * j + (8 + 2 * s))] (cset B J bf K tk ts tl tv su (updR D i c)) (x_RetV (cset B J bf K tk ts tl tv su (updR D i (s_cpu c c' s)))) x_noX := by
  refine X_M hG okX9_copyFrom rfl (L := [some (.ref (75 + 20 * i + (8 + 2 * s))), some (.ref (75 + 20 * j + (8 + 2 * s)))]) rfl (Nat.le_of_ble_eq_true rfl) (fun ad0 nb0 => ?_)
  refine X_ld rfl rfl rfl rfl ?_
  refine X_ld rfl rfl rfl rfl ?_
  refine X_get f_X9_19 rfl (r_u hj hs ((updR_ne hji).trans hDj)) rfl ?_
  refine X_put f_X9_19 rfl (r_u hi hs updR_eq) ⟨rfl, rfl⟩ ?_
  refine X_heap (N' := cset B J bf K tk ts tl tv su (updR D i (upd c (275 + 30 * s + 8) (c' (275 + 30 * s + 8))))) (w_u (k := 0) hi hs (by decide)) ?_
  refine X_ld rfl rfl rfl rfl ?_
  refine X_ld rfl rfl rfl rfl ?_
  refine X_get f_X9_22 rfl (r_u hj hs ((updR_ne hji).trans hDj)) rfl ?_
  refine X_put f_X9_22 rfl (r_u hi hs updR_eq) ⟨rfl, rfl⟩ ?_
  refine X_heap (N' := cset B J bf K tk ts tl tv su (updR D i (upd (upd c (275 + 30 * s + 8) (c' (275 + 30 * s + 8))) (275 + 30 * s + 9) (c' (275 + 30 * s + 9))))) (w_u (k := 1) hi hs (by decide)) ?_
  refine X_ld rfl rfl rfl rfl ?_
  refine X_ld rfl rfl rfl rfl ?_
  refine X_get f_X9_25 rfl (r_u hj hs ((updR_ne hji).trans hDj)) rfl ?_
  refine X_put f_X9_25 rfl (r_u hi hs updR_eq) ⟨rfl, rfl⟩ ?_
  refine X_heap (N' := cset B J bf K tk ts tl tv su (updR D i (upd (upd (upd c (275 + 30 * s + 8) (c' (275 + 30 * s + 8))) (275 + 30 * s + 9) (c' (275 + 30 * s + 9))) (275 + 30 * s + 10) (c' (275 + 30 * s + 10))))) (w_u (k := 2) hi hs (by decide)) ?_
  refine X_ld rfl rfl rfl rfl ?_
  refine X_ld rfl rfl rfl rfl ?_
  refine X_get f_X9_28 rfl (r_u hj hs ((updR_ne hji).trans hDj)) rfl ?_
  refine X_put f_X9_28 rfl (r_u hi hs updR_eq) ⟨rfl, rfl⟩ ?_
  refine X_heap (N' := cset B J bf K tk ts tl tv su (updR D i (upd (upd (upd (upd c (275 + 30 * s + 8) (c' (275 + 30 * s + 8))) (275 + 30 * s + 9) (c' (275 + 30 * s + 9))) (275 + 30 * s + 10) (c' (275 + 30 * s + 10))) (275 + 30 * s + 11) (c' (275 + 30 * s + 11))))) (w_u (k := 3) hi hs (by decide)) ?_
  refine X_ld rfl rfl rfl rfl ?_
  refine X_ld rfl rfl rfl rfl ?_
  refine X_get f_X9_9 rfl (r_u hj hs ((updR_ne hji).trans hDj)) rfl ?_
  refine X_put f_X9_9 rfl (r_u hi hs updR_eq) ⟨rfl, rfl⟩ ?_
  refine X_heap (N' := cset B J bf K tk ts tl tv su (updR D i (upd (upd (upd (upd (upd c (275 + 30 * s + 8) (c' (275 + 30 * s + 8))) (275 + 30 * s + 9) (c' (275 + 30 * s + 9))) (275 + 30 * s + 10) (c' (275 + 30 * s + 10))) (275 + 30 * s + 11) (c' (275 + 30 * s + 11))) (275 + 30 * s + 14) (c' (275 + 30 * s + 14))))) (w_u (k := 4) hi hs (by decide)) ?_
  refine X_ld rfl rfl rfl rfl ?_
  refine X_ld rfl rfl rfl rfl ?_
  refine X_get f_X9_31 rfl (r_u hj hs ((updR_ne hji).trans hDj)) rfl ?_
  refine X_put f_X9_31 rfl (r_u hi hs updR_eq) ⟨rfl, rfl⟩ ?_
  refine X_heap (N' := cset B J bf K tk ts tl tv su (updR D i (upd (upd (upd (upd (upd (upd c (275 + 30 * s + 8) (c' (275 + 30 * s + 8))) (275 + 30 * s + 9) (c' (275 + 30 * s + 9))) (275 + 30 * s + 10) (c' (275 + 30 * s + 10))) (275 + 30 * s + 11) (c' (275 + 30 * s + 11))) (275 + 30 * s + 14) (c' (275 + 30 * s + 14))) (275 + 30 * s + 15) (c' (275 + 30 * s + 15))))) (w_u (k := 5) hi hs (by decide)) ?_
  refine X_ld rfl rfl rfl rfl ?_
  refine X_ld rfl rfl rfl rfl ?_
  refine X_get f_X9_34 rfl (r_u hj hs ((updR_ne hji).trans hDj)) rfl ?_
  refine X_put f_X9_34 rfl (r_u hi hs updR_eq) ⟨rfl, rfl⟩ ?_
  refine X_heap (N' := cset B J bf K tk ts tl tv su (updR D i (upd (upd (upd (upd (upd (upd (upd c (275 + 30 * s + 8) (c' (275 + 30 * s + 8))) (275 + 30 * s + 9) (c' (275 + 30 * s + 9))) (275 + 30 * s + 10) (c' (275 + 30 * s + 10))) (275 + 30 * s + 11) (c' (275 + 30 * s + 11))) (275 + 30 * s + 14) (c' (275 + 30 * s + 14))) (275 + 30 * s + 15) (c' (275 + 30 * s + 15))) (275 + 30 * s + 16) (c' (275 + 30 * s + 16))))) (w_u (k := 6) hi hs (by decide)) ?_
  refine X_ld rfl rfl rfl rfl ?_
  refine X_ld rfl rfl rfl rfl ?_
  refine X_get f_X9_37 rfl (r_u hj hs ((updR_ne hji).trans hDj)) rfl ?_
  refine X_put f_X9_37 rfl (r_u hi hs updR_eq) ⟨rfl, rfl⟩ ?_
  refine X_heap (N' := cset B J bf K tk ts tl tv su (updR D i (upd (upd (upd (upd (upd (upd (upd (upd c (275 + 30 * s + 8) (c' (275 + 30 * s + 8))) (275 + 30 * s + 9) (c' (275 + 30 * s + 9))) (275 + 30 * s + 10) (c' (275 + 30 * s + 10))) (275 + 30 * s + 11) (c' (275 + 30 * s + 11))) (275 + 30 * s + 14) (c' (275 + 30 * s + 14))) (275 + 30 * s + 15) (c' (275 + 30 * s + 15))) (275 + 30 * s + 16) (c' (275 + 30 * s + 16))) (275 + 30 * s + 13) (c' (275 + 30 * s + 13))))) (w_u (k := 7) hi hs (by decide)) ?_
  refine X_ld rfl rfl rfl rfl ?_
  refine X_get f_X9_15 rfl (r_u hj hs ((updR_ne hji).trans hDj)) rfl ?_
  refine X_push (v := .int 0) rfl (by decide +kernel) ?_
  refine X_ld rfl rfl rfl rfl ?_
  refine X_get f_X9_15 rfl (r_u hi hs updR_eq) rfl ?_
  refine X_push (v := .int 0) rfl (by decide +kernel) ?_
  refine X_push (v := .int 5) rfl (by decide +kernel) ?_
  refine X_cpyc lcpy_X9 rfl hi (t := 9 + 2 * s) (by omega) (r_p hj hs ((updR_ne hji).trans hDj)) (r_p hi hs updR_eq) (dc_p hs) (by decide) (show (5 : Int32) = nI 5 from rfl) rfl (fun _ _ => rfl) (by omega) (Nat.le_of_ble_eq_true rfl) ?_
  exact X_vret rfl rfl ⟨c_cong (fun t p ht hp hn => s_cpu_eq hs ht hp hn), rfl⟩ (Nat.le_of_ble_eq_true rfl) (Nat.le_of_ble_eq_true rfl)
theorem t_copyFrom {G : XE} (hG : x_Kn G) {B : XH} {J bf K tk ts : Nat → Int32} {tl : Int64} {tv : Nat → Int64} {su : Nat → Nat} {D : Nat → Nat → Int32} (d : Nat) (i : Nat) (hi : i < 10) {c : Nat → Int32} {j : Nat} (hj : j < 10) (hji : j ≠ i) {c' : Nat → Int32} (hDj : D j = c') : x_M G mX7_copyFrom (d + 1) 0 0 [.ref (75 + 20 * i + 3), .ref (75 + 20 * j + 3)] (cset B J bf K tk ts tl tv su (updR D i c)) (x_RetV (cset B J bf K tk ts tl tv su (updR D i (s_cps c c')))) x_noX := by
  refine X_M hG okX7_copyFrom rfl (L := [some (.ref (75 + 20 * i + 3)), some (.ref (75 + 20 * j + 3))]) rfl (Nat.le_of_ble_eq_true rfl) (fun ad0 nb0 => ?_)
  refine X_ld rfl rfl rfl rfl ?_
  refine X_ld rfl rfl rfl rfl ?_
  refine X_get f_X7_21 rfl (r_S hj ((updR_ne hji).trans hDj)) rfl ?_
  refine X_put f_X7_21 rfl (r_S hi updR_eq) ⟨rfl, rfl⟩ ?_
  refine X_heap (w_S hi) ?_
  refine X_ld rfl rfl rfl rfl ?_
  refine X_get f_X7_9 rfl (r_S hj ((updR_ne hji).trans hDj)) rfl ?_
  refine X_push (v := .int 0) rfl (by decide +kernel) ?_
  refine X_ld rfl rfl rfl rfl ?_
  refine X_get f_X7_9 rfl (r_S hi updR_eq) rfl ?_
  refine X_push (v := .int 0) rfl (by decide +kernel) ?_
  refine X_push (v := .int 5) rfl (by decide +kernel) ?_
  refine X_cpyc lcpy_X7 rfl hi (t := 4) (by omega) (r_S4 hj ((updR_ne hji).trans hDj)) (r_S4 hi updR_eq) rfl (by decide) (show (5 : Int32) = nI 5 from rfl) rfl (fun _ _ => rfl) (by omega) (Nat.le_of_ble_eq_true rfl) ?_
  refine X_ld rfl rfl rfl rfl ?_
  refine X_get f_X7_15 rfl (r_S hj ((updR_ne hji).trans hDj)) rfl ?_
  refine X_push (v := .int 0) rfl (by decide +kernel) ?_
  refine X_ld rfl rfl rfl rfl ?_
  refine X_get f_X7_15 rfl (r_S hi updR_eq) rfl ?_
  refine X_push (v := .int 0) rfl (by decide +kernel) ?_
  refine X_push (v := .int 5) rfl (by decide +kernel) ?_
  refine X_cpyc lcpy_X7 rfl hi (t := 5) (by omega) (r_S5 hj ((updR_ne hji).trans hDj)) (r_S5 hi updR_eq) rfl (by decide) (show (5 : Int32) = nI 5 from rfl) rfl (fun _ _ => rfl) (by omega) (Nat.le_of_ble_eq_true rfl) ?_
  refine X_ld rfl rfl rfl rfl ?_
  refine X_get f_X7_18 rfl (r_S hj ((updR_ne hji).trans hDj)) rfl ?_
  refine X_push (v := .int 0) rfl (by decide +kernel) ?_
  refine X_ld rfl rfl rfl rfl ?_
  refine X_get f_X7_18 rfl (r_S hi updR_eq) rfl ?_
  refine X_push (v := .int 0) rfl (by decide +kernel) ?_
  refine X_push (v := .int 5) rfl (by decide +kernel) ?_
  refine X_cpyc lcpy_X7 rfl hi (t := 6) (by omega) (r_S6 hj ((updR_ne hji).trans hDj)) (r_S6 hi updR_eq) rfl (by decide) (show (5 : Int32) = nI 5 from rfl) rfl (fun _ _ => rfl) (by omega) (Nat.le_of_ble_eq_true rfl) ?_
  exact X_vret rfl rfl ⟨c_cong (fun t p ht hp hn => s_cps_eq), rfl⟩ (Nat.le_of_ble_eq_true rfl) (Nat.le_of_ble_eq_true rfl)
theorem d_copyFrom {G : XE} (hG : x_Kn G) {B : XH} {J bf K tk ts : Nat → Int32} {tl : Int64} {tv : Nat → Int64} {su : Nat → Nat} {D : Nat → Nat → Int32} (d : Nat) (i : Nat) (hi : i < 10) {c : Nat → Int32} {j : Nat} (hj : j < 10) (hji : j ≠ i) {c' : Nat → Int32} (hDj : D j = c') (hbl : ∀ q, q < 5 → c' (10 + 13 * q + 9) = 0 ∨ c' (10 + 13 * q + 9) = 1) : x_M G mX3_copyFrom (d + 2) 0 0 [.ref (75 + 20 * i), .ref (75 + 20 * j)] (cset B J bf K tk ts tl tv su (updR D i c)) (x_RetV (cset B J bf K tk ts tl tv (updN su i (su j)) (updR D i (c')))) x_noX := by
  refine X_M hG okX3_copyFrom rfl (L := [some (.ref (75 + 20 * i)), some (.ref (75 + 20 * j)), none]) rfl (Nat.le_of_ble_eq_true rfl) (fun ad0 nb0 => ?_)
  have loopA : x_W G mX3_copyFrom (x_Z G (d + 2) 0 0 ad0 nb0 (x_RetV (cset B J bf K tk ts tl tv (updN su i (su j)) (updR D i (c')))) x_noX) (cset B J bf K tk ts tl tv (updN su i (su j)) (updR D i (s_cpx (s_cp1 c c') c' 5))) 0 0 65 [some (.ref (75 + 20 * i)), some (.ref (75 + 20 * j)), some (.int (nI 5))] [] → ∀ (f9 k : Nat), k + f9 = 5 → x_W G mX3_copyFrom (x_Z G (d + 2) 0 0 ad0 nb0 (x_RetV (cset B J bf K tk ts tl tv (updN su i (su j)) (updR D i (c')))) x_noX) (cset B J bf K tk ts tl tv (updN su i (su j)) (updR D i (s_cpx (s_cp1 c c') c' k))) 0 0 42 [some (.ref (75 + 20 * i)), some (.ref (75 + 20 * j)), some (.int (nI k))] [] := by
    intro Kz f9
    induction f9 with
    | zero =>
      intro k e0 
      obtain rfl : k = 5 := by omega
      refine X_ld rfl rfl rfl rfl ?_
      refine X_push (v := .int 5) rfl (by decide +kernel) ?_
      refine X_icmp_ge rfl (fun c44 => ?_) (fun c44 => absurd ((n_le (a := 5) (show (5 : Int32) = nI 5 from rfl) rfl (by omega) (by omega)).mpr (by omega)) c44)
      exact Kz
    | succ f9 ih =>
      intro k e0 
      refine X_ld rfl rfl rfl rfl ?_
      refine X_push (v := .int 5) rfl (by decide +kernel) ?_
      refine X_icmp_ge rfl (fun c44 => absurd ((n_le (a := 5) (show (5 : Int32) = nI 5 from rfl) rfl (by omega) (by omega)).mp c44) (by omega)) (fun c44 => ?_)
      refine X_ld rfl rfl rfl rfl ?_
      refine X_get f_X3_15 rfl (r_D hi updR_eq) rfl ?_
      refine X_ld rfl rfl rfl rfl ?_
      refine X_ld rfl rfl rfl rfl ?_
      refine X_get f_X3_15 rfl (r_D hj ((updR_ne hji).trans hDj)) rfl ?_
      refine X_ld rfl rfl rfl rfl ?_
      refine X_Xald hj ((updR_ne hji).trans hDj) rfl (by omega) (k := k) rfl ?_
      refine X_Xast hi updR_eq rfl (by omega) (k := k) (nar_b (hbl k (by omega))) rfl ?_
      refine X_iinc rfl rfl rfl ?_
      refine X_goto rfl ?_
      refine X_heap (N' := cset B J bf K tk ts tl tv (updN su i (su j)) (updR D i (s_cpx (s_cp1 c c') c' (k + 1)))) (by rw [updR_updR]; rfl) ?_
      refine X_loc (L' := [some (.ref (75 + 20 * i)), some (.ref (75 + 20 * j)), some (.int (nI (k + 1)))]) ⟨rfl, rfl, congrArg Value.int (m_inc rfl).symm, trivial⟩ ?_
      exact ih (k + 1) (by omega)
  have loopB : x_W G mX3_copyFrom (x_Z G (d + 2) 0 0 ad0 nb0 (x_RetV (cset B J bf K tk ts tl tv (updN su i (su j)) (updR D i (c')))) x_noX) (cset B J bf K tk ts tl tv (updN su i (su j)) (updR D i (s_cpk (s_cp2 c c') c' 6))) 0 0 105 [some (.ref (75 + 20 * i)), some (.ref (75 + 20 * j)), some (.int (nI 6))] [] → ∀ (f9 k : Nat), k + f9 = 6 → x_W G mX3_copyFrom (x_Z G (d + 2) 0 0 ad0 nb0 (x_RetV (cset B J bf K tk ts tl tv (updN su i (su j)) (updR D i (c')))) x_noX) (cset B J bf K tk ts tl tv (updN su i (su j)) (updR D i (s_cpk (s_cp2 c c') c' k))) 0 0 78 [some (.ref (75 + 20 * i)), some (.ref (75 + 20 * j)), some (.int (nI k))] [] := by
    intro Kz f9
    induction f9 with
    | zero =>
      intro k e0 
      obtain rfl : k = 6 := by omega
      refine X_ld rfl rfl rfl rfl ?_
      refine X_push (v := .int 6) rfl (by decide +kernel) ?_
      refine X_icmp_ge rfl (fun c81 => ?_) (fun c81 => absurd ((n_le (a := 6) (show (6 : Int32) = nI 6 from rfl) rfl (by omega) (by omega)).mpr (by omega)) c81)
      exact Kz
    | succ f9 ih =>
      intro k e0 
      refine X_ld rfl rfl rfl rfl ?_
      refine X_push (v := .int 6) rfl (by decide +kernel) ?_
      refine X_icmp_ge rfl (fun c81 => absurd ((n_le (a := 6) (show (6 : Int32) = nI 6 from rfl) rfl (by omega) (by omega)).mp c81) (by omega)) (fun c81 => ?_)
      refine X_ld rfl rfl rfl rfl ?_
      refine X_get f_X3_28 rfl (r_D hi updR_eq) rfl ?_
      refine X_ld rfl rfl rfl rfl ?_
      refine X_uald hi updR_eq rfl (by omega) (k := k) rfl ?_
      refine X_ld rfl rfl rfl rfl ?_
      refine X_get f_X3_28 rfl (r_D hj ((updR_ne hji).trans hDj)) rfl ?_
      refine X_ld rfl rfl rfl rfl ?_
      refine X_uald hj ((updR_ne hji).trans hDj) rfl (by omega) (k := k) rfl ?_
      refine X_vcallv (r_u hi (by omega) updR_eq) l_X3_X9_copyFrom (u_copyFrom hG d i hi hj hji hDj k (by omega)) rfl rfl rfl rfl (Nat.le_of_ble_eq_true rfl) (Nat.le_of_ble_eq_true rfl) (by omega) (Nat.le_of_ble_eq_true rfl) (Nat.le_of_ble_eq_true rfl) ?_
      refine X_iinc rfl rfl rfl ?_
      refine X_goto rfl ?_
      refine X_heap (N' := cset B J bf K tk ts tl tv (updN su i (su j)) (updR D i (s_cpk (s_cp2 c c') c' (k + 1)))) rfl ?_
      refine X_loc (L' := [some (.ref (75 + 20 * i)), some (.ref (75 + 20 * j)), some (.int (nI (k + 1)))]) ⟨rfl, rfl, congrArg Value.int (m_inc rfl).symm, trivial⟩ ?_
      exact ih (k + 1) (by omega)
  refine X_ld rfl rfl rfl rfl ?_
  refine X_ld rfl rfl rfl rfl ?_
  refine X_get f_X3_32 rfl (r_D hj ((updR_ne hji).trans hDj)) rfl ?_
  refine X_put f_X3_32 rfl (r_D hi updR_eq) ⟨rfl, rfl⟩ ?_
  refine X_heap (c_cpyD hi) ?_
  refine X_ld rfl rfl rfl rfl ?_
  refine X_ld rfl rfl rfl rfl ?_
  refine X_get f_X3_37 rfl (r_D hj ((updR_ne hji).trans hDj)) rfl ?_
  refine X_put f_X3_37 rfl (r_D hi updR_eq) ⟨rfl, rfl⟩ ?_
  refine X_heap (w_D1 hi) ?_
  refine X_ld rfl rfl rfl rfl ?_
  refine X_ld rfl rfl rfl rfl ?_
  refine X_get f_X3_41 rfl (r_D hj ((updR_ne hji).trans hDj)) rfl ?_
  refine X_put f_X3_41 rfl (r_D hi updR_eq) ⟨rfl, rfl⟩ ?_
  refine X_heap (w_D3 hi) ?_
  refine X_ld rfl rfl rfl rfl ?_
  refine X_get f_X3_9 rfl (r_D hj ((updR_ne hji).trans hDj)) rfl ?_
  refine X_push (v := .int 0) rfl (by decide +kernel) ?_
  refine X_ld rfl rfl rfl rfl ?_
  refine X_get f_X3_9 rfl (r_D hi updR_eq) rfl ?_
  refine X_push (v := .int 0) rfl (by decide +kernel) ?_
  refine X_push (v := .int 200) rfl (by decide +kernel) ?_
  refine X_cpyc lcpy_X3 rfl hi (t := 1) (by omega) (r_A hj ((updR_ne hji).trans hDj)) (r_A hi updR_eq) rfl (by decide) (show (200 : Int32) = nI 200 from rfl) rfl (fun _ _ => rfl) (by omega) (Nat.le_of_ble_eq_true rfl) ?_
  refine X_push (v := .int 0) rfl (by decide +kernel) ?_
  refine X_st rfl rfl rfl ?_
  refine X_heap (N' := cset B J bf K tk ts tl tv (updN su i (su j)) (updR D i (s_cpx (s_cp1 c c') c' 0))) rfl ?_
  refine X_loc (L' := [some (.ref (75 + 20 * i)), some (.ref (75 + 20 * j)), some (.int (nI 0))]) ⟨rfl, rfl, rfl, trivial⟩ ?_
  refine loopA ?_ _ 0 (Nat.zero_add _)
  refine X_ld rfl rfl rfl rfl ?_
  refine X_get f_X3_22 rfl (r_D hi updR_eq) rfl ?_
  refine X_ld rfl rfl rfl rfl ?_
  refine X_get f_X3_22 rfl (r_D hj ((updR_ne hji).trans hDj)) rfl ?_
  refine X_vcallv (r_S hi updR_eq) l_X3_X7_copyFrom (t_copyFrom hG d i hi hj hji hDj) rfl rfl rfl rfl (Nat.le_of_ble_eq_true rfl) (Nat.le_of_ble_eq_true rfl) (by omega) (Nat.le_of_ble_eq_true rfl) (Nat.le_of_ble_eq_true rfl) ?_
  refine X_push (v := .int 0) rfl (by decide +kernel) ?_
  refine X_st rfl rfl rfl ?_
  refine X_heap (N' := cset B J bf K tk ts tl tv (updN su i (su j)) (updR D i (s_cpk (s_cp2 c c') c' 0))) rfl ?_
  refine X_loc (L' := [some (.ref (75 + 20 * i)), some (.ref (75 + 20 * j)), some (.int (nI 0))]) ⟨rfl, rfl, rfl, trivial⟩ ?_
  refine loopB ?_ _ 0 (Nat.zero_add _)
  exact X_vret rfl rfl ⟨c_cong (fun t p ht hp hn => s_cpd_eq ht hp), rfl⟩ (Nat.le_of_ble_eq_true rfl) (Nat.le_of_ble_eq_true rfl)

