/-! ===== the law: class and reference side by side ===== -/
/-- a row of the reference and the class's data of the same time -/
def L_lv (B : XH) (t : Nat) (e c : Nat → Int32) (o : Nat) : Prop := s_inv t e ∧ s_rel e c ∧ st_at B e o ∧ ∀ q, q < 5 → c (10 + 13 * q + 9) = 0 ∨ c (10 + 13 * q + 9) = 1
/-- the current ones, and those that can be had back -/
def L_rg (B : XH) (t w v u : Nat) (S D : Nat → Nat → Int32) (su : Nat → Nat) : Prop := ∀ j, j ≤ u → L_lv B t (S ((v + 9 - j) % 9)) (D ((w + 10 - j) % 10)) (su ((w + 10 - j) % 10))
theorem L_lv.mono {B B' : XH} {t t' : Nat} {e c : Nat → Int32} {o : Nat} (h : L_lv B t e c o) (hB : y_le B B') (ht : t ≤ t') : L_lv B' t' e c o := ⟨s_inv_mono ht h.1, h.2.1, y_le.st hB h.2.2.1, h.2.2.2⟩
section RING
variable {B B' : XH} {t t' w v u : Nat} {S D : Nat → Nat → Int32} {su : Nat → Nat}
theorem L_rg.mono (h : L_rg B t w v u S D su) (hB : y_le B B') (ht : t ≤ t') : L_rg B' t' w v u S D su := fun j hj => (h j hj).mono hB ht
theorem L_rg.cur (h : L_rg B t w v u S D su) (hw : w < 10) (hv : v < 9) : L_lv B t (S v) (D w) (su w) := by
  have h0 := h 0 (Nat.zero_le _)
  rw [show (v + 9 - 0) % 9 = v by omega, show (w + 10 - 0) % 10 = w by omega] at h0
  exact h0
theorem L_rg.spare (h : L_rg B t w v u S D su) (hw : w < 10) (hu : u ≤ 8) {c : Nat → Int32} {o : Nat} : L_rg B t w v u S (updR D (s_n10 w) c) (updN su (s_n10 w) o) := fun j hj => by
  have hne : (w + 10 - j) % 10 ≠ s_n10 w := by unfold s_n10; omega
  rw [updR_ne hne, updN_ne hne]
  exact h j hj
theorem L_rg.push (h : L_rg B t w v u S D su) (hw : w < 10) (hv : v < 9) (hu : u ≤ 8) {e c : Nat → Int32} {o : Nat} (hn : L_lv B t e c o) : L_rg B t (s_n10 w) (s_nx v) (s_u8 u) (updR S (s_nx v) e) (updR D (s_n10 w) c) (updN su (s_n10 w) o) := fun j hj => by
  by_cases j0 : j = 0
  · subst j0
    have e1 : (s_nx v + 9 - 0) % 9 = s_nx v := by unfold s_nx; omega
    have e2 : (s_n10 w + 10 - 0) % 10 = s_n10 w := by unfold s_n10; omega
    rw [e1, e2, updR_eq, updR_eq, updN_eq]
    exact hn
  · have hj8 : j ≤ 8 ∧ j - 1 ≤ u := by
      unfold s_u8 at hj
      by_cases h8 : u < 8
      · rw [if_pos h8] at hj; omega
      · rw [if_neg h8] at hj; omega
    have e1 : (s_nx v + 9 - j) % 9 = (v + 9 - (j - 1)) % 9 := by unfold s_nx; omega
    have e2 : (s_n10 w + 10 - j) % 10 = (w + 10 - (j - 1)) % 10 := by unfold s_n10; omega
    have n1 : (v + 9 - (j - 1)) % 9 ≠ s_nx v := by unfold s_nx; omega
    have n2 : (w + 10 - (j - 1)) % 10 ≠ s_n10 w := by unfold s_n10; omega
    rw [e1, e2, updR_ne n1, updR_ne n2, updN_ne n2]
    exact h (j - 1) hj8.2
theorem L_rg.undo (h : L_rg B t w v u S D su) (hw : w < 10) (hv : v < 9) (hu : u ≠ 0) (hu8 : u ≤ 8) : L_rg B t ((w + 9) % 10) ((v + 8) % 9) (u - 1) S D su := fun j hj => by
  have e1 : ((v + 8) % 9 + 9 - j) % 9 = (v + 9 - (j + 1)) % 9 := by omega
  have e2 : ((w + 9) % 10 + 10 - j) % 10 = (w + 10 - (j + 1)) % 10 := by omega
  rw [e1, e2]
  exact h (j + 1) (by omega)
end RING
/-- the law's own long -/
def L_out (v : Int64) : XC := .inr (true, .long, 1, fun _ => .long v)
/-- class and reference and the law's long over the other cells -/
def L_X (B : XH) (ov : Int64) (I : Nat → Int32) (T : Int64) (S : Nat → Nat → Int32) (rd tx gv : Nat → Int32) (P : Nat → Bool) : XH := mset (x_set B 281 (L_out ov)) I T S rd tx gv (fun i => b2 (P i))
def L_B (B : XH) (n : Nat) (xs : Nat → Int32) : Prop := B 0 = none ∧ B 2 = none ∧ (∀ k, 275 ≤ k → k ≤ 281 → B k = none) ∧ v_at B (fun _ => -1) 1 ∧ B 56 = some (.inr (false, .int, n, fun j => .int (xs j)))
section CELLS
variable {B X : XH} {ov ov' : Int64} {I : Nat → Int32} {T : Int64} {S : Nat → Nat → Int32} {rd tx gv pl : Nat → Int32} {P : Nat → Bool} {J bf K tk ts : Nat → Int32} {tl : Int64} {tv : Nat → Int64} {su : Nat → Nat} {D : Nat → Nat → Int32} {k n : Nat} {xs : Nat → Int32}
theorem m_out (h : ¬ (275 ≤ k ∧ k ≤ 280)) : mset X I T S rd tx gv pl k = X k := by
  unfold mset
  rw [beq_ne (by omega), beq_ne (by omega), beq_ne (by omega), beq_ne (by omega), beq_ne (by omega), beq_ne (by omega)]
  rfl
theorem m_in {X' : XH} (h : 275 ≤ k ∧ k ≤ 280) : mset X I T S rd tx gv pl k = mset X' I T S rd tx gv pl k := by
  rcases (show k = 275 ∨ k = 276 ∨ k = 277 ∨ k = 278 ∨ k = 279 ∨ k = 280 by omega) with e | e | e | e | e | e <;> subst e <;> rfl
theorem c_in {X' : XH} (h : (64 ≤ k ∧ k ≤ 70) ∨ (75 ≤ k ∧ k ≤ 274)) : cset X J bf K tk ts tl tv su D k = cset X' J bf K tk ts tl tv su D k := by
  rcases h with h | h
  · rcases (show k = 64 ∨ k = 65 ∨ k = 66 ∨ k = 67 ∨ k = 68 ∨ k = 69 ∨ k = 70 by omega) with e | e | e | e | e | e | e <;> subst e <;> rfl
  · have e : (Nat.ble 75 k && Nat.ble k 274) = true := by rw [Nat.ble_eq_true_of_le h.1, Nat.ble_eq_true_of_le h.2]; rfl
    unfold cset
    rw [beq_ne (by omega), beq_ne (by omega), beq_ne (by omega), beq_ne (by omega), beq_ne (by omega), beq_ne (by omega), beq_ne (by omega), e]
    rfl
theorem L_sw : cset (mset X I T S rd tx gv pl) J bf K tk ts tl tv su D = mset (cset X J bf K tk ts tl tv su D) I T S rd tx gv pl := by
  funext k
  by_cases h : 275 ≤ k ∧ k ≤ 280
  · rw [c_out (by omega) (by omega)]
    exact m_in h
  · rw [m_out h]
    by_cases h1 : (64 ≤ k ∧ k ≤ 70) ∨ (75 ≤ k ∧ k ≤ 274)
    · exact c_in h1
    · rw [c_out (by omega) (by omega), c_out (by omega) (by omega), m_out h]
theorem m_set {c : XC} (h : ¬ (275 ≤ k ∧ k ≤ 280)) : x_set (mset X I T S rd tx gv pl) k c = mset (x_set X k c) I T S rd tx gv pl := by
  funext q
  by_cases e : q = k
  · rw [e, x_set_eq, m_out h, x_set_eq]
  · rw [x_set_ne e]
    by_cases h1 : 275 ≤ q ∧ q ≤ 280
    · exact m_in h1
    · rw [m_out h1, m_out h1, x_set_ne e]
theorem L_o : x_set (L_X B ov I T S rd tx gv P) 281 (L_out ov') = L_X B ov' I T S rd tx gv P := by
  unfold L_X
  rw [m_set (by omega), x_set_set]
theorem L_281 : L_X B ov I T S rd tx gv P 281 = some (L_out ov) := by
  unfold L_X
  rw [m_out (by omega), x_set_eq]
theorem L_le (h : ∀ k, 275 ≤ k → k ≤ 281 → B k = none) : y_le B (L_X B ov I T S rd tx gv P) := fun k c hk => by
  have h1 : ¬ (275 ≤ k ∧ k ≤ 281) := fun q => by rw [h k q.1 q.2] at hk; cases hk
  unfold L_X
  rw [m_out (by omega), x_set_ne (by omega)]
  exact hk
theorem L_X0 (h : L_B B n xs) : L_X B ov I T S rd tx gv P 0 = none ∧ L_X B ov I T S rd tx gv P 2 = none := by
  unfold L_X
  rw [m_out (by omega), m_out (by omega), x_set_ne (by omega), x_set_ne (by omega)]
  exact ⟨h.1, h.2.1⟩
theorem L_X1 (h : L_B B n xs) : v_at (L_X B ov I T S rd tx gv P) (fun _ => -1) 1 := y_le.v (L_le h.2.2.1) h.2.2.2.1
theorem L_X56 (h : L_B B n xs) : L_X B ov I T S rd tx gv P 56 = some (.inr (false, .int, n, fun j => .int (xs j))) := L_le h.2.2.1 _ _ h.2.2.2.2
/-- the law's cells hidden -/
def L_hid (R : XH) : XH := fun k => if 275 ≤ k ∧ k ≤ 281 then none else R k
theorem L_hid_eq {R : XH} (h : y_le (L_X B ov I T S rd tx gv P) R) : R = L_X (L_hid R) ov I T S rd tx gv P := by
  funext k
  unfold L_X
  by_cases h1 : 275 ≤ k ∧ k ≤ 280
  · have e : mset (x_set (L_hid R) 281 (L_out ov)) I T S rd tx gv (fun i => b2 (P i)) k = mset (x_set B 281 (L_out ov)) I T S rd tx gv (fun i => b2 (P i)) k := m_in h1
    rw [e]
    have hs : ∃ c, mset (x_set B 281 (L_out ov)) I T S rd tx gv (fun i => b2 (P i)) k = some c := by
      rcases (show k = 275 ∨ k = 276 ∨ k = 277 ∨ k = 278 ∨ k = 279 ∨ k = 280 by omega) with e | e | e | e | e | e <;> subst e <;> exact ⟨_, rfl⟩
    obtain ⟨c, hc⟩ := hs
    rw [hc]
    exact h k c hc
  · rw [m_out h1]
    by_cases h2 : k = 281
    · rw [h2, x_set_eq]
      exact h 281 _ L_281
    · rw [x_set_ne h2]
      exact (if_neg (by omega)).symm
theorem L_hid_le {R : XH} (hB : ∀ k, 275 ≤ k → k ≤ 281 → B k = none) (h : y_le (L_X B ov I T S rd tx gv P) R) : y_le B (L_hid R) := fun k c hk => by
  have h1 : ¬ (275 ≤ k ∧ k ≤ 281) := fun q => by rw [hB k q.1 q.2] at hk; cases hk
  unfold L_hid
  rw [if_neg h1]
  exact h k c (L_le hB k c hk)
theorem L_hid_dif {R : XH} : y_le (y_dif (L_X B ov I T S rd tx gv P) R) (L_hid R) := fun k c hk => by
  have h0 := y_dif_new hk
  have h1 : ¬ (275 ≤ k ∧ k ≤ 281) := fun q => by
    by_cases h2 : k = 281
    · rw [h2, L_281] at h0; cases h0
    · have hs : ∃ c, L_X B ov I T S rd tx gv P k = some c := by
        unfold L_X
        rcases (show k = 275 ∨ k = 276 ∨ k = 277 ∨ k = 278 ∨ k = 279 ∨ k = 280 by omega) with e | e | e | e | e | e <;> subst e <;> exact ⟨_, rfl⟩
      obtain ⟨c', hc'⟩ := hs
      rw [hc'] at h0
      cases h0
  unfold L_hid
  rw [if_neg h1]
  exact y_dif_le _ _ hk
theorem L_hid_B {R : XH} (hB : L_B B n xs) (h : y_le (L_X B ov I T S rd tx gv P) R) (h0 : R 0 = none) (h2 : R 2 = none) : L_B (L_hid R) n xs := by
  have hle := L_hid_le hB.2.2.1 h
  exact ⟨by unfold L_hid; rw [if_neg (by omega)]; exact h0, by unfold L_hid; rw [if_neg (by omega)]; exact h2, fun k h1 h2 => if_pos ⟨h1, h2⟩, y_le.v hle hB.2.2.2.1, hle _ _ hB.2.2.2.2⟩
end CELLS
/-- the Setup of a text that is read lies in new cells -/
theorem y_ST.st2 {B0 B : XH} {ρ : Nat → Nat} {hv rdS rd1 sv ty : Nat → Int32} {nm : Nat → Int64} {s elS i m : Nat} {mS er ea : Int32} {pS : Nat → Nat} (hST : y_ST B0 B ρ hv rdS s elS mS pS) (hρ : y_ds ρ B) (hin : ∀ j, (j < 4 ∨ 8 ≤ j) → rd1 j = rdS j) (h0 : rd1 0 = nI m) (h2 : rd1 2 = nI s) (hs6 : s ≤ 6) (hcol : y_col rd1 sv ty nm m) (h4 : ∀ k, 4 ≤ k → k ≤ 7 → sv k = rd1 k) : st_at (y_dif B0 (rset B ρ i er ea sv nm ty hv)) rd1 (ρ 1) := by
  have hm : s_cm rd1 = m := by unfold s_cm; rw [h0]; exact nI_clamp (by have := hcol.1; omega)
  have hsm : s_sm rd1 = s := by unfold s_sm; rw [h2]; exact nI_clamp (by omega)
  have hle : y_le B (rset B ρ i er ea sv nm ty hv) := fun k c hk => rs_B hρ hk
  have hb : ∀ a, a < 5 → B0 (ρ a) = none := hST.2.1.1
  refine ⟨hρ.o 1 (by decide), ρ 2, ρ 3, ρ 5, pS, ?_, ⟨hρ.o 2 (by decide), nm, (y_dif_of (hb 2 (by decide))).trans (rs_a1 hρ), fun j hj => (hcol.2.2 j (by omega)).1⟩, ⟨hρ.o 3 (by decide), ty, (y_dif_of (hb 3 (by decide))).trans (rs_a2 hρ), fun j hj => (hcol.2.2 j (by omega)).2.1⟩, by rw [hsm]; exact y_lb_dif (y_lb_le hle hST.2.2.1) hST.2.1.2.1 hST.2.1.2.2 (by omega), fun t ht => ?_⟩
  · rw [y_dif_of (hb 1 (by decide)), rs_st hρ]
    have e : stV (ρ 2) (ρ 3) (ρ 5) sv = stV (ρ 2) (ρ 3) (ρ 5) rd1 := by
      funext j
      match j with
      | 0 => exact congrArg Value.int (hcol.2.1.trans h0.symm)
      | 1 => rfl
      | 2 => rfl
      | 3 => rfl
      | 4 => exact congrArg Value.int (h4 4 (by decide) (by decide))
      | 5 => exact congrArg Value.int (h4 5 (by decide) (by decide))
      | 6 => exact congrArg Value.int (h4 6 (by decide) (by decide))
      | j + 7 => exact congrArg Value.int (h4 7 (by decide) (by decide))
    rw [e]
  · refine ((hST.2.2.2 t (by omega)).in1 hin).at' (fun k c hk => ?_)
    have h5 := y_fz_dif _ _ hk
    rw [y_dif_of (y_dif_new h5)]
    exact y_B1_rs hρ _ _ (y_dif_le _ _ h5)
