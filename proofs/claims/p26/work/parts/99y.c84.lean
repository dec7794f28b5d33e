/-! ===== what is read is a Setup: all of it ===== -/
theorem y_P.in1 {F : XH} {rd rd1 : Nat → Int32} {t po : Nat} (h : y_P F rd t po) (hin : ∀ j, (j < 4 ∨ 8 ≤ j) → rd1 j = rd j) : y_P F rd1 t po := h.mono y_le_rfl (fun x _ => hin _ (Or.inr (by omega))) (fun k _ x _ => (hin _ (Or.inr (by omega))).symm) (hin 0 (Or.inl (by decide))) (by rw [hin 9 (Or.inr (by decide))]; exact Nat.le_refl _)
/-- the Setup of a text that is read -/
theorem y_ST.st {B0 B : XH} {ρ : Nat → Nat} {hv rdS rd1 sv ty : Nat → Int32} {nm : Nat → Int64} {s elS i m : Nat} {mS er ea : Int32} {pS : Nat → Nat} (hST : y_ST B0 B ρ hv rdS s elS mS pS) (hρ : y_ds ρ B) (hin : ∀ j, (j < 4 ∨ 8 ≤ j) → rd1 j = rdS j) (h0 : rd1 0 = nI m) (h2 : rd1 2 = nI s) (hs6 : s ≤ 6) (hcol : y_col rd1 sv ty nm m) (h4 : ∀ k, 4 ≤ k → k ≤ 7 → sv k = rd1 k) : st_at (rset B ρ i er ea sv nm ty hv) rd1 (ρ 1) := by
  have hm : s_cm rd1 = m := by unfold s_cm; rw [h0]; exact nI_clamp (by have := hcol.1; omega)
  have hsm : s_sm rd1 = s := by unfold s_sm; rw [h2]; exact nI_clamp (by omega)
  have hle : y_le B (rset B ρ i er ea sv nm ty hv) := fun k c hk => rs_B hρ hk
  refine ⟨hρ.o 1 (by decide), ρ 2, ρ 3, ρ 5, pS, ?_, ⟨hρ.o 2 (by decide), nm, rs_a1 hρ, fun j hj => (hcol.2.2 j (by omega)).1⟩, ⟨hρ.o 3 (by decide), ty, rs_a2 hρ, fun j hj => (hcol.2.2 j (by omega)).2.1⟩, by rw [hsm]; exact y_le.l hle (y_lb.l hST.2.2.1 (by omega)), fun t ht => ?_⟩
  · rw [rs_st hρ]
    have e : stV (ρ 2) (ρ 3) (ρ 5) sv = stV (ρ 2) (ρ 3) (ρ 5) rd1 := by
      funext j
      match j with
      | 0 => exact congrArg Value.int (hcol.2.1.trans h0.symm)
      | 1 => rfl
      | 2 => rfl
      | 3 => rfl
      | 4 => exact congrArg Value.int (h4 4 (by decide) (by decide))
      | 5 => exact congrArg Value.int (h4 5 (by decide) (by decide))
      | 6 => exact congrArg Value.int (h4 6 (by decide) (by decide))
      | j + 7 => exact congrArg Value.int (h4 7 (by decide) (by decide))
    rw [e]
  · exact ((hST.2.2.2 t (by omega)).in1 hin).at' (fun k c hk => y_B1_rs hρ _ _ (y_dif_le _ _ (y_fz_dif _ _ hk)))
/-- and its codes are as a row's are -/
theorem y_ST.fok {B0 B : XH} {ρ : Nat → Nat} {hv rdS rd1 : Nat → Int32} {s elS : Nat} {mS : Int32} {pS : Nat → Nat} (hST : y_ST B0 B ρ hv rdS s elS mS pS) (hin : ∀ j, (j < 4 ∨ 8 ≤ j) → rd1 j = rdS j) (hm : s_cm rd1 ≤ 5) : ∀ t, t < s → s_fok rd1 t ∧ s_from rd1 t ≤ s_to rd1 t ∧ ∀ k, s_from rd1 t ≤ k → k < s_to rd1 t → s_cod rd1 k 0 = 0 → s_cmpok rd1 k := fun t ht => by
  have h := (hST.2.2.2 t ht).in1 hin
  exact ⟨h.sfok hm, h.fok.1, h.fok.2.2⟩

