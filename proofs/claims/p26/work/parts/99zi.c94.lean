/-! ===== the law: class and reference side by side ===== -/
/-- a row of the reference and the class's data of the same time -/
def L_lv (B : XH) (t : Nat) (e c : Nat → Int32) (o : Nat) : Prop := s_inv t e ∧ s_rel e c ∧ st_at B e o ∧ ∀ q, q < 5 → c (10 + 13 * q + 9) = 0 ∨ c (10 + 13 * q + 9) = 1
theorem L_lv.mono {B B' : XH} {t t' : Nat} {e c : Nat → Int32} {o : Nat} (h : L_lv B t e c o) (hB : y_le B B') (ht : t ≤ t') : L_lv B' t' e c o := ⟨s_inv_mono ht h.1, h.2.1, y_le.st hB h.2.2.1, h.2.2.2⟩
section RING
variable {B B' : XH} {t t' w v u : Nat} {S D : Nat → Nat → Int32} {su : Nat → Nat}
end RING
section CELLS
variable {B X : XH} {ov ov' : Int64} {I : Nat → Int32} {T : Int64} {S : Nat → Nat → Int32} {rd tx gv pl : Nat → Int32} {P : Nat → Bool} {J bf K tk ts : Nat → Int32} {tl : Int64} {tv : Nat → Int64} {su : Nat → Nat} {D : Nat → Nat → Int32} {k n : Nat} {xs : Nat → Int32}
end CELLS
/-- the Setup of a text that is read lies in new cells -/
theorem y_ST.st2 {B0 B : XH} {ρ : Nat → Nat} {hv rdS rd1 sv ty : Nat → Int32} {nm : Nat → Int64} {s elS i m : Nat} {mS er ea : Int32} {pS : Nat → Nat} (hST : y_ST B0 B ρ hv rdS s elS mS pS) (hρ : y_ds ρ B) (hin : ∀ j, (j < 4 ∨ 8 ≤ j) → rd1 j = rdS j) (h0 : rd1 0 = nI m) (h2 : rd1 2 = nI s) (hs6 : s ≤ 6) (hcol : y_col rd1 sv ty nm m) (h4 : ∀ k, 4 ≤ k → k ≤ 7 → sv k = rd1 k) : st_at (y_dif B0 (rset B ρ i er ea sv nm ty hv)) rd1 (ρ 1) := by
  have hm : s_cm rd1 = m := by unfold s_cm; rw [h0]; exact nI_clamp (by have := hcol.1; omega)
  have hsm : s_sm rd1 = s := by unfold s_sm; rw [h2]; exact nI_clamp (by omega)
  have hle : y_le B (rset B ρ i er ea sv nm ty hv) := fun k c hk => rs_B hρ hk
  have hb : ∀ a, a < 5 → B0 (ρ a) = none := hST.2.1.1
  refine ⟨hρ.o 1 (by decide), ρ 2, ρ 3, ρ 5, pS, ?_, ⟨hρ.o 2 (by decide), nm, (y_dif_of (hb 2 (by decide))).trans (rs_a1 hρ), fun j hj => (hcol.2.2 j (by omega)).1⟩, ⟨hρ.o 3 (by decide), ty, (y_dif_of (hb 3 (by decide))).trans (rs_a2 hρ), fun j hj => (hcol.2.2 j (by omega)).2.1⟩, by rw [hsm]; exact y_lb_dif (y_lb_le hle hST.2.2.1) hST.2.1.2.1 hST.2.1.2.2 (by omega), fun t ht => ?_⟩
  · rw [y_dif_of (hb 1 (by decide)), rs_st hρ]
    have e : stV (ρ 2) (ρ 3) (ρ 5) sv = stV (ρ 2) (ρ 3) (ρ 5) rd1 := by
      funext j
      match j with
      | 0 => exact congrArg Value.int (hcol.2.1.trans h0.symm)
      | 1 => rfl
      | 2 => rfl
      | 3 => rfl
      | 4 => exact congrArg Value.int (h4 4 (by decide) (by decide))
      | 5 => exact congrArg Value.int (h4 5 (by decide) (by decide))
      | 6 => exact congrArg Value.int (h4 6 (by decide) (by decide))
      | j + 7 => exact congrArg Value.int (h4 7 (by decide) (by decide))
    rw [e]
  · refine ((hST.2.2.2 t (by omega)).in1 hin).at' (fun k c hk => ?_)
    have h5 := y_fz_dif _ _ hk
    rw [y_dif_of (y_dif_new h5)]
    exact y_B1_rs hρ _ _ (y_dif_le _ _ h5)

