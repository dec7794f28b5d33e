/-! ===== the law's wrapper of load: refused ===== -/
theorem W_loadF {G : XE} (hG : x_Kn G) (hX : x_KX G) (hN : x_KN G) {B : XH} {n : Nat} {xs : Nat → Int32} (hB : L_B B n xs) {ov : Int64} {I : Nat → Int32} {T : Int64} {S : Nat → Nat → Int32} {rd tx gv : Nat → Int32} {P : Nat → Bool} {J bf K tk ts : Nat → Int32} {tl : Int64} {tv : Nat → Int64} {su : Nat → Nat} {D : Nat → Nat → Int32} (w : Nat) (hw : J 5 = nI w) (hw10 : w < 10) {x : Int32} (hx : ¬ ((0 : Int32) ≤ x ∧ x ≤ J 1)) : x_M G mL_load 60 1 6 [.ref 64, .int x, .ref 281] (cset (L_X B ov I T S rd tx gv P) J bf K tk ts tl tv su D) (fun N r => N = cset (L_X B ov I T S rd tx gv P) J bf K tk ts tl tv su D ∧ r = some (.int 1)) x_noX := by
  refine X_MH hG okL_load rfl (L := [some (.ref 64), some (.int x), some (.ref 281), none]) rfl (Nat.le_of_ble_eq_true rfl) (fun ad0 nb0 => ?_)
  have hX0 := L_X0 (ov := ov) (I := I) (T := T) (S := S) (rd := rd) (tx := tx) (gv := gv) (P := P) hB
  have hw9 : s_n10 w < 10 := s_n10_lt
  refine X_ld rfl rfl rfl rfl ?_
  refine X_push (v := .int 0) rfl (by decide +kernel) ?_
  refine X_ld rfl rfl rfl rfl ?_
  refine X_ld rfl rfl rfl rfl ?_
  refine X_callV (T := TX10) (nf := 7) l_L_X10_load (m_loadF hG hX 40 hx) rfl rfl c_O rfl rfl (Nat.le_of_ble_eq_true rfl) (x_fit_of (Nat.le_of_ble_eq_true rfl) (by omega) (Nat.le_of_ble_eq_true rfl) (Nat.le_of_ble_eq_true rfl)) (fun N9 E h => ?_) (fun N9 r h => h.elim)
  obtain ⟨hp, rfl, rfl⟩ := h
  refine X_catch (name := "java/lang/IllegalArgumentException") (pre := []) (a := (0, 9, 12, 13)) (suf := []) (y_none0 hX0.1) rfl (fun z hz => nomatch hz) rfl (by decide) (x_in 641 (by decide +kernel) rfl) (List.mem_of_getElem? (i := 490) (by decide +kernel)) (fun q0 => ?_)
  refine X_st rfl rfl rfl ?_
  refine X_push (v := .int 1) rfl (by decide +kernel) ?_
  exact X_iret rfl rfl ⟨rfl, rfl⟩ (Nat.le_of_ble_eq_true rfl) (Nat.le_of_ble_eq_true rfl)
