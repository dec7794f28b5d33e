/-! ===== the class: column ===== -/
theorem p_typeOf {G : XE} (hG : x_Kn G) {B : XH} {J bf K tk ts : Nat → Int32} {tl : Int64} {tv : Nat → Int64} {su : Nat → Nat} {D : Nat → Nat → Int32} (d : Nat) {e : Nat → Int32} {o : Nat} (hst : st_at B e o) (hwf : s_wf e) (j : Nat) (hj : j < s_cm e) {x : Int32} (hx : x = nI j) : x_M G mX5_typeOf d 0 0 [.ref o, .int x] (cset B J bf K tk ts tl tv su D) (x_Ret (cset B J bf K tk ts tl tv su D) (.int (s_col e j 8))) x_noX := by
  refine X_M hG okX5_typeOf rfl (L := [some (.ref o), some (.int x)]) rfl (Nat.le_of_ble_eq_true rfl) (fun ad0 nb0 => ?_)
  have hcm5 := hwf.cmE.2
  obtain ⟨hso, a1, a2, a3, pp, hsB, -, ⟨ha2, ty, hB2, hty⟩, -, -⟩ := hst
  refine X_ld rfl rfl rfl rfl ?_
  refine X_if_lt rfl (fun c1 => absurd ((n_lt (b := 0) hx (show (0 : Int32) = nI 0 from rfl) (by omega) (by omega)).mp c1) (by omega)) (fun c1 => ?_)
  refine X_ld rfl rfl rfl rfl ?_
  refine X_ld rfl rfl rfl rfl ?_
  refine X_get f_X5_39 rfl (c_B hso hsB) rfl ?_
  refine X_icmp_ge rfl (fun c9 => absurd ((n_le hwf.cmE.1 hx (by omega) (by omega)).mp c9) (by omega)) (fun c9 => ?_)
  refine X_ld rfl rfl rfl rfl ?_
  refine X_get f_X5_15 rfl (c_B hso hsB) rfl ?_
  refine X_ld rfl rfl rfl rfl ?_
  refine X_iald rfl (c_B ha2 hB2) (by rw [hx]; exact vp_in_nI (by omega) (by omega)) (v := .int (ty j)) (by rw [hx, nI_clamp (by omega)]) ?_
  refine X_goto rfl ?_
  exact X_iret rfl rfl ⟨rfl, by rw [hty j hj]⟩ (Nat.le_of_ble_eq_true rfl) (Nat.le_of_ble_eq_true rfl)
def s_colv (e c : Nat → Int32) (j : Nat) (p : Int32) : Int32 := if p = 0 then s_col e j 8 else if p = 1 then (if s_col c j 9 = 0 then 0 else 1) else if p = 2 then s_col c j 10 else if p = 3 then s_col c j 11 else s_col c j 12
theorem m_column {G : XE} (hG : x_Kn G) (hX : x_KX G) {B : XH} {J bf K tk ts : Nat → Int32} {tl : Int64} {tv : Nat → Int64} {su : Nat → Nat} {D : Nat → Nat → Int32} (d : Nat) (w : Nat) (hw : J 5 = nI w) (hw10 : w < 10) {e : Nat → Int32} (hst : st_at B e (su w)) (hwf : s_wf e) {x y : Int32} : x_M G mX10_column (d + 7) 2 12 [.ref 64, .int x, .int y] (cset B J bf K tk ts tl tv su D) (x_QnV ((0 ≤ x ∧ x < e 0) ∧ s_to8 4 y) (cset B J bf K tk ts tl tv su D) (.int (s_colv e (D w) (n_ x) y))) (x_Qx2 (0 ≤ x ∧ x < e 0) (s_to8 4 y) (cset B J bf K tk ts tl tv su D) "java/lang/IndexOutOfBoundsException" "java/lang/IllegalArgumentException") := by
  refine X_M hG okX10_column rfl (L := [some (.ref 64), some (.int x), some (.int y), none]) rfl (Nat.le_of_ble_eq_true rfl) (fun ad0 nb0 => ?_)
  have hcm5 := hwf.cmE.2
  have hst9 := hst
  obtain ⟨hso, a1, a2, a3, pp, hsB, -⟩ := hst
  refine X_ld rfl rfl rfl rfl ?_
  refine X_ld rfl rfl rfl rfl ?_
  refine X_vchk c_O l_X10_X10_checkColumn (m_checkColumn hG hX d w hw hw10 hst9) rfl rfl rfl rfl (Nat.le_of_ble_eq_true rfl) (Nat.le_of_ble_eq_true rfl) (by omega) (Nat.le_of_ble_eq_true rfl) (Nat.le_of_ble_eq_true rfl) rfl (fun q => ⟨rfl, Or.inl ⟨q, rfl⟩⟩) (fun hp1 => ?_)
  obtain ⟨a, ha, hxa⟩ := m_rngl hwf.cmE.1 (by omega) hp1
  have ex : n_ x = a := by unfold n_; rw [hxa]; exact nI_clamp (by omega)
  refine X_ld rfl rfl rfl rfl ?_
  refine X_vcall c_O l_X10_X10_current (m_current hG (d + 5) w hw hw10) rfl rfl rfl rfl (Nat.le_of_ble_eq_true rfl) (Nat.le_of_ble_eq_true rfl) (by omega) (Nat.le_of_ble_eq_true rfl) (Nat.le_of_ble_eq_true rfl) ?_
  refine X_st rfl rfl rfl ?_
  refine X_ld rfl rfl rfl rfl ?_
  by_cases hP : s_to8 4 y
  · obtain ⟨k, hk, rfl⟩ := hP
    have h9 : k = 0 ∨ k = 1 ∨ k = 2 ∨ k = 3 ∨ k = 4 := by omega
    rcases h9 with rfl | rfl | rfl | rfl | rfl
    · refine X_tabIn 44 rfl (by decide) (by decide) (off := 33) (by decide) (by decide) ?_
      refine X_ld rfl rfl rfl rfl ?_
      refine X_get f_X10_75 rfl (r_D hw10 rfl) rfl ?_
      refine X_ld rfl rfl rfl rfl ?_
      refine X_vcall (c_B hso hsB) l_X10_X5_typeOf (p_typeOf hG (d + 5) hst9 hwf a ha hxa) rfl rfl rfl rfl (Nat.le_of_ble_eq_true rfl) (Nat.le_of_ble_eq_true rfl) (by omega) (Nat.le_of_ble_eq_true rfl) (Nat.le_of_ble_eq_true rfl) ?_
      exact X_iret rfl rfl ⟨⟨hp1, 0, by omega, rfl⟩, rfl, by rw [ex]; rfl⟩ (Nat.le_of_ble_eq_true rfl) (Nat.le_of_ble_eq_true rfl)
    · refine X_tabIn 53 rfl (by decide) (by decide) (off := 42) (by decide) (by decide) ?_
      refine X_ld rfl rfl rfl rfl ?_
      refine X_get f_X10_130 rfl (r_D hw10 rfl) rfl ?_
      refine X_ld rfl rfl rfl rfl ?_
      refine X_Xald hw10 rfl hxa (by omega) (k := a) rfl ?_
      refine X_if_eq rfl (fun c59 => ?_) (fun c59 => ?_)
      · refine X_push (v := .int 0) rfl (by decide +kernel) ?_
        exact X_iret rfl rfl ⟨⟨hp1, 1, by omega, rfl⟩, rfl, by rw [ex]; show _ = some (Value.int (if s_col (D w) a 9 = 0 then 0 else 1)); rw [if_pos (show s_col (D w) a 9 = 0 from c59)]⟩ (Nat.le_of_ble_eq_true rfl) (Nat.le_of_ble_eq_true rfl)
      · refine X_push (v := .int 1) rfl (by decide +kernel) ?_
        refine X_goto rfl ?_
        exact X_iret rfl rfl ⟨⟨hp1, 1, by omega, rfl⟩, rfl, by rw [ex]; show _ = some (Value.int (if s_col (D w) a 9 = 0 then 0 else 1)); rw [if_neg (show ¬ s_col (D w) a 9 = 0 from c59)]⟩ (Nat.le_of_ble_eq_true rfl) (Nat.le_of_ble_eq_true rfl)
    · refine X_tabIn 68 rfl (by decide) (by decide) (off := 57) (by decide) (by decide) ?_
      refine X_ld rfl rfl rfl rfl ?_
      refine X_get f_X10_109 rfl (r_D hw10 rfl) rfl ?_
      refine X_get f_X10_134 rfl (r_S hw10 rfl) rfl ?_
      refine X_ld rfl rfl rfl rfl ?_
      refine X_4ald hw10 rfl hxa (by omega) (k := a) rfl ?_
      exact X_iret rfl rfl ⟨⟨hp1, 2, by omega, rfl⟩, rfl, by rw [ex]; rfl⟩ (Nat.le_of_ble_eq_true rfl) (Nat.le_of_ble_eq_true rfl)
    · refine X_tabIn 78 rfl (by decide) (by decide) (off := 67) (by decide) (by decide) ?_
      refine X_ld rfl rfl rfl rfl ?_
      refine X_get f_X10_109 rfl (r_D hw10 rfl) rfl ?_
      refine X_get f_X10_138 rfl (r_S hw10 rfl) rfl ?_
      refine X_ld rfl rfl rfl rfl ?_
      refine X_5ald hw10 rfl hxa (by omega) (k := a) rfl ?_
      exact X_iret rfl rfl ⟨⟨hp1, 3, by omega, rfl⟩, rfl, by rw [ex]; rfl⟩ (Nat.le_of_ble_eq_true rfl) (Nat.le_of_ble_eq_true rfl)
    · refine X_tabIn 88 rfl (by decide) (by decide) (off := 77) (by decide) (by decide) ?_
      refine X_ld rfl rfl rfl rfl ?_
      refine X_get f_X10_109 rfl (r_D hw10 rfl) rfl ?_
      refine X_get f_X10_141 rfl (r_S hw10 rfl) rfl ?_
      refine X_ld rfl rfl rfl rfl ?_
      refine X_6ald hw10 rfl hxa (by omega) (k := a) rfl ?_
      exact X_iret rfl rfl ⟨⟨hp1, 4, by omega, rfl⟩, rfl, by rw [ex]; rfl⟩ (Nat.le_of_ble_eq_true rfl) (Nat.le_of_ble_eq_true rfl)
  · refine X_tabOut 98 rfl (s_to8_not (n := 4) (by decide) hP) (by decide) ?_
    exact X_throwS lt_iae (hX (RX10, 118, "what is out of range") (List.mem_of_getElem? (i := 0) rfl)) rfl rfl rfl rfl rfl rfl (by show 2 + 3 < d + 7; omega) (Nat.le_of_ble_eq_true rfl) (Nat.le_of_ble_eq_true rfl) (Nat.le_of_ble_eq_true rfl) ⟨rfl, Or.inr ⟨hp1, hP, rfl⟩⟩

