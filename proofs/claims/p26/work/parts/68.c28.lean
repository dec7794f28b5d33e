/-! ===== the class: learned, statement ===== -/
theorem m_learned {G : XE} (hG : x_Kn G) (hX : x_KX G) {B : XH} {J bf K tk ts : Nat → Int32} {tl : Int64} {tv : Nat → Int64} {su : Nat → Nat} {D : Nat → Nat → Int32} (d : Nat) (w : Nat) (hw : J 5 = nI w) (hw10 : w < 10) {e : Nat → Int32} (hst : st_at B e (su w)) (hwf : s_wf e) {x y : Int32} : x_M G mX10_learned (d + 7) 2 12 [.ref 64, .int x, .int y] (cset B J bf K tk ts tl tv su D) (x_QnV ((0 ≤ x ∧ x < nI (s_sm e)) ∧ (0 ≤ y ∧ y < e 0)) (cset B J bf K tk ts tl tv su D) (.int (s_st (D w) (n_ x) (21 + n_ y)))) (x_QxP ((0 ≤ x ∧ x < nI (s_sm e)) ∧ (0 ≤ y ∧ y < e 0)) (cset B J bf K tk ts tl tv su D) "java/lang/IndexOutOfBoundsException") := by
  refine X_M hG okX10_learned rfl (L := [some (.ref 64), some (.int x), some (.int y)]) rfl (Nat.le_of_ble_eq_true rfl) (fun ad0 nb0 => ?_)
  have hcm5 := hwf.cmE.2
  have hsm6 := hwf.smE.2
  refine X_ld rfl rfl rfl rfl ?_
  refine X_ld rfl rfl rfl rfl ?_
  refine X_vchk c_O l_X10_X10_checkStatement (m_checkStatement hG hX d w hw hw10 hst) rfl rfl rfl rfl (Nat.le_of_ble_eq_true rfl) (Nat.le_of_ble_eq_true rfl) (by omega) (Nat.le_of_ble_eq_true rfl) (Nat.le_of_ble_eq_true rfl) rfl (fun q => ⟨fun z => q z.1, rfl, rfl⟩) (fun hp1 => ?_)
  refine X_ld rfl rfl rfl rfl ?_
  refine X_ld rfl rfl rfl rfl ?_
  refine X_vchk c_O l_X10_X10_checkColumn (m_checkColumn hG hX d w hw hw10 hst) rfl rfl rfl rfl (Nat.le_of_ble_eq_true rfl) (Nat.le_of_ble_eq_true rfl) (by omega) (Nat.le_of_ble_eq_true rfl) (Nat.le_of_ble_eq_true rfl) rfl (fun q => ⟨fun z => q z.2, rfl, rfl⟩) (fun hp2 => ?_)
  obtain ⟨a, ha, hxa⟩ := m_rngl rfl (by omega) hp1
  obtain ⟨b, hb, hyb⟩ := m_rngl hwf.cmE.1 (by omega) hp2
  have ex : n_ x = a := by unfold n_; rw [hxa]; exact nI_clamp (by omega)
  have ey : n_ y = b := by unfold n_; rw [hyb]; exact nI_clamp (by omega)
  refine X_ld rfl rfl rfl rfl ?_
  refine X_vcall c_O l_X10_X10_current (m_current hG (d + 5) w hw hw10) rfl rfl rfl rfl (Nat.le_of_ble_eq_true rfl) (Nat.le_of_ble_eq_true rfl) (by omega) (Nat.le_of_ble_eq_true rfl) (Nat.le_of_ble_eq_true rfl) ?_
  refine X_get f_X10_173 rfl (r_D hw10 rfl) rfl ?_
  refine X_ld rfl rfl rfl rfl ?_
  refine X_uald hw10 rfl hxa (by omega) (k := a) rfl ?_
  refine X_get f_X10_201 rfl (r_u hw10 (by omega) rfl) rfl ?_
  refine X_ld rfl rfl rfl rfl ?_
  refine X_pald hw10 (by omega) rfl hyb (by omega) (k := b) rfl ?_
  exact X_iret rfl rfl ⟨⟨hp1, hp2⟩, rfl, by rw [ex, ey]⟩ (Nat.le_of_ble_eq_true rfl) (Nat.le_of_ble_eq_true rfl)
/-- two checks, the second behind the first -/
def x_Qx2 (P1 P2 : Prop) (N : XH) (C1 C2 : String) : XH → String → Prop := fun N' E => N' = N ∧ ((¬ P1 ∧ E = C1) ∨ (P1 ∧ ¬ P2 ∧ E = C2))
def s_stav (c : Nat → Int32) (s : Nat) (p : Int32) : Int32 := if p = 0 then s_st c s 8 else if p = 1 then s_st c s 9 else if p = 2 then s_st c s 10 else if p = 3 then s_st c s 11 else if p = 4 then (if s_st c s 14 = -2 then 0 else if s_st c s 16 = c 3 then 1 else 2) else s_st c s 13
theorem m_statement {G : XE} (hG : x_Kn G) (hX : x_KX G) {B : XH} {J bf K tk ts : Nat → Int32} {tl : Int64} {tv : Nat → Int64} {su : Nat → Nat} {D : Nat → Nat → Int32} (d : Nat) (w : Nat) (hw : J 5 = nI w) (hw10 : w < 10) {e : Nat → Int32} (hst : st_at B e (su w)) (hwf : s_wf e) {x y : Int32} : x_M G mX10_statement (d + 7) 2 12 [.ref 64, .int x, .int y] (cset B J bf K tk ts tl tv su D) (x_QnV ((0 ≤ x ∧ x < nI (s_sm e)) ∧ s_to8 5 y) (cset B J bf K tk ts tl tv su D) (.int (s_stav (D w) (n_ x) y))) (x_Qx2 (0 ≤ x ∧ x < nI (s_sm e)) (s_to8 5 y) (cset B J bf K tk ts tl tv su D) "java/lang/IndexOutOfBoundsException" "java/lang/IllegalArgumentException") := by
  refine X_M hG okX10_statement rfl (L := [some (.ref 64), some (.int x), some (.int y), none, none]) rfl (Nat.le_of_ble_eq_true rfl) (fun ad0 nb0 => ?_)
  have hsm6 := hwf.smE.2
  refine X_ld rfl rfl rfl rfl ?_
  refine X_ld rfl rfl rfl rfl ?_
  refine X_vchk c_O l_X10_X10_checkStatement (m_checkStatement hG hX d w hw hw10 hst) rfl rfl rfl rfl (Nat.le_of_ble_eq_true rfl) (Nat.le_of_ble_eq_true rfl) (by omega) (Nat.le_of_ble_eq_true rfl) (Nat.le_of_ble_eq_true rfl) rfl (fun q => ⟨rfl, Or.inl ⟨q, rfl⟩⟩) (fun hp1 => ?_)
  obtain ⟨a, ha, hxa⟩ := m_rngl rfl (by omega) hp1
  have ex : n_ x = a := by unfold n_; rw [hxa]; exact nI_clamp (by omega)
  refine X_ld rfl rfl rfl rfl ?_
  refine X_vcall c_O l_X10_X10_current (m_current hG (d + 5) w hw hw10) rfl rfl rfl rfl (Nat.le_of_ble_eq_true rfl) (Nat.le_of_ble_eq_true rfl) (by omega) (Nat.le_of_ble_eq_true rfl) (Nat.le_of_ble_eq_true rfl) ?_
  refine X_st rfl rfl rfl ?_
  refine X_ld rfl rfl rfl rfl ?_
  refine X_get f_X10_173 rfl (r_D hw10 rfl) rfl ?_
  refine X_ld rfl rfl rfl rfl ?_
  refine X_uald hw10 rfl hxa (by omega) (k := a) rfl ?_
  refine X_st rfl rfl rfl ?_
  refine X_ld rfl rfl rfl rfl ?_
  by_cases hP : s_to8 5 y
  · obtain ⟨k, hk, rfl⟩ := hP
    have h9 : k = 0 ∨ k = 1 ∨ k = 2 ∨ k = 3 ∨ k = 4 ∨ k = 5 := by omega
    rcases h9 with rfl | rfl | rfl | rfl | rfl | rfl
    · refine X_tabIn 56 rfl (by decide) (by decide) (off := 37) (by decide) (by decide) ?_
      refine X_ld rfl rfl rfl rfl ?_
      refine X_get f_X10_177 rfl (r_u hw10 (by omega) rfl) rfl ?_
      exact X_iret rfl rfl ⟨⟨hp1, 0, by omega, rfl⟩, rfl, by rw [ex]; rfl⟩ (Nat.le_of_ble_eq_true rfl) (Nat.le_of_ble_eq_true rfl)
    · refine X_tabIn 62 rfl (by decide) (by decide) (off := 43) (by decide) (by decide) ?_
      refine X_ld rfl rfl rfl rfl ?_
      refine X_get f_X10_182 rfl (r_u hw10 (by omega) rfl) rfl ?_
      exact X_iret rfl rfl ⟨⟨hp1, 1, by omega, rfl⟩, rfl, by rw [ex]; rfl⟩ (Nat.le_of_ble_eq_true rfl) (Nat.le_of_ble_eq_true rfl)
    · refine X_tabIn 68 rfl (by decide) (by decide) (off := 49) (by decide) (by decide) ?_
      refine X_ld rfl rfl rfl rfl ?_
      refine X_get f_X10_185 rfl (r_u hw10 (by omega) rfl) rfl ?_
      exact X_iret rfl rfl ⟨⟨hp1, 2, by omega, rfl⟩, rfl, by rw [ex]; rfl⟩ (Nat.le_of_ble_eq_true rfl) (Nat.le_of_ble_eq_true rfl)
    · refine X_tabIn 74 rfl (by decide) (by decide) (off := 55) (by decide) (by decide) ?_
      refine X_ld rfl rfl rfl rfl ?_
      refine X_get f_X10_188 rfl (r_u hw10 (by omega) rfl) rfl ?_
      exact X_iret rfl rfl ⟨⟨hp1, 3, by omega, rfl⟩, rfl, by rw [ex]; rfl⟩ (Nat.le_of_ble_eq_true rfl) (Nat.le_of_ble_eq_true rfl)
    · refine X_tabIn 80 rfl (by decide) (by decide) (off := 61) (by decide) (by decide) ?_
      refine X_ld rfl rfl rfl rfl ?_
      refine X_get f_X10_191 rfl (r_u hw10 (by omega) rfl) rfl ?_
      refine X_push (v := .int (-2)) rfl (by decide +kernel) ?_
      refine X_icmp_ne rfl (fun c87 => ?_) (fun c87 => ?_)
      · refine X_ld rfl rfl rfl rfl ?_
        refine X_ld rfl rfl rfl rfl ?_
        refine X_get f_X10_94 rfl (r_D hw10 rfl) rfl ?_
        refine X_heap (congrArg (fun D => cset B J bf K tk ts tl tv su D) (updR_self (w := w))) ?_
        refine X_vcall (r_u hw10 (by omega) updR_eq) l_X10_X9_keepsFreshPlan (u_keepsFreshPlan hG (d + 5) w hw10 a (by omega)) rfl rfl rfl rfl (Nat.le_of_ble_eq_true rfl) (Nat.le_of_ble_eq_true rfl) (by omega) (Nat.le_of_ble_eq_true rfl) (Nat.le_of_ble_eq_true rfl) ?_
        refine X_if_eq rfl (fun c103 => ?_) (fun c103 => ?_)
        · refine X_push (v := .int 2) rfl (by decide +kernel) ?_
          exact X_iret rfl rfl ⟨⟨hp1, 4, by omega, rfl⟩, (congrArg (fun D => cset B J bf K tk ts tl tv su D) (updR_self (w := w))).symm, by rw [ex]; show _ = some (Value.int (if s_st (D w) a 14 = -2 then 0 else if s_st (D w) a 16 = D w 3 then 1 else 2)); rw [if_neg c87, if_neg (fun q => bI_ne.mpr ⟨c87, q⟩ c103)]⟩ (Nat.le_of_ble_eq_true rfl) (Nat.le_of_ble_eq_true rfl)
        · refine X_push (v := .int 1) rfl (by decide +kernel) ?_
          refine X_goto rfl ?_
          exact X_iret rfl rfl ⟨⟨hp1, 4, by omega, rfl⟩, (congrArg (fun D => cset B J bf K tk ts tl tv su D) (updR_self (w := w))).symm, by rw [ex]; show _ = some (Value.int (if s_st (D w) a 14 = -2 then 0 else if s_st (D w) a 16 = D w 3 then 1 else 2)); rw [if_neg c87, if_pos (bI_ne.mp c103).2]⟩ (Nat.le_of_ble_eq_true rfl) (Nat.le_of_ble_eq_true rfl)
      · refine X_push (v := .int 0) rfl (by decide +kernel) ?_
        refine X_goto rfl ?_
        exact X_iret rfl rfl ⟨⟨hp1, 4, by omega, rfl⟩, rfl, by rw [ex]; show _ = some (Value.int (if s_st (D w) a 14 = -2 then 0 else if s_st (D w) a 16 = D w 3 then 1 else 2)); rw [if_pos c87]⟩ (Nat.le_of_ble_eq_true rfl) (Nat.le_of_ble_eq_true rfl)
    · refine X_tabIn 112 rfl (by decide) (by decide) (off := 93) (by decide) (by decide) ?_
      refine X_ld rfl rfl rfl rfl ?_
      refine X_get f_X10_198 rfl (r_u hw10 (by omega) rfl) rfl ?_
      exact X_iret rfl rfl ⟨⟨hp1, 5, by omega, rfl⟩, rfl, by rw [ex]; rfl⟩ (Nat.le_of_ble_eq_true rfl) (Nat.le_of_ble_eq_true rfl)
  · refine X_tabOut 118 rfl (s_to8_not (n := 5) (by decide) hP) (by decide) ?_
    exact X_throwS lt_iae (hX (RX10, 118, "what is out of range") (List.mem_of_getElem? (i := 0) rfl)) rfl rfl rfl rfl rfl rfl (by show 2 + 3 < d + 7; omega) (Nat.le_of_ble_eq_true rfl) (Nat.le_of_ble_eq_true rfl) (Nat.le_of_ble_eq_true rfl) ⟨rfl, Or.inr ⟨hp1, hP, rfl⟩⟩

