/-! ===== the class: kept, genericCost ===== -/
theorem m_kept {G : XE} (hG : x_Kn G) (hX : x_KX G) {B : XH} {J bf K tk ts : Nat → Int32} {tl : Int64} {tv : Nat → Int64} {su : Nat → Nat} {D : Nat → Nat → Int32} (d : Nat) (w : Nat) (hw : J 5 = nI w) (hw10 : w < 10) {e : Nat → Int32} (hst : st_at B e (su w)) (hwf : s_wf e) {x : Int32} : x_M G mX10_kept (d + 7) 1 6 [.ref 64, .int x] (cset B J bf K tk ts tl tv su D) (x_QnV (0 ≤ x ∧ x < nI (s_sm e)) (cset B J bf K tk ts tl tv su D) (.int (s_st (D w) (n_ x) 14))) (x_QxP (0 ≤ x ∧ x < nI (s_sm e)) (cset B J bf K tk ts tl tv su D) "java/lang/IndexOutOfBoundsException") := by
  refine X_M hG okX10_kept rfl (L := [some (.ref 64), some (.int x)]) rfl (Nat.le_of_ble_eq_true rfl) (fun ad0 nb0 => ?_)
  have hsm6 := hwf.smE.2
  refine X_ld rfl rfl rfl rfl ?_
  refine X_ld rfl rfl rfl rfl ?_
  refine X_vchk c_O l_X10_X10_checkStatement (m_checkStatement hG hX d w hw hw10 hst) rfl rfl rfl rfl (Nat.le_of_ble_eq_true rfl) (Nat.le_of_ble_eq_true rfl) (by omega) (Nat.le_of_ble_eq_true rfl) (Nat.le_of_ble_eq_true rfl) rfl (fun q => ⟨q, rfl, rfl⟩) (fun hp1 => ?_)
  obtain ⟨a, ha, hxa⟩ := m_rngl rfl (by omega) hp1
  have ex : n_ x = a := by unfold n_; rw [hxa]; exact nI_clamp (by omega)
  refine X_ld rfl rfl rfl rfl ?_
  refine X_vcall c_O l_X10_X10_current (m_current hG (d + 5) w hw hw10) rfl rfl rfl rfl (Nat.le_of_ble_eq_true rfl) (Nat.le_of_ble_eq_true rfl) (by omega) (Nat.le_of_ble_eq_true rfl) (Nat.le_of_ble_eq_true rfl) ?_
  refine X_get f_X10_173 rfl (r_D hw10 rfl) rfl ?_
  refine X_ld rfl rfl rfl rfl ?_
  refine X_uald hw10 rfl hxa (by omega) (k := a) rfl ?_
  refine X_get f_X10_191 rfl (r_u hw10 (by omega) rfl) rfl ?_
  exact X_iret rfl rfl ⟨hp1, rfl, by rw [ex]⟩ (Nat.le_of_ble_eq_true rfl) (Nat.le_of_ble_eq_true rfl)
theorem s_plan_of {x y : Int32} {m : Nat} (hm : y = nI m) (hb : m ≤ 5) (h : -1 ≤ x ∧ x < y) : x = -1 ∨ ∃ j, j < 5 ∧ x = nI j := by
  by_cases h1 : x = -1
  · exact Or.inl h1
  · have a1 : x.toInt ≠ -1 := fun q => h1 (Int32.toInt_inj.mp (q.trans (by decide)))
    have a2 := Int32.le_iff_toInt_le.mp h.1
    rw [show (-1 : Int32).toInt = -1 by decide] at a2
    have a3 : (0 : Int32) ≤ x := Int32.le_iff_toInt_le.mpr (by rw [show (0 : Int32).toInt = 0 by decide]; omega)
    obtain ⟨j, hj, hx⟩ := m_rngl hm (by omega) ⟨a3, h.2⟩
    exact Or.inr ⟨j, by omega, hx⟩
theorem m_genericCost {G : XE} (hG : x_Kn G) (hX : x_KX G) (hK : x_KS G) {B : XH} {J bf K tk ts : Nat → Int32} {tl : Int64} {tv : Nat → Int64} {su : Nat → Nat} {D : Nat → Nat → Int32} (d : Nat) (w : Nat) (hw : J 5 = nI w) (hw10 : w < 10) {gv : Nat → Int32} {e : Nat → Int32} (hst : st_at B e (su w)) (hwf : s_wf e) {x y : Int32} (hrel : s_rel e (D w)) (hns : v_at B (fun _ => -1) 1) : x_M G mX10_genericCost (d + 7) 2 12 [.ref 64, .int x, .int y] (cset B J bf K tk ts tl tv su D) (x_QnV ((0 ≤ x ∧ x < nI (s_sm e)) ∧ (-1 ≤ y ∧ y < e 0)) (cset B J bf K tk ts tl tv su D) (.int (s_cost e gv (n_ x) y false))) (x_Qx2 (0 ≤ x ∧ x < nI (s_sm e)) (-1 ≤ y ∧ y < e 0) (cset B J bf K tk ts tl tv su D) "java/lang/IndexOutOfBoundsException" "java/lang/IllegalArgumentException") := by
  refine X_M hG okX10_genericCost rfl (L := [some (.ref 64), some (.int x), some (.int y)]) rfl (Nat.le_of_ble_eq_true rfl) (fun ad0 nb0 => ?_)
  have hsm6 := hwf.smE.2
  have hcm5 := hwf.cmE.2
  refine X_ld rfl rfl rfl rfl ?_
  refine X_ld rfl rfl rfl rfl ?_
  refine X_vchk c_O l_X10_X10_checkStatement (m_checkStatement hG hX d w hw hw10 hst) rfl rfl rfl rfl (Nat.le_of_ble_eq_true rfl) (Nat.le_of_ble_eq_true rfl) (by omega) (Nat.le_of_ble_eq_true rfl) (Nat.le_of_ble_eq_true rfl) rfl (fun q => ⟨rfl, Or.inl ⟨q, rfl⟩⟩) (fun hp1 => ?_)
  refine X_ld rfl rfl rfl rfl ?_
  refine X_ld rfl rfl rfl rfl ?_
  refine X_vchk c_O l_X10_X10_checkPlan (m_checkPlan hG hX d w hw hw10 hst) rfl rfl rfl rfl (Nat.le_of_ble_eq_true rfl) (Nat.le_of_ble_eq_true rfl) (by omega) (Nat.le_of_ble_eq_true rfl) (Nat.le_of_ble_eq_true rfl) rfl (fun q => ⟨rfl, Or.inr ⟨hp1, q, rfl⟩⟩) (fun hp2 => ?_)
  obtain ⟨a, ha, hxa⟩ := m_rngl rfl (by omega) hp1
  have ex : n_ x = a := by unfold n_; rw [hxa]; exact nI_clamp (by omega)
  refine X_ld rfl rfl rfl rfl ?_
  refine X_vcall c_O l_X10_X10_current (m_current hG (d + 5) w hw hw10) rfl rfl rfl rfl (Nat.le_of_ble_eq_true rfl) (Nat.le_of_ble_eq_true rfl) (by omega) (Nat.le_of_ble_eq_true rfl) (Nat.le_of_ble_eq_true rfl) ?_
  refine X_ld rfl rfl rfl rfl ?_
  refine X_ld rfl rfl rfl rfl ?_
  refine X_gets (v := .ref 1) (x_in 1101 (by decide +kernel) rfl) hK.1.2.2.2 (show (1 : Nat) < 64 by decide) rfl ?_
  refine X_heap (congrArg (fun D => cset B J bf K tk ts tl tv su D) (updR_self (w := w))) ?_
  refine X_vcall (r_D hw10 updR_eq) l_X10_X3_costOf (d_costOf hG (d + 1) w hw10 (z := false) (gv := gv) hwf hst hrel hns g_none a ha hxa (s_plan_of hwf.cmE.1 hcm5 hp2)) rfl rfl rfl rfl (Nat.le_of_ble_eq_true rfl) (Nat.le_of_ble_eq_true rfl) (by omega) (Nat.le_of_ble_eq_true rfl) (Nat.le_of_ble_eq_true rfl) ?_
  exact X_iret rfl rfl ⟨⟨hp1, hp2⟩, (congrArg (fun D => cset B J bf K tk ts tl tv su D) (updR_self (w := w))).symm, by rw [ex]⟩ (Nat.le_of_ble_eq_true rfl) (Nat.le_of_ble_eq_true rfl)

