/-! ===== the class: hole ===== -/
theorem m_hole {G : XE} (hG : x_Kn G) (hX : x_KX G) {B : XH} {J bf K tk ts : Nat → Int32} {tl : Int64} {tv : Nat → Int64} {su : Nat → Nat} {D : Nat → Nat → Int32} (d : Nat) (w : Nat) (hw : J 5 = nI w) (hw10 : w < 10) {e : Nat → Int32} (hst : st_at B e (su w)) (hwf : s_wf e) {x y : Int32} : x_M G mX10_hole (d + 7) 2 12 [.ref 64, .int x, .int y] (cset B J bf K tk ts tl tv su D) (x_QnV ((0 ≤ x ∧ x < nI (s_sm e)) ∧ (0 ≤ y ∧ y < 4)) (cset B J bf K tk ts tl tv su D) (.int (s_st e (n_ x) (17 + n_ y)))) (x_Qx2 (0 ≤ x ∧ x < nI (s_sm e)) (0 ≤ y ∧ y < 4) (cset B J bf K tk ts tl tv su D) "java/lang/IndexOutOfBoundsException" "java/lang/IllegalArgumentException") := by
  refine X_M hG okX10_hole rfl (L := [some (.ref 64), some (.int x), some (.int y)]) rfl (Nat.le_of_ble_eq_true rfl) (fun ad0 nb0 => ?_)
  have hsm6 := hwf.smE.2
  have hst9 := hst
  obtain ⟨hso, a1, a2, a3, pp, hsB, -, -, hl3, hP3⟩ := hst9
  obtain ⟨VL3, hN3⟩ := l_at_N (J := J) (bf := bf) (K := K) (tk := tk) (ts := ts) (tl := tl) (tv := tv) (su := su) (D := D) hl3
  refine X_ld rfl rfl rfl rfl ?_
  refine X_ld rfl rfl rfl rfl ?_
  refine X_vchk c_O l_X10_X10_checkStatement (m_checkStatement hG hX d w hw hw10 hst) rfl rfl rfl rfl (Nat.le_of_ble_eq_true rfl) (Nat.le_of_ble_eq_true rfl) (by omega) (Nat.le_of_ble_eq_true rfl) (Nat.le_of_ble_eq_true rfl) rfl (fun q => ⟨rfl, Or.inl ⟨q, rfl⟩⟩) (fun hp1 => ?_)
  refine X_ld rfl rfl rfl rfl ?_
  refine X_if_lt rfl (fun c6 => ?_) (fun c6 => ?_)
  · exact X_throwS lt_iae (hX (RX10, 162, "there are the holes 0 to 3") (List.mem_of_getElem? (i := 5) rfl)) rfl rfl rfl rfl rfl rfl (by show 2 + 3 < d + 7; omega) (Nat.le_of_ble_eq_true rfl) (Nat.le_of_ble_eq_true rfl) (Nat.le_of_ble_eq_true rfl) ⟨rfl, Or.inr ⟨hp1, fun z => absurd c6 (Int32.not_lt.mpr z.1), rfl⟩⟩
  · refine X_ld rfl rfl rfl rfl ?_
    refine X_push (v := .int 4) rfl (by decide +kernel) ?_
    refine X_icmp_lt rfl (fun c11 => ?_) (fun c11 => ?_)
    · obtain ⟨a, ha, hxa⟩ := m_rngl rfl (by omega) hp1
      obtain ⟨b, hb, hyb⟩ := m_rngl (show (4 : Int32) = nI 4 from rfl) (by omega) ⟨Int32.not_lt.mp c6, c11⟩
      have ex : n_ x = a := by unfold n_; rw [hxa]; exact nI_clamp (by omega)
      have ey : n_ y = b := by unfold n_; rw [hyb]; exact nI_clamp (by omega)
      obtain ⟨hpo, nm, co, ht, sg, hPB, -, ⟨hht, mu, h, hHB, hh⟩, -, -⟩ := hP3 a ha
      refine X_ld rfl rfl rfl rfl ?_
      refine X_vcall c_O l_X10_X10_current (m_current hG (d + 5) w hw hw10) rfl rfl rfl rfl (Nat.le_of_ble_eq_true rfl) (Nat.le_of_ble_eq_true rfl) (by omega) (Nat.le_of_ble_eq_true rfl) (Nat.le_of_ble_eq_true rfl) ?_
      refine X_get f_X10_75 rfl (r_D hw10 rfl) rfl ?_
      refine X_get f_X10_79 rfl (c_B hso hsB) rfl ?_
      refine X_ld rfl rfl rfl rfl ?_
      refine X_vcall (o := a3) hN3 l_X10_Jx4a65c_get_915e3 (j_get hG (d + 3) (l_at_li hl3) a ha hxa) rfl rfl rfl rfl (Nat.le_of_ble_eq_true rfl) (Nat.le_of_ble_eq_true rfl) (by omega) (Nat.le_of_ble_eq_true rfl) (Nat.le_of_ble_eq_true rfl) ?_
      refine X_castS cl_X10_168 rfl (c_B hpo hPB) rfl ?_
      refine X_get f_X10_170 rfl (c_B hpo hPB) rfl ?_
      refine X_ld rfl rfl rfl rfl ?_
      refine X_iald rfl (c_B hht hHB) (by rw [hyb]; exact vp_in_nI hb (by omega)) (v := .int (h b)) (by rw [hyb, nI_clamp (by omega)]) ?_
      exact X_iret rfl rfl ⟨⟨hp1, Int32.not_lt.mp c6, c11⟩, rfl, by rw [ex, ey, ← hh b hb]⟩ (Nat.le_of_ble_eq_true rfl) (Nat.le_of_ble_eq_true rfl)
    · exact X_throwS lt_iae (hX (RX10, 162, "there are the holes 0 to 3") (List.mem_of_getElem? (i := 5) rfl)) rfl rfl rfl rfl rfl rfl (by show 2 + 3 < d + 7; omega) (Nat.le_of_ble_eq_true rfl) (Nat.le_of_ble_eq_true rfl) (Nat.le_of_ble_eq_true rfl) ⟨rfl, Or.inr ⟨hp1, fun z => c11 z.2, rfl⟩⟩

