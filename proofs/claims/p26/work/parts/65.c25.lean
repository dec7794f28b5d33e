/-! ===== the class: checks of the current Data ===== -/
theorem m_checkColumn {G : XE} (hG : x_Kn G) (hX : x_KX G) {B : XH} {J bf K tk ts : Nat → Int32} {tl : Int64} {tv : Nat → Int64} {su : Nat → Nat} {D : Nat → Nat → Int32} (d : Nat) (w : Nat) (hw : J 5 = nI w) (hw10 : w < 10) {e : Nat → Int32} (hst : st_at B e (su w)) {x : Int32} : x_M G mX10_checkColumn (d + 6) 1 6 [.ref 64, .int x] (cset B J bf K tk ts tl tv su D) (x_QnP (0 ≤ x ∧ x < e 0) (cset B J bf K tk ts tl tv su D)) (x_QxP (0 ≤ x ∧ x < e 0) (cset B J bf K tk ts tl tv su D) "java/lang/IndexOutOfBoundsException") := by
  refine X_M hG okX10_checkColumn rfl (L := [some (.ref 64), some (.int x)]) rfl (Nat.le_of_ble_eq_true rfl) (fun ad0 nb0 => ?_)
  obtain ⟨hso, a1, a2, a3, pp, hsB, -, -, hl3, -⟩ := hst
  refine X_ld rfl rfl rfl rfl ?_
  refine X_if_lt rfl (fun c1 => ?_) (fun c1 => ?_)
  · exact X_throwSW lt_iob (hX (RX10, 306, "there is no such column") (List.mem_of_getElem? (i := 2) rfl)) rfl rfl rfl rfl rfl rfl (by show 2 + 3 < d + 6; omega) (Nat.le_of_ble_eq_true rfl) (Nat.le_of_ble_eq_true rfl) (Nat.le_of_ble_eq_true rfl) ⟨fun q => absurd c1 (Int32.not_lt.mpr q.1), rfl, rfl⟩
  · refine X_ld rfl rfl rfl rfl ?_
    refine X_ld rfl rfl rfl rfl ?_
    refine X_vcall c_O l_X10_X10_current (m_current hG (d + 5) w hw hw10) rfl rfl rfl rfl (Nat.le_of_ble_eq_true rfl) (Nat.le_of_ble_eq_true rfl) (by omega) (Nat.le_of_ble_eq_true rfl) (Nat.le_of_ble_eq_true rfl) ?_
    refine X_get f_X10_75 rfl (r_D hw10 rfl) rfl ?_
    refine X_get f_X10_88 rfl (c_B hso hsB) rfl ?_
    refine X_icmp_lt rfl (fun c9 => ?_) (fun c9 => ?_)
    · exact X_vret rfl rfl ⟨⟨Int32.not_lt.mp c1, c9⟩, rfl, rfl⟩ (Nat.le_of_ble_eq_true rfl) (Nat.le_of_ble_eq_true rfl)
    · exact X_throwSW lt_iob (hX (RX10, 306, "there is no such column") (List.mem_of_getElem? (i := 2) rfl)) rfl rfl rfl rfl rfl rfl (by show 2 + 3 < d + 6; omega) (Nat.le_of_ble_eq_true rfl) (Nat.le_of_ble_eq_true rfl) (Nat.le_of_ble_eq_true rfl) ⟨fun q => c9 q.2, rfl, rfl⟩
theorem m_checkRow {G : XE} (hG : x_Kn G) (hX : x_KX G) {B : XH} {J bf K tk ts : Nat → Int32} {tl : Int64} {tv : Nat → Int64} {su : Nat → Nat} {D : Nat → Nat → Int32} (d : Nat) (w : Nat) (hw : J 5 = nI w) (hw10 : w < 10) {x : Int32} : x_M G mX10_checkRow (d + 6) 1 6 [.ref 64, .int x] (cset B J bf K tk ts tl tv su D) (x_QnP (0 ≤ x ∧ x < D w 1) (cset B J bf K tk ts tl tv su D)) (x_QxP (0 ≤ x ∧ x < D w 1) (cset B J bf K tk ts tl tv su D) "java/lang/IndexOutOfBoundsException") := by
  refine X_M hG okX10_checkRow rfl (L := [some (.ref 64), some (.int x)]) rfl (Nat.le_of_ble_eq_true rfl) (fun ad0 nb0 => ?_)
  refine X_ld rfl rfl rfl rfl ?_
  refine X_if_lt rfl (fun c1 => ?_) (fun c1 => ?_)
  · exact X_throwSW lt_iob (hX (RX10, 309, "there is no such row") (List.mem_of_getElem? (i := 3) rfl)) rfl rfl rfl rfl rfl rfl (by show 2 + 3 < d + 6; omega) (Nat.le_of_ble_eq_true rfl) (Nat.le_of_ble_eq_true rfl) (Nat.le_of_ble_eq_true rfl) ⟨fun q => absurd c1 (Int32.not_lt.mpr q.1), rfl, rfl⟩
  · refine X_ld rfl rfl rfl rfl ?_
    refine X_ld rfl rfl rfl rfl ?_
    refine X_vcall c_O l_X10_X10_current (m_current hG (d + 5) w hw hw10) rfl rfl rfl rfl (Nat.le_of_ble_eq_true rfl) (Nat.le_of_ble_eq_true rfl) (by omega) (Nat.le_of_ble_eq_true rfl) (Nat.le_of_ble_eq_true rfl) ?_
    refine X_get f_X10_91 rfl (r_D hw10 rfl) rfl ?_
    refine X_icmp_lt rfl (fun c9 => ?_) (fun c9 => ?_)
    · exact X_vret rfl rfl ⟨⟨Int32.not_lt.mp c1, c9⟩, rfl, rfl⟩ (Nat.le_of_ble_eq_true rfl) (Nat.le_of_ble_eq_true rfl)
    · exact X_throwSW lt_iob (hX (RX10, 309, "there is no such row") (List.mem_of_getElem? (i := 3) rfl)) rfl rfl rfl rfl rfl rfl (by show 2 + 3 < d + 6; omega) (Nat.le_of_ble_eq_true rfl) (Nat.le_of_ble_eq_true rfl) (Nat.le_of_ble_eq_true rfl) ⟨fun q => c9 q.2, rfl, rfl⟩
theorem m_checkStatement {G : XE} (hG : x_Kn G) (hX : x_KX G) {B : XH} {J bf K tk ts : Nat → Int32} {tl : Int64} {tv : Nat → Int64} {su : Nat → Nat} {D : Nat → Nat → Int32} (d : Nat) (w : Nat) (hw : J 5 = nI w) (hw10 : w < 10) {e : Nat → Int32} (hst : st_at B e (su w)) {x : Int32} : x_M G mX10_checkStatement (d + 6) 1 6 [.ref 64, .int x] (cset B J bf K tk ts tl tv su D) (x_QnP (0 ≤ x ∧ x < nI (s_sm e)) (cset B J bf K tk ts tl tv su D)) (x_QxP (0 ≤ x ∧ x < nI (s_sm e)) (cset B J bf K tk ts tl tv su D) "java/lang/IndexOutOfBoundsException") := by
  refine X_M hG okX10_checkStatement rfl (L := [some (.ref 64), some (.int x)]) rfl (Nat.le_of_ble_eq_true rfl) (fun ad0 nb0 => ?_)
  obtain ⟨hso, a1, a2, a3, pp, hsB, -, -, hl3, -⟩ := hst
  obtain ⟨VL3, hN3⟩ := l_at_N (J := J) (bf := bf) (K := K) (tk := tk) (ts := ts) (tl := tl) (tv := tv) (su := su) (D := D) hl3
  refine X_ld rfl rfl rfl rfl ?_
  refine X_if_lt rfl (fun c1 => ?_) (fun c1 => ?_)
  · exact X_throwSW lt_iob (hX (RX10, 311, "there is no such statement") (List.mem_of_getElem? (i := 4) rfl)) rfl rfl rfl rfl rfl rfl (by show 2 + 3 < d + 6; omega) (Nat.le_of_ble_eq_true rfl) (Nat.le_of_ble_eq_true rfl) (Nat.le_of_ble_eq_true rfl) ⟨fun q => absurd c1 (Int32.not_lt.mpr q.1), rfl, rfl⟩
  · refine X_ld rfl rfl rfl rfl ?_
    refine X_ld rfl rfl rfl rfl ?_
    refine X_vcall c_O l_X10_X10_current (m_current hG (d + 5) w hw hw10) rfl rfl rfl rfl (Nat.le_of_ble_eq_true rfl) (Nat.le_of_ble_eq_true rfl) (by omega) (Nat.le_of_ble_eq_true rfl) (Nat.le_of_ble_eq_true rfl) ?_
    refine X_get f_X10_75 rfl (r_D hw10 rfl) rfl ?_
    refine X_get f_X10_79 rfl (c_B hso hsB) rfl ?_
    refine X_vcall (o := a3) hN3 l_X10_Jx4a65c_size_8abf5 (j_size hG (d + 5) (l_at_li hl3)) rfl rfl rfl rfl (Nat.le_of_ble_eq_true rfl) (Nat.le_of_ble_eq_true rfl) (by omega) (Nat.le_of_ble_eq_true rfl) (Nat.le_of_ble_eq_true rfl) ?_
    refine X_icmp_lt rfl (fun c9 => ?_) (fun c9 => ?_)
    · exact X_vret rfl rfl ⟨⟨Int32.not_lt.mp c1, c9⟩, rfl, rfl⟩ (Nat.le_of_ble_eq_true rfl) (Nat.le_of_ble_eq_true rfl)
    · exact X_throwSW lt_iob (hX (RX10, 311, "there is no such statement") (List.mem_of_getElem? (i := 4) rfl)) rfl rfl rfl rfl rfl rfl (by show 2 + 3 < d + 6; omega) (Nat.le_of_ble_eq_true rfl) (Nat.le_of_ble_eq_true rfl) (Nat.le_of_ble_eq_true rfl) ⟨fun q => c9 q.2, rfl, rfl⟩
theorem m_checkPlan {G : XE} (hG : x_Kn G) (hX : x_KX G) {B : XH} {J bf K tk ts : Nat → Int32} {tl : Int64} {tv : Nat → Int64} {su : Nat → Nat} {D : Nat → Nat → Int32} (d : Nat) (w : Nat) (hw : J 5 = nI w) (hw10 : w < 10) {e : Nat → Int32} (hst : st_at B e (su w)) {x : Int32} : x_M G mX10_checkPlan (d + 6) 1 6 [.ref 64, .int x] (cset B J bf K tk ts tl tv su D) (x_QnP (-1 ≤ x ∧ x < e 0) (cset B J bf K tk ts tl tv su D)) (x_QxP (-1 ≤ x ∧ x < e 0) (cset B J bf K tk ts tl tv su D) "java/lang/IllegalArgumentException") := by
  refine X_M hG okX10_checkPlan rfl (L := [some (.ref 64), some (.int x)]) rfl (Nat.le_of_ble_eq_true rfl) (fun ad0 nb0 => ?_)
  obtain ⟨hso, a1, a2, a3, pp, hsB, -, -, hl3, -⟩ := hst
  refine X_ld rfl rfl rfl rfl ?_
  refine X_push (v := .int (-1)) rfl (by decide +kernel) ?_
  refine X_icmp_lt rfl (fun c1 => ?_) (fun c1 => ?_)
  · exact X_throwSW lt_iae (hX (RX10, 313, "there is no such plan") (List.mem_of_getElem? (i := 6) rfl)) rfl rfl rfl rfl rfl rfl (by show 2 + 3 < d + 6; omega) (Nat.le_of_ble_eq_true rfl) (Nat.le_of_ble_eq_true rfl) (Nat.le_of_ble_eq_true rfl) ⟨fun q => absurd c1 (Int32.not_lt.mpr q.1), rfl, rfl⟩
  · refine X_ld rfl rfl rfl rfl ?_
    refine X_ld rfl rfl rfl rfl ?_
    refine X_vcall c_O l_X10_X10_current (m_current hG (d + 5) w hw hw10) rfl rfl rfl rfl (Nat.le_of_ble_eq_true rfl) (Nat.le_of_ble_eq_true rfl) (by omega) (Nat.le_of_ble_eq_true rfl) (Nat.le_of_ble_eq_true rfl) ?_
    refine X_get f_X10_75 rfl (r_D hw10 rfl) rfl ?_
    refine X_get f_X10_88 rfl (c_B hso hsB) rfl ?_
    refine X_icmp_lt rfl (fun c9 => ?_) (fun c9 => ?_)
    · exact X_vret rfl rfl ⟨⟨Int32.not_lt.mp c1, c9⟩, rfl, rfl⟩ (Nat.le_of_ble_eq_true rfl) (Nat.le_of_ble_eq_true rfl)
    · exact X_throwSW lt_iae (hX (RX10, 313, "there is no such plan") (List.mem_of_getElem? (i := 6) rfl)) rfl rfl rfl rfl rfl rfl (by show 2 + 3 < d + 6; omega) (Nat.le_of_ble_eq_true rfl) (Nat.le_of_ble_eq_true rfl) (Nat.le_of_ble_eq_true rfl) ⟨fun q => c9 q.2, rfl, rfl⟩

