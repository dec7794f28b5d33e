/-! ===== the law's wrappers, by program (wip/whole/gen_c97.py) ===== -/
theorem W_count {G : XE} (hG : x_Kn G) (hX : x_KX G) (hN : x_KN G) {B : XH} {n : Nat} {xs : Nat → Int32} (hB : L_B B n xs) {ov : Int64} {I : Nat → Int32} {T : Int64} {S : Nat → Nat → Int32} {rd tx gv : Nat → Int32} {P : Nat → Bool} {J bf K tk ts : Nat → Int32} {tl : Int64} {tv : Nat → Int64} {su : Nat → Nat} {D : Nat → Nat → Int32} (w : Nat) (hw : J 5 = nI w) (hw10 : w < 10) {t : Nat} {e : Nat → Int32} (hlv : L_lv B t e (D w) (su w)) {x : Int32} : x_M G mL_count 60 1 6 [.ref 64, .int x, .ref 281] (cset (L_X B ov I T S rd tx gv P) J bf K tk ts tl tv su D) (L_QW (fun o N => N = cset (L_X B o I T S rd tx gv P) J bf K tk ts tl tv su D) (a_count e x)) x_noX := by
  refine X_MH hG okL_count rfl (L := [some (.ref 64), some (.int x), some (.ref 281), none]) rfl (Nat.le_of_ble_eq_true rfl) (fun ad0 nb0 => ?_)
  have hX0 := L_X0 (ov := ov) (I := I) (T := T) (S := S) (rd := rd) (tx := tx) (gv := gv) (P := P) hB
  have hst := y_le.st (L_le (ov := ov) (I := I) (T := T) (S := S) (rd := rd) (tx := tx) (gv := gv) (P := P) hB.2.2.1) hlv.2.2.1
  have hwf := hlv.1.1
  have hrel := hlv.2.1
  refine X_ld rfl rfl rfl rfl ?_
  refine X_push (v := .int 0) rfl (by decide +kernel) ?_
  refine X_ld rfl rfl rfl rfl ?_
  refine X_ld rfl rfl rfl rfl ?_
  refine X_callV (T := TX10) (nf := 7) l_L_X10_count (m_count hG hX 50 w hw hw10 hst) rfl rfl c_O rfl rfl (Nat.le_of_ble_eq_true rfl) (x_fit_of (Nat.le_of_ble_eq_true rfl) (by omega) (Nat.le_of_ble_eq_true rfl) (Nat.le_of_ble_eq_true rfl)) (fun N9 E h => ?_) (fun N9 r h => ?_)
  · obtain ⟨hp, rfl, rfl⟩ := h
    refine X_catch (name := "java/lang/IllegalArgumentException") (pre := []) (a := (0, 9, 12, 13)) (suf := []) (y_none0 hX0.1) rfl (fun z hz => nomatch hz) rfl (by decide) (x_in 641 (by decide +kernel) rfl) (List.mem_of_getElem? (i := 490) (by decide +kernel)) (fun q0 => ?_)
    refine X_st rfl rfl rfl ?_
    refine X_push (v := .int 1) rfl (by decide +kernel) ?_
    exact X_iret rfl rfl ⟨ov, rfl, by rw [ga_count2 hp], fun q => absurd q (by rw [ga_count2 hp]; decide)⟩ (Nat.le_of_ble_eq_true rfl) (Nat.le_of_ble_eq_true rfl)
  · obtain ⟨hp, rfl, rfl⟩ := h
    refine X_un rfl rfl ?_
    refine X_lout rfl ?_
    refine X_goto rfl ?_
    refine X_push (v := .int 0) rfl (by decide +kernel) ?_
    exact X_iret rfl rfl ⟨_, rfl, by rw [ga_count1 hwf hrel hp], fun _ => by rw [ga_count1 hwf hrel hp]⟩ (Nat.le_of_ble_eq_true rfl) (Nat.le_of_ble_eq_true rfl)
theorem W_column {G : XE} (hG : x_Kn G) (hX : x_KX G) (hN : x_KN G) {B : XH} {n : Nat} {xs : Nat → Int32} (hB : L_B B n xs) {ov : Int64} {I : Nat → Int32} {T : Int64} {S : Nat → Nat → Int32} {rd tx gv : Nat → Int32} {P : Nat → Bool} {J bf K tk ts : Nat → Int32} {tl : Int64} {tv : Nat → Int64} {su : Nat → Nat} {D : Nat → Nat → Int32} (w : Nat) (hw : J 5 = nI w) (hw10 : w < 10) {t : Nat} {e : Nat → Int32} (hlv : L_lv B t e (D w) (su w)) {x y : Int32} : x_M G mL_column 60 2 12 [.ref 64, .int x, .int y, .ref 281] (cset (L_X B ov I T S rd tx gv P) J bf K tk ts tl tv su D) (L_QW (fun o N => N = cset (L_X B o I T S rd tx gv P) J bf K tk ts tl tv su D) (a_column e x y)) x_noX := by
  refine X_MH hG okL_column rfl (L := [some (.ref 64), some (.int x), some (.int y), some (.ref 281), none]) rfl (Nat.le_of_ble_eq_true rfl) (fun ad0 nb0 => ?_)
  have hX0 := L_X0 (ov := ov) (I := I) (T := T) (S := S) (rd := rd) (tx := tx) (gv := gv) (P := P) hB
  have hst := y_le.st (L_le (ov := ov) (I := I) (T := T) (S := S) (rd := rd) (tx := tx) (gv := gv) (P := P) hB.2.2.1) hlv.2.2.1
  have hwf := hlv.1.1
  have hrel := hlv.2.1
  refine X_ld rfl rfl rfl rfl ?_
  refine X_push (v := .int 0) rfl (by decide +kernel) ?_
  refine X_ld rfl rfl rfl rfl ?_
  refine X_ld rfl rfl rfl rfl ?_
  refine X_ld rfl rfl rfl rfl ?_
  refine X_callV (T := TX10) (nf := 7) l_L_X10_column (m_column hG hX 50 w hw hw10 hst hwf) rfl rfl c_O rfl rfl (Nat.le_of_ble_eq_true rfl) (x_fit_of (Nat.le_of_ble_eq_true rfl) (by omega) (Nat.le_of_ble_eq_true rfl) (Nat.le_of_ble_eq_true rfl)) (fun N9 E h => ?_) (fun N9 r h => ?_)
  · obtain ⟨rfl, h⟩ := h
    rcases h with ⟨h1, rfl⟩ | ⟨h1, h2, rfl⟩
    · refine X_catch (name := "java/lang/IndexOutOfBoundsException") (pre := []) (a := (0, 10, 13, 22)) (suf := [(0, 10, 17, 13)]) (y_none0 hX0.1) rfl (fun z hz => nomatch hz) rfl (by decide) (x_in 1036 (by decide +kernel) rfl) (List.mem_of_getElem? (i := 565) (by decide +kernel)) (fun q0 => ?_)
      refine X_st rfl rfl rfl ?_
      refine X_push (v := .int 1) rfl (by decide +kernel) ?_
      exact X_iret rfl rfl ⟨ov, rfl, by rw [ga_column2 hwf h1], fun q => absurd q (by rw [ga_column2 hwf h1]; decide)⟩ (Nat.le_of_ble_eq_true rfl) (Nat.le_of_ble_eq_true rfl)
    · refine X_catch (name := "java/lang/IllegalArgumentException") (pre := [(0, 10, 13, 22)]) (a := (0, 10, 17, 13)) (suf := []) (y_none0 hX0.1) rfl (fun z hz => by rw [List.mem_singleton.mp hz]; exact ⟨by decide, "java/lang/IndexOutOfBoundsException", x_in 1036 (by decide +kernel) rfl, hN.1⟩) rfl (by decide) (x_in 641 (by decide +kernel) rfl) (List.mem_of_getElem? (i := 490) (by decide +kernel)) (fun q0 => ?_)
      refine X_st rfl rfl rfl ?_
      refine X_push (v := .int 2) rfl (by decide +kernel) ?_
      exact X_iret rfl rfl ⟨ov, rfl, by rw [ga_column3 hwf h1 h2], fun q => absurd q (by rw [ga_column3 hwf h1 h2]; decide)⟩ (Nat.le_of_ble_eq_true rfl) (Nat.le_of_ble_eq_true rfl)
  · obtain ⟨hp, rfl, rfl⟩ := h
    refine X_un rfl rfl ?_
    refine X_lout rfl ?_
    refine X_goto rfl ?_
    refine X_push (v := .int 0) rfl (by decide +kernel) ?_
    exact X_iret rfl rfl ⟨_, rfl, by rw [ga_column1 hwf hrel hp.1 hp.2], fun _ => by rw [ga_column1 hwf hrel hp.1 hp.2]⟩ (Nat.le_of_ble_eq_true rfl) (Nat.le_of_ble_eq_true rfl)
theorem W_value {G : XE} (hG : x_Kn G) (hX : x_KX G) (hN : x_KN G) {B : XH} {n : Nat} {xs : Nat → Int32} (hB : L_B B n xs) {ov : Int64} {I : Nat → Int32} {T : Int64} {S : Nat → Nat → Int32} {rd tx gv : Nat → Int32} {P : Nat → Bool} {J bf K tk ts : Nat → Int32} {tl : Int64} {tv : Nat → Int64} {su : Nat → Nat} {D : Nat → Nat → Int32} (w : Nat) (hw : J 5 = nI w) (hw10 : w < 10) {t : Nat} {e : Nat → Int32} (hlv : L_lv B t e (D w) (su w)) {x y : Int32} : x_M G mL_value 60 2 12 [.ref 64, .int x, .int y, .ref 281] (cset (L_X B ov I T S rd tx gv P) J bf K tk ts tl tv su D) (L_QW (fun o N => N = cset (L_X B o I T S rd tx gv P) J bf K tk ts tl tv su D) (a_value e x y)) x_noX := by
  refine X_MH hG okL_value rfl (L := [some (.ref 64), some (.int x), some (.int y), some (.ref 281), none]) rfl (Nat.le_of_ble_eq_true rfl) (fun ad0 nb0 => ?_)
  have hX0 := L_X0 (ov := ov) (I := I) (T := T) (S := S) (rd := rd) (tx := tx) (gv := gv) (P := P) hB
  have hst := y_le.st (L_le (ov := ov) (I := I) (T := T) (S := S) (rd := rd) (tx := tx) (gv := gv) (P := P) hB.2.2.1) hlv.2.2.1
  have hwf := hlv.1.1
  have hrel := hlv.2.1
  refine X_ld rfl rfl rfl rfl ?_
  refine X_push (v := .int 0) rfl (by decide +kernel) ?_
  refine X_ld rfl rfl rfl rfl ?_
  refine X_ld rfl rfl rfl rfl ?_
  refine X_ld rfl rfl rfl rfl ?_
  refine X_callV (T := TX10) (nf := 7) l_L_X10_value (m_value hG hX 50 w hw hw10 hst hwf hrel) rfl rfl c_O rfl rfl (Nat.le_of_ble_eq_true rfl) (x_fit_of (Nat.le_of_ble_eq_true rfl) (by omega) (Nat.le_of_ble_eq_true rfl) (Nat.le_of_ble_eq_true rfl)) (fun N9 E h => ?_) (fun N9 r h => ?_)
  · obtain ⟨hp, rfl, rfl⟩ := h
    refine X_catch (name := "java/lang/IndexOutOfBoundsException") (pre := []) (a := (0, 10, 13, 22)) (suf := []) (y_none0 hX0.1) rfl (fun z hz => nomatch hz) rfl (by decide) (x_in 1036 (by decide +kernel) rfl) (List.mem_of_getElem? (i := 565) (by decide +kernel)) (fun q0 => ?_)
    refine X_st rfl rfl rfl ?_
    refine X_push (v := .int 1) rfl (by decide +kernel) ?_
    exact X_iret rfl rfl ⟨ov, rfl, by rw [ga_value2 hwf hrel hp], fun q => absurd q (by rw [ga_value2 hwf hrel hp]; decide)⟩ (Nat.le_of_ble_eq_true rfl) (Nat.le_of_ble_eq_true rfl)
  · obtain ⟨hp, rfl, rfl⟩ := h
    refine X_un rfl rfl ?_
    refine X_lout rfl ?_
    refine X_goto rfl ?_
    refine X_push (v := .int 0) rfl (by decide +kernel) ?_
    exact X_iret rfl rfl ⟨_, rfl, by rw [ga_value1 hwf hrel hp.1 hp.2], fun _ => by rw [ga_value1 hwf hrel hp.1 hp.2]⟩ (Nat.le_of_ble_eq_true rfl) (Nat.le_of_ble_eq_true rfl)
theorem W_hole {G : XE} (hG : x_Kn G) (hX : x_KX G) (hN : x_KN G) {B : XH} {n : Nat} {xs : Nat → Int32} (hB : L_B B n xs) {ov : Int64} {I : Nat → Int32} {T : Int64} {S : Nat → Nat → Int32} {rd tx gv : Nat → Int32} {P : Nat → Bool} {J bf K tk ts : Nat → Int32} {tl : Int64} {tv : Nat → Int64} {su : Nat → Nat} {D : Nat → Nat → Int32} (w : Nat) (hw : J 5 = nI w) (hw10 : w < 10) {t : Nat} {e : Nat → Int32} (hlv : L_lv B t e (D w) (su w)) {x y : Int32} : x_M G mL_hole 60 2 12 [.ref 64, .int x, .int y, .ref 281] (cset (L_X B ov I T S rd tx gv P) J bf K tk ts tl tv su D) (L_QW (fun o N => N = cset (L_X B o I T S rd tx gv P) J bf K tk ts tl tv su D) (a_hole e x y)) x_noX := by
  refine X_MH hG okL_hole rfl (L := [some (.ref 64), some (.int x), some (.int y), some (.ref 281), none]) rfl (Nat.le_of_ble_eq_true rfl) (fun ad0 nb0 => ?_)
  have hX0 := L_X0 (ov := ov) (I := I) (T := T) (S := S) (rd := rd) (tx := tx) (gv := gv) (P := P) hB
  have hst := y_le.st (L_le (ov := ov) (I := I) (T := T) (S := S) (rd := rd) (tx := tx) (gv := gv) (P := P) hB.2.2.1) hlv.2.2.1
  have hwf := hlv.1.1
  have hrel := hlv.2.1
  refine X_ld rfl rfl rfl rfl ?_
  refine X_push (v := .int 0) rfl (by decide +kernel) ?_
  refine X_ld rfl rfl rfl rfl ?_
  refine X_ld rfl rfl rfl rfl ?_
  refine X_ld rfl rfl rfl rfl ?_
  refine X_callV (T := TX10) (nf := 7) l_L_X10_hole (m_hole hG hX 50 w hw hw10 hst hwf) rfl rfl c_O rfl rfl (Nat.le_of_ble_eq_true rfl) (x_fit_of (Nat.le_of_ble_eq_true rfl) (by omega) (Nat.le_of_ble_eq_true rfl) (Nat.le_of_ble_eq_true rfl)) (fun N9 E h => ?_) (fun N9 r h => ?_)
  · obtain ⟨rfl, h⟩ := h
    rcases h with ⟨h1, rfl⟩ | ⟨h1, h2, rfl⟩
    · refine X_catch (name := "java/lang/IndexOutOfBoundsException") (pre := []) (a := (0, 10, 13, 22)) (suf := [(0, 10, 17, 13)]) (y_none0 hX0.1) rfl (fun z hz => nomatch hz) rfl (by decide) (x_in 1036 (by decide +kernel) rfl) (List.mem_of_getElem? (i := 565) (by decide +kernel)) (fun q0 => ?_)
      refine X_st rfl rfl rfl ?_
      refine X_push (v := .int 1) rfl (by decide +kernel) ?_
      exact X_iret rfl rfl ⟨ov, rfl, by rw [ga_hole2 hwf h1], fun q => absurd q (by rw [ga_hole2 hwf h1]; decide)⟩ (Nat.le_of_ble_eq_true rfl) (Nat.le_of_ble_eq_true rfl)
    · refine X_catch (name := "java/lang/IllegalArgumentException") (pre := [(0, 10, 13, 22)]) (a := (0, 10, 17, 13)) (suf := []) (y_none0 hX0.1) rfl (fun z hz => by rw [List.mem_singleton.mp hz]; exact ⟨by decide, "java/lang/IndexOutOfBoundsException", x_in 1036 (by decide +kernel) rfl, hN.1⟩) rfl (by decide) (x_in 641 (by decide +kernel) rfl) (List.mem_of_getElem? (i := 490) (by decide +kernel)) (fun q0 => ?_)
      refine X_st rfl rfl rfl ?_
      refine X_push (v := .int 2) rfl (by decide +kernel) ?_
      exact X_iret rfl rfl ⟨ov, rfl, by rw [ga_hole3 hwf h1 h2], fun q => absurd q (by rw [ga_hole3 hwf h1 h2]; decide)⟩ (Nat.le_of_ble_eq_true rfl) (Nat.le_of_ble_eq_true rfl)
  · obtain ⟨hp, rfl, rfl⟩ := h
    refine X_un rfl rfl ?_
    refine X_lout rfl ?_
    refine X_goto rfl ?_
    refine X_push (v := .int 0) rfl (by decide +kernel) ?_
    exact X_iret rfl rfl ⟨_, rfl, by rw [ga_hole1 hwf hp.1 hp.2], fun _ => by rw [ga_hole1 hwf hp.1 hp.2]⟩ (Nat.le_of_ble_eq_true rfl) (Nat.le_of_ble_eq_true rfl)
theorem W_statement {G : XE} (hG : x_Kn G) (hX : x_KX G) (hN : x_KN G) {B : XH} {n : Nat} {xs : Nat → Int32} (hB : L_B B n xs) {ov : Int64} {I : Nat → Int32} {T : Int64} {S : Nat → Nat → Int32} {rd tx gv : Nat → Int32} {P : Nat → Bool} {J bf K tk ts : Nat → Int32} {tl : Int64} {tv : Nat → Int64} {su : Nat → Nat} {D : Nat → Nat → Int32} (w : Nat) (hw : J 5 = nI w) (hw10 : w < 10) {t : Nat} {e : Nat → Int32} (hlv : L_lv B t e (D w) (su w)) {x y : Int32} : x_M G mL_statement 60 2 12 [.ref 64, .int x, .int y, .ref 281] (cset (L_X B ov I T S rd tx gv P) J bf K tk ts tl tv su D) (L_QW (fun o N => N = cset (L_X B o I T S rd tx gv P) J bf K tk ts tl tv su D) (a_statement e x y)) x_noX := by
  refine X_MH hG okL_statement rfl (L := [some (.ref 64), some (.int x), some (.int y), some (.ref 281), none]) rfl (Nat.le_of_ble_eq_true rfl) (fun ad0 nb0 => ?_)
  have hX0 := L_X0 (ov := ov) (I := I) (T := T) (S := S) (rd := rd) (tx := tx) (gv := gv) (P := P) hB
  have hst := y_le.st (L_le (ov := ov) (I := I) (T := T) (S := S) (rd := rd) (tx := tx) (gv := gv) (P := P) hB.2.2.1) hlv.2.2.1
  have hwf := hlv.1.1
  have hrel := hlv.2.1
  refine X_ld rfl rfl rfl rfl ?_
  refine X_push (v := .int 0) rfl (by decide +kernel) ?_
  refine X_ld rfl rfl rfl rfl ?_
  refine X_ld rfl rfl rfl rfl ?_
  refine X_ld rfl rfl rfl rfl ?_
  refine X_callV (T := TX10) (nf := 7) l_L_X10_statement (m_statement hG hX 50 w hw hw10 hst hwf) rfl rfl c_O rfl rfl (Nat.le_of_ble_eq_true rfl) (x_fit_of (Nat.le_of_ble_eq_true rfl) (by omega) (Nat.le_of_ble_eq_true rfl) (Nat.le_of_ble_eq_true rfl)) (fun N9 E h => ?_) (fun N9 r h => ?_)
  · obtain ⟨rfl, h⟩ := h
    rcases h with ⟨h1, rfl⟩ | ⟨h1, h2, rfl⟩
    · refine X_catch (name := "java/lang/IndexOutOfBoundsException") (pre := []) (a := (0, 10, 13, 22)) (suf := [(0, 10, 17, 13)]) (y_none0 hX0.1) rfl (fun z hz => nomatch hz) rfl (by decide) (x_in 1036 (by decide +kernel) rfl) (List.mem_of_getElem? (i := 565) (by decide +kernel)) (fun q0 => ?_)
      refine X_st rfl rfl rfl ?_
      refine X_push (v := .int 1) rfl (by decide +kernel) ?_
      exact X_iret rfl rfl ⟨ov, rfl, by rw [ga_statement2 hwf h1], fun q => absurd q (by rw [ga_statement2 hwf h1]; decide)⟩ (Nat.le_of_ble_eq_true rfl) (Nat.le_of_ble_eq_true rfl)
    · refine X_catch (name := "java/lang/IllegalArgumentException") (pre := [(0, 10, 13, 22)]) (a := (0, 10, 17, 13)) (suf := []) (y_none0 hX0.1) rfl (fun z hz => by rw [List.mem_singleton.mp hz]; exact ⟨by decide, "java/lang/IndexOutOfBoundsException", x_in 1036 (by decide +kernel) rfl, hN.1⟩) rfl (by decide) (x_in 641 (by decide +kernel) rfl) (List.mem_of_getElem? (i := 490) (by decide +kernel)) (fun q0 => ?_)
      refine X_st rfl rfl rfl ?_
      refine X_push (v := .int 2) rfl (by decide +kernel) ?_
      exact X_iret rfl rfl ⟨ov, rfl, by rw [ga_statement3 hwf h1 h2], fun q => absurd q (by rw [ga_statement3 hwf h1 h2]; decide)⟩ (Nat.le_of_ble_eq_true rfl) (Nat.le_of_ble_eq_true rfl)
  · obtain ⟨hp, rfl, rfl⟩ := h
    refine X_un rfl rfl ?_
    refine X_lout rfl ?_
    refine X_goto rfl ?_
    refine X_push (v := .int 0) rfl (by decide +kernel) ?_
    exact X_iret rfl rfl ⟨_, rfl, by rw [ga_statement1 hwf hrel hp.1 hp.2], fun _ => by rw [ga_statement1 hwf hrel hp.1 hp.2]⟩ (Nat.le_of_ble_eq_true rfl) (Nat.le_of_ble_eq_true rfl)
theorem W_learned {G : XE} (hG : x_Kn G) (hX : x_KX G) (hN : x_KN G) {B : XH} {n : Nat} {xs : Nat → Int32} (hB : L_B B n xs) {ov : Int64} {I : Nat → Int32} {T : Int64} {S : Nat → Nat → Int32} {rd tx gv : Nat → Int32} {P : Nat → Bool} {J bf K tk ts : Nat → Int32} {tl : Int64} {tv : Nat → Int64} {su : Nat → Nat} {D : Nat → Nat → Int32} (w : Nat) (hw : J 5 = nI w) (hw10 : w < 10) {t : Nat} {e : Nat → Int32} (hlv : L_lv B t e (D w) (su w)) {x y : Int32} : x_M G mL_learned 60 2 12 [.ref 64, .int x, .int y, .ref 281] (cset (L_X B ov I T S rd tx gv P) J bf K tk ts tl tv su D) (L_QW (fun o N => N = cset (L_X B o I T S rd tx gv P) J bf K tk ts tl tv su D) (a_learned e x y)) x_noX := by
  refine X_MH hG okL_learned rfl (L := [some (.ref 64), some (.int x), some (.int y), some (.ref 281), none]) rfl (Nat.le_of_ble_eq_true rfl) (fun ad0 nb0 => ?_)
  have hX0 := L_X0 (ov := ov) (I := I) (T := T) (S := S) (rd := rd) (tx := tx) (gv := gv) (P := P) hB
  have hst := y_le.st (L_le (ov := ov) (I := I) (T := T) (S := S) (rd := rd) (tx := tx) (gv := gv) (P := P) hB.2.2.1) hlv.2.2.1
  have hwf := hlv.1.1
  have hrel := hlv.2.1
  refine X_ld rfl rfl rfl rfl ?_
  refine X_push (v := .int 0) rfl (by decide +kernel) ?_
  refine X_ld rfl rfl rfl rfl ?_
  refine X_ld rfl rfl rfl rfl ?_
  refine X_ld rfl rfl rfl rfl ?_
  refine X_callV (T := TX10) (nf := 7) l_L_X10_learned (m_learned hG hX 50 w hw hw10 hst hwf) rfl rfl c_O rfl rfl (Nat.le_of_ble_eq_true rfl) (x_fit_of (Nat.le_of_ble_eq_true rfl) (by omega) (Nat.le_of_ble_eq_true rfl) (Nat.le_of_ble_eq_true rfl)) (fun N9 E h => ?_) (fun N9 r h => ?_)
  · obtain ⟨hp, rfl, rfl⟩ := h
    refine X_catch (name := "java/lang/IndexOutOfBoundsException") (pre := []) (a := (0, 10, 13, 22)) (suf := []) (y_none0 hX0.1) rfl (fun z hz => nomatch hz) rfl (by decide) (x_in 1036 (by decide +kernel) rfl) (List.mem_of_getElem? (i := 565) (by decide +kernel)) (fun q0 => ?_)
    refine X_st rfl rfl rfl ?_
    refine X_push (v := .int 1) rfl (by decide +kernel) ?_
    exact X_iret rfl rfl ⟨ov, rfl, by rw [ga_learned2 hwf hp], fun q => absurd q (by rw [ga_learned2 hwf hp]; decide)⟩ (Nat.le_of_ble_eq_true rfl) (Nat.le_of_ble_eq_true rfl)
  · obtain ⟨hp, rfl, rfl⟩ := h
    refine X_un rfl rfl ?_
    refine X_lout rfl ?_
    refine X_goto rfl ?_
    refine X_push (v := .int 0) rfl (by decide +kernel) ?_
    exact X_iret rfl rfl ⟨_, rfl, by rw [ga_learned1 hwf hrel hp.1 hp.2], fun _ => by rw [ga_learned1 hwf hrel hp.1 hp.2]⟩ (Nat.le_of_ble_eq_true rfl) (Nat.le_of_ble_eq_true rfl)
theorem W_kept {G : XE} (hG : x_Kn G) (hX : x_KX G) (hN : x_KN G) {B : XH} {n : Nat} {xs : Nat → Int32} (hB : L_B B n xs) {ov : Int64} {I : Nat → Int32} {T : Int64} {S : Nat → Nat → Int32} {rd tx gv : Nat → Int32} {P : Nat → Bool} {J bf K tk ts : Nat → Int32} {tl : Int64} {tv : Nat → Int64} {su : Nat → Nat} {D : Nat → Nat → Int32} (w : Nat) (hw : J 5 = nI w) (hw10 : w < 10) {t : Nat} {e : Nat → Int32} (hlv : L_lv B t e (D w) (su w)) {x : Int32} : x_M G mL_kept 60 1 6 [.ref 64, .int x, .ref 281] (cset (L_X B ov I T S rd tx gv P) J bf K tk ts tl tv su D) (L_QW (fun o N => N = cset (L_X B o I T S rd tx gv P) J bf K tk ts tl tv su D) (a_kept e x)) x_noX := by
  refine X_MH hG okL_kept rfl (L := [some (.ref 64), some (.int x), some (.ref 281), none]) rfl (Nat.le_of_ble_eq_true rfl) (fun ad0 nb0 => ?_)
  have hX0 := L_X0 (ov := ov) (I := I) (T := T) (S := S) (rd := rd) (tx := tx) (gv := gv) (P := P) hB
  have hst := y_le.st (L_le (ov := ov) (I := I) (T := T) (S := S) (rd := rd) (tx := tx) (gv := gv) (P := P) hB.2.2.1) hlv.2.2.1
  have hwf := hlv.1.1
  have hrel := hlv.2.1
  refine X_ld rfl rfl rfl rfl ?_
  refine X_push (v := .int 0) rfl (by decide +kernel) ?_
  refine X_ld rfl rfl rfl rfl ?_
  refine X_ld rfl rfl rfl rfl ?_
  refine X_callV (T := TX10) (nf := 7) l_L_X10_kept (m_kept hG hX 50 w hw hw10 hst hwf) rfl rfl c_O rfl rfl (Nat.le_of_ble_eq_true rfl) (x_fit_of (Nat.le_of_ble_eq_true rfl) (by omega) (Nat.le_of_ble_eq_true rfl) (Nat.le_of_ble_eq_true rfl)) (fun N9 E h => ?_) (fun N9 r h => ?_)
  · obtain ⟨hp, rfl, rfl⟩ := h
    refine X_catch (name := "java/lang/IndexOutOfBoundsException") (pre := []) (a := (0, 9, 12, 22)) (suf := []) (y_none0 hX0.1) rfl (fun z hz => nomatch hz) rfl (by decide) (x_in 1036 (by decide +kernel) rfl) (List.mem_of_getElem? (i := 565) (by decide +kernel)) (fun q0 => ?_)
    refine X_st rfl rfl rfl ?_
    refine X_push (v := .int 1) rfl (by decide +kernel) ?_
    exact X_iret rfl rfl ⟨ov, rfl, by rw [ga_kept2 hwf hp], fun q => absurd q (by rw [ga_kept2 hwf hp]; decide)⟩ (Nat.le_of_ble_eq_true rfl) (Nat.le_of_ble_eq_true rfl)
  · obtain ⟨hp, rfl, rfl⟩ := h
    refine X_un rfl rfl ?_
    refine X_lout rfl ?_
    refine X_goto rfl ?_
    refine X_push (v := .int 0) rfl (by decide +kernel) ?_
    exact X_iret rfl rfl ⟨_, rfl, by rw [ga_kept1 hwf hrel hp], fun _ => by rw [ga_kept1 hwf hrel hp]⟩ (Nat.le_of_ble_eq_true rfl) (Nat.le_of_ble_eq_true rfl)
theorem W_genericCost {G : XE} (hG : x_Kn G) (hX : x_KX G) (hN : x_KN G) {B : XH} {n : Nat} {xs : Nat → Int32} (hB : L_B B n xs) {ov : Int64} {I : Nat → Int32} {T : Int64} {S : Nat → Nat → Int32} {rd tx gv : Nat → Int32} {P : Nat → Bool} {J bf K tk ts : Nat → Int32} {tl : Int64} {tv : Nat → Int64} {su : Nat → Nat} {D : Nat → Nat → Int32} (w : Nat) (hw : J 5 = nI w) (hw10 : w < 10) {t : Nat} {e : Nat → Int32} (hlv : L_lv B t e (D w) (su w)) {x y : Int32} (hK : x_KS G) : x_M G mL_genericCost 60 2 12 [.ref 64, .int x, .int y, .ref 281] (cset (L_X B ov I T S rd tx gv P) J bf K tk ts tl tv su D) (L_QW (fun o N => N = cset (L_X B o I T S rd tx gv P) J bf K tk ts tl tv su D) (a_genericCost e gv x y)) x_noX := by
  refine X_MH hG okL_genericCost rfl (L := [some (.ref 64), some (.int x), some (.int y), some (.ref 281), none]) rfl (Nat.le_of_ble_eq_true rfl) (fun ad0 nb0 => ?_)
  have hX0 := L_X0 (ov := ov) (I := I) (T := T) (S := S) (rd := rd) (tx := tx) (gv := gv) (P := P) hB
  have hst := y_le.st (L_le (ov := ov) (I := I) (T := T) (S := S) (rd := rd) (tx := tx) (gv := gv) (P := P) hB.2.2.1) hlv.2.2.1
  have hwf := hlv.1.1
  have hrel := hlv.2.1
  refine X_ld rfl rfl rfl rfl ?_
  refine X_push (v := .int 0) rfl (by decide +kernel) ?_
  refine X_ld rfl rfl rfl rfl ?_
  refine X_ld rfl rfl rfl rfl ?_
  refine X_ld rfl rfl rfl rfl ?_
  refine X_callV (T := TX10) (nf := 7) l_L_X10_genericCost (m_genericCost hG hX hK 50 w hw hw10 (gv := gv) hst hwf hrel (L_X1 hB)) rfl rfl c_O rfl rfl (Nat.le_of_ble_eq_true rfl) (x_fit_of (Nat.le_of_ble_eq_true rfl) (by omega) (Nat.le_of_ble_eq_true rfl) (Nat.le_of_ble_eq_true rfl)) (fun N9 E h => ?_) (fun N9 r h => ?_)
  · obtain ⟨rfl, h⟩ := h
    rcases h with ⟨h1, rfl⟩ | ⟨h1, h2, rfl⟩
    · refine X_catch (name := "java/lang/IndexOutOfBoundsException") (pre := []) (a := (0, 10, 13, 22)) (suf := [(0, 10, 17, 13)]) (y_none0 hX0.1) rfl (fun z hz => nomatch hz) rfl (by decide) (x_in 1036 (by decide +kernel) rfl) (List.mem_of_getElem? (i := 565) (by decide +kernel)) (fun q0 => ?_)
      refine X_st rfl rfl rfl ?_
      refine X_push (v := .int 1) rfl (by decide +kernel) ?_
      exact X_iret rfl rfl ⟨ov, rfl, by rw [ga_gen2 hwf h1], fun q => absurd q (by rw [ga_gen2 hwf h1]; decide)⟩ (Nat.le_of_ble_eq_true rfl) (Nat.le_of_ble_eq_true rfl)
    · refine X_catch (name := "java/lang/IllegalArgumentException") (pre := [(0, 10, 13, 22)]) (a := (0, 10, 17, 13)) (suf := []) (y_none0 hX0.1) rfl (fun z hz => by rw [List.mem_singleton.mp hz]; exact ⟨by decide, "java/lang/IndexOutOfBoundsException", x_in 1036 (by decide +kernel) rfl, hN.1⟩) rfl (by decide) (x_in 641 (by decide +kernel) rfl) (List.mem_of_getElem? (i := 490) (by decide +kernel)) (fun q0 => ?_)
      refine X_st rfl rfl rfl ?_
      refine X_push (v := .int 2) rfl (by decide +kernel) ?_
      exact X_iret rfl rfl ⟨ov, rfl, by rw [ga_gen3 hwf h1 h2], fun q => absurd q (by rw [ga_gen3 hwf h1 h2]; decide)⟩ (Nat.le_of_ble_eq_true rfl) (Nat.le_of_ble_eq_true rfl)
  · obtain ⟨hp, rfl, rfl⟩ := h
    refine X_un rfl rfl ?_
    refine X_lout rfl ?_
    refine X_goto rfl ?_
    refine X_push (v := .int 0) rfl (by decide +kernel) ?_
    exact X_iret rfl rfl ⟨_, rfl, by rw [ga_gen1 hwf hp.1 hp.2], fun _ => by rw [ga_gen1 hwf hp.1 hp.2]⟩ (Nat.le_of_ble_eq_true rfl) (Nat.le_of_ble_eq_true rfl)
theorem W_special {G : XE} (hG : x_Kn G) (hX : x_KX G) (hN : x_KN G) {B : XH} {n : Nat} {xs : Nat → Int32} (hB : L_B B n xs) {ov : Int64} {I : Nat → Int32} {T : Int64} {S : Nat → Nat → Int32} {rd tx gv : Nat → Int32} {P : Nat → Bool} {J bf K tk ts : Nat → Int32} {tl : Int64} {tv : Nat → Int64} {su : Nat → Nat} {D : Nat → Nat → Int32} (w : Nat) (hw : J 5 = nI w) (hw10 : w < 10) {t : Nat} {e : Nat → Int32} (hlv : L_lv B t e (D w) (su w)) {x v0 v1 v2 v3 : Int32} : x_M G mL_special 60 6 34 [.ref 64, .int x, .int v0, .int v1, .int v2, .int v3, .ref 281] (cset (L_X B ov I T S rd tx gv P) J bf K tk ts tl tv su D) (L_QW (fun o N => N = cset (L_X B o I T S rd tx gv P) J bf K tk ts tl tv su D) (a_special e x v0 v1 v2 v3)) x_noX := by
  refine X_MH hG okL_special rfl (L := [some (.ref 64), some (.int x), some (.int v0), some (.int v1), some (.int v2), some (.int v3), some (.ref 281), none]) rfl (Nat.le_of_ble_eq_true rfl) (fun ad0 nb0 => ?_)
  have hX0 := L_X0 (ov := ov) (I := I) (T := T) (S := S) (rd := rd) (tx := tx) (gv := gv) (P := P) hB
  have hst := y_le.st (L_le (ov := ov) (I := I) (T := T) (S := S) (rd := rd) (tx := tx) (gv := gv) (P := P) hB.2.2.1) hlv.2.2.1
  have hwf := hlv.1.1
  have hrel := hlv.2.1
  refine X_ld rfl rfl rfl rfl ?_
  refine X_push (v := .int 0) rfl (by decide +kernel) ?_
  refine X_ld rfl rfl rfl rfl ?_
  refine X_ld rfl rfl rfl rfl ?_
  refine X_ld rfl rfl rfl rfl ?_
  refine X_ld rfl rfl rfl rfl ?_
  refine X_ld rfl rfl rfl rfl ?_
  refine X_ld rfl rfl rfl rfl ?_
  refine X_callV (T := TX10) (nf := 7) l_L_X10_special (m_special hG hX 50 w hw hw10 hX0.1 hst hwf hrel) rfl rfl c_O rfl rfl (Nat.le_of_ble_eq_true rfl) (x_fit_of (Nat.le_of_ble_eq_true rfl) (by omega) (Nat.le_of_ble_eq_true rfl) (Nat.le_of_ble_eq_true rfl)) (fun N9 E h => ?_) (fun N9 r h => ?_)
  · obtain ⟨rfl, h⟩ := h
    rcases h with ⟨h1, rfl⟩ | ⟨h1, h2, rfl⟩
    · refine X_catch (name := "java/lang/IndexOutOfBoundsException") (pre := []) (a := (0, 16, 19, 22)) (suf := [(0, 16, 23, 13)]) (y_none0 hX0.1) rfl (fun z hz => nomatch hz) rfl (by decide) (x_in 1036 (by decide +kernel) rfl) (List.mem_of_getElem? (i := 565) (by decide +kernel)) (fun q0 => ?_)
      refine X_st rfl rfl rfl ?_
      refine X_push (v := .int 1) rfl (by decide +kernel) ?_
      exact X_iret rfl rfl ⟨ov, rfl, by rw [show a_special e x v0 v1 v2 v3 = _ from ga_ifv2 hlv.1 h1], fun q => absurd q (by rw [show a_special e x v0 v1 v2 v3 = _ from ga_ifv2 hlv.1 h1]; decide)⟩ (Nat.le_of_ble_eq_true rfl) (Nat.le_of_ble_eq_true rfl)
    · refine X_catch (name := "java/lang/IllegalArgumentException") (pre := [(0, 16, 19, 22)]) (a := (0, 16, 23, 13)) (suf := []) (y_none0 hX0.1) rfl (fun z hz => by rw [List.mem_singleton.mp hz]; exact ⟨by decide, "java/lang/IndexOutOfBoundsException", x_in 1036 (by decide +kernel) rfl, hN.1⟩) rfl (by decide) (x_in 641 (by decide +kernel) rfl) (List.mem_of_getElem? (i := 490) (by decide +kernel)) (fun q0 => ?_)
      refine X_st rfl rfl rfl ?_
      refine X_push (v := .int 2) rfl (by decide +kernel) ?_
      exact X_iret rfl rfl ⟨ov, rfl, by rw [show a_special e x v0 v1 v2 v3 = _ from ga_ifv3 hlv.1 h1 h2], fun q => absurd q (by rw [show a_special e x v0 v1 v2 v3 = _ from ga_ifv3 hlv.1 h1 h2]; decide)⟩ (Nat.le_of_ble_eq_true rfl) (Nat.le_of_ble_eq_true rfl)
  · obtain ⟨hp, rfl, rfl⟩ := h
    refine X_un rfl rfl ?_
    refine X_lout rfl ?_
    refine X_goto rfl ?_
    refine X_push (v := .int 0) rfl (by decide +kernel) ?_
    exact X_iret rfl rfl ⟨_, rfl, by rw [show a_special e x v0 v1 v2 v3 = _ from ga_ifv1 hlv.1 hp.1 hp.2], fun _ => by rw [show a_special e x v0 v1 v2 v3 = _ from ga_ifv1 hlv.1 hp.1 hp.2]⟩ (Nat.le_of_ble_eq_true rfl) (Nat.le_of_ble_eq_true rfl)
theorem W_specialCost {G : XE} (hG : x_Kn G) (hX : x_KX G) (hN : x_KN G) {B : XH} {n : Nat} {xs : Nat → Int32} (hB : L_B B n xs) {ov : Int64} {I : Nat → Int32} {T : Int64} {S : Nat → Nat → Int32} {rd tx gv : Nat → Int32} {P : Nat → Bool} {J bf K tk ts : Nat → Int32} {tl : Int64} {tv : Nat → Int64} {su : Nat → Nat} {D : Nat → Nat → Int32} (w : Nat) (hw : J 5 = nI w) (hw10 : w < 10) {t : Nat} {e : Nat → Int32} (hlv : L_lv B t e (D w) (su w)) {x y v0 v1 v2 v3 : Int32} : x_M G mL_specialCost 60 7 40 [.ref 64, .int x, .int y, .int v0, .int v1, .int v2, .int v3, .ref 281] (cset (L_X B ov I T S rd tx gv P) J bf K tk ts tl tv su D) (L_QW (fun o N => N = cset (L_X B o I T S rd tx gv P) J bf K tk ts tl tv su D) (a_specialCost e x y v0 v1 v2 v3)) x_noX := by
  refine X_MH hG okL_specialCost rfl (L := [some (.ref 64), some (.int x), some (.int y), some (.int v0), some (.int v1), some (.int v2), some (.int v3), some (.ref 281), none]) rfl (Nat.le_of_ble_eq_true rfl) (fun ad0 nb0 => ?_)
  have hX0 := L_X0 (ov := ov) (I := I) (T := T) (S := S) (rd := rd) (tx := tx) (gv := gv) (P := P) hB
  have hst := y_le.st (L_le (ov := ov) (I := I) (T := T) (S := S) (rd := rd) (tx := tx) (gv := gv) (P := P) hB.2.2.1) hlv.2.2.1
  have hwf := hlv.1.1
  have hrel := hlv.2.1
  refine X_ld rfl rfl rfl rfl ?_
  refine X_push (v := .int 0) rfl (by decide +kernel) ?_
  refine X_ld rfl rfl rfl rfl ?_
  refine X_ld rfl rfl rfl rfl ?_
  refine X_ld rfl rfl rfl rfl ?_
  refine X_ld rfl rfl rfl rfl ?_
  refine X_ld rfl rfl rfl rfl ?_
  refine X_ld rfl rfl rfl rfl ?_
  refine X_ld rfl rfl rfl rfl ?_
  refine X_callV (T := TX10) (nf := 7) l_L_X10_specialCost (m_specialCost hG hX 50 w hw hw10 hX0.1 hst hwf hrel) rfl rfl c_O rfl rfl (Nat.le_of_ble_eq_true rfl) (x_fit_of (Nat.le_of_ble_eq_true rfl) (by omega) (Nat.le_of_ble_eq_true rfl) (Nat.le_of_ble_eq_true rfl)) (fun N9 E h => ?_) (fun N9 r h => ?_)
  · obtain ⟨rfl, h⟩ := h
    rcases h with ⟨h1, rfl⟩ | ⟨h1, h2, rfl⟩
    · refine X_catch (name := "java/lang/IndexOutOfBoundsException") (pre := []) (a := (0, 18, 21, 22)) (suf := [(0, 18, 25, 13)]) (y_none0 hX0.1) rfl (fun z hz => nomatch hz) rfl (by decide) (x_in 1036 (by decide +kernel) rfl) (List.mem_of_getElem? (i := 565) (by decide +kernel)) (fun q0 => ?_)
      refine X_st rfl rfl rfl ?_
      refine X_push (v := .int 1) rfl (by decide +kernel) ?_
      exact X_iret rfl rfl ⟨ov, rfl, by rw [ga_spc2 hlv.1 h1], fun q => absurd q (by rw [ga_spc2 hlv.1 h1]; decide)⟩ (Nat.le_of_ble_eq_true rfl) (Nat.le_of_ble_eq_true rfl)
    · refine X_catch (name := "java/lang/IllegalArgumentException") (pre := [(0, 18, 21, 22)]) (a := (0, 18, 25, 13)) (suf := []) (y_none0 hX0.1) rfl (fun z hz => by rw [List.mem_singleton.mp hz]; exact ⟨by decide, "java/lang/IndexOutOfBoundsException", x_in 1036 (by decide +kernel) rfl, hN.1⟩) rfl (by decide) (x_in 641 (by decide +kernel) rfl) (List.mem_of_getElem? (i := 490) (by decide +kernel)) (fun q0 => ?_)
      refine X_st rfl rfl rfl ?_
      refine X_push (v := .int 2) rfl (by decide +kernel) ?_
      exact X_iret rfl rfl ⟨ov, rfl, by rw [ga_spc3 hlv.1 h1 h2], fun q => absurd q (by rw [ga_spc3 hlv.1 h1 h2]; decide)⟩ (Nat.le_of_ble_eq_true rfl) (Nat.le_of_ble_eq_true rfl)
  · obtain ⟨hp, rfl, rfl⟩ := h
    refine X_un rfl rfl ?_
    refine X_lout rfl ?_
    refine X_goto rfl ?_
    refine X_push (v := .int 0) rfl (by decide +kernel) ?_
    exact X_iret rfl rfl ⟨_, rfl, by rw [ga_spc1 hlv.1 hp.1 hp.2.1 hp.2.2], fun _ => by rw [ga_spc1 hlv.1 hp.1 hp.2.1 hp.2.2]⟩ (Nat.le_of_ble_eq_true rfl) (Nat.le_of_ble_eq_true rfl)
theorem W_wouldUse {G : XE} (hG : x_Kn G) (hX : x_KX G) (hN : x_KN G) {B : XH} {n : Nat} {xs : Nat → Int32} (hB : L_B B n xs) {ov : Int64} {I : Nat → Int32} {T : Int64} {S : Nat → Nat → Int32} {rd tx gv : Nat → Int32} {P : Nat → Bool} {J bf K tk ts : Nat → Int32} {tl : Int64} {tv : Nat → Int64} {su : Nat → Nat} {D : Nat → Nat → Int32} (w : Nat) (hw : J 5 = nI w) (hw10 : w < 10) {t : Nat} {e : Nat → Int32} (hlv : L_lv B t e (D w) (su w)) {x v0 v1 v2 v3 : Int32} (hK : x_KS G) (ht : t ≤ 512) : x_M G mL_wouldUse 60 6 34 [.ref 64, .int x, .int v0, .int v1, .int v2, .int v3, .ref 281] (cset (L_X B ov I T S rd tx gv P) J bf K tk ts tl tv su D) (L_QW (fun o N => N = cset (L_X B o I T S rd tx gv P) J bf K tk ts tl tv su D ∨ ∃ c2, N = cset (L_X B o I T S rd tx gv P) J bf K tk ts tl tv (updN su (s_n10 w) (su w)) (updR D (s_n10 w) c2)) (a_wouldUse e x v0 v1 v2 v3)) x_noX := by
  refine X_MH hG okL_wouldUse rfl (L := [some (.ref 64), some (.int x), some (.int v0), some (.int v1), some (.int v2), some (.int v3), some (.ref 281), none]) rfl (Nat.le_of_ble_eq_true rfl) (fun ad0 nb0 => ?_)
  have hX0 := L_X0 (ov := ov) (I := I) (T := T) (S := S) (rd := rd) (tx := tx) (gv := gv) (P := P) hB
  have hst := y_le.st (L_le (ov := ov) (I := I) (T := T) (S := S) (rd := rd) (tx := tx) (gv := gv) (P := P) hB.2.2.1) hlv.2.2.1
  have hwf := hlv.1.1
  have hrel := hlv.2.1
  refine X_ld rfl rfl rfl rfl ?_
  refine X_push (v := .int 0) rfl (by decide +kernel) ?_
  refine X_ld rfl rfl rfl rfl ?_
  refine X_ld rfl rfl rfl rfl ?_
  refine X_ld rfl rfl rfl rfl ?_
  refine X_ld rfl rfl rfl rfl ?_
  refine X_ld rfl rfl rfl rfl ?_
  refine X_ld rfl rfl rfl rfl ?_
  refine X_callV (T := TX10) (nf := 7) l_L_X10_wouldUse (m_wouldUse hG hX hK 50 w hw hw10 hX0.1 hst hwf hrel hlv.2.2.2 (L_X1 hB) (fun s gv hs => s_hov ht hlv.1 hs)) rfl rfl c_O rfl rfl (Nat.le_of_ble_eq_true rfl) (x_fit_of (Nat.le_of_ble_eq_true rfl) (by omega) (Nat.le_of_ble_eq_true rfl) (Nat.le_of_ble_eq_true rfl)) (fun N9 E h => ?_) (fun N9 r h => ?_)
  · obtain ⟨rfl, h⟩ := h
    rcases h with ⟨h1, rfl⟩ | ⟨h1, h2, rfl⟩
    · refine X_catch (name := "java/lang/IndexOutOfBoundsException") (pre := []) (a := (0, 16, 19, 22)) (suf := [(0, 16, 23, 13)]) (y_none0 hX0.1) rfl (fun z hz => nomatch hz) rfl (by decide) (x_in 1036 (by decide +kernel) rfl) (List.mem_of_getElem? (i := 565) (by decide +kernel)) (fun q0 => ?_)
      refine X_st rfl rfl rfl ?_
      refine X_push (v := .int 1) rfl (by decide +kernel) ?_
      exact X_iret rfl rfl ⟨ov, Or.inl rfl, by rw [show a_wouldUse e x v0 v1 v2 v3 = _ from ga_ifv2 hlv.1 h1], fun q => absurd q (by rw [show a_wouldUse e x v0 v1 v2 v3 = _ from ga_ifv2 hlv.1 h1]; decide)⟩ (Nat.le_of_ble_eq_true rfl) (Nat.le_of_ble_eq_true rfl)
    · refine X_catch (name := "java/lang/IllegalArgumentException") (pre := [(0, 16, 19, 22)]) (a := (0, 16, 23, 13)) (suf := []) (y_none0 hX0.1) rfl (fun z hz => by rw [List.mem_singleton.mp hz]; exact ⟨by decide, "java/lang/IndexOutOfBoundsException", x_in 1036 (by decide +kernel) rfl, hN.1⟩) rfl (by decide) (x_in 641 (by decide +kernel) rfl) (List.mem_of_getElem? (i := 490) (by decide +kernel)) (fun q0 => ?_)
      refine X_st rfl rfl rfl ?_
      refine X_push (v := .int 2) rfl (by decide +kernel) ?_
      exact X_iret rfl rfl ⟨ov, Or.inl rfl, by rw [show a_wouldUse e x v0 v1 v2 v3 = _ from ga_ifv3 hlv.1 h1 h2], fun q => absurd q (by rw [show a_wouldUse e x v0 v1 v2 v3 = _ from ga_ifv3 hlv.1 h1 h2]; decide)⟩ (Nat.le_of_ble_eq_true rfl) (Nat.le_of_ble_eq_true rfl)
  · obtain ⟨hp, rfl, rfl⟩ := h
    refine X_un rfl rfl ?_
    refine X_lout rfl ?_
    refine X_goto rfl ?_
    refine X_push (v := .int 0) rfl (by decide +kernel) ?_
    exact X_iret rfl rfl ⟨_, Or.inr ⟨_, rfl⟩, by rw [show a_wouldUse e x v0 v1 v2 v3 = _ from (ga_ifv1 hlv.1 hp.1 hp.2).trans (by rw [← ga_would])], fun _ => by rw [show a_wouldUse e x v0 v1 v2 v3 = _ from (ga_ifv1 hlv.1 hp.1 hp.2).trans (by rw [← ga_would])]⟩ (Nat.le_of_ble_eq_true rfl) (Nat.le_of_ble_eq_true rfl)
theorem W_rows {G : XE} (hG : x_Kn G) (hX : x_KX G) (hN : x_KN G) {B : XH} {n : Nat} {xs : Nat → Int32} (hB : L_B B n xs) {ov : Int64} {I : Nat → Int32} {T : Int64} {S : Nat → Nat → Int32} {rd tx gv : Nat → Int32} {P : Nat → Bool} {J bf K tk ts : Nat → Int32} {tl : Int64} {tv : Nat → Int64} {su : Nat → Nat} {D : Nat → Nat → Int32} (w : Nat) (hw : J 5 = nI w) (hw10 : w < 10) {t : Nat} {e : Nat → Int32} (hlv : L_lv B t e (D w) (su w)) {x v0 v1 v2 v3 : Int32} : x_M G mL_rows 60 6 34 [.ref 64, .int x, .int v0, .int v1, .int v2, .int v3, .ref 281] (cset (L_X B ov I T S rd tx gv P) J bf K tk ts tl tv su D) (L_QL (fun o N => N = cset (L_X B o I T S rd tx gv P) J bf K tk ts tl tv su D) (a_rows e x v0 v1 v2 v3)) x_noX := by
  refine X_MH hG okL_rows rfl (L := [some (.ref 64), some (.int x), some (.int v0), some (.int v1), some (.int v2), some (.int v3), some (.ref 281), none]) rfl (Nat.le_of_ble_eq_true rfl) (fun ad0 nb0 => ?_)
  have hX0 := L_X0 (ov := ov) (I := I) (T := T) (S := S) (rd := rd) (tx := tx) (gv := gv) (P := P) hB
  have hst := y_le.st (L_le (ov := ov) (I := I) (T := T) (S := S) (rd := rd) (tx := tx) (gv := gv) (P := P) hB.2.2.1) hlv.2.2.1
  have hwf := hlv.1.1
  have hrel := hlv.2.1
  refine X_ld rfl rfl rfl rfl ?_
  refine X_push (v := .int 0) rfl (by decide +kernel) ?_
  refine X_ld rfl rfl rfl rfl ?_
  refine X_ld rfl rfl rfl rfl ?_
  refine X_ld rfl rfl rfl rfl ?_
  refine X_ld rfl rfl rfl rfl ?_
  refine X_ld rfl rfl rfl rfl ?_
  refine X_ld rfl rfl rfl rfl ?_
  refine X_callV (T := TX10) (nf := 7) l_L_X10_rows (m_rows hG hX 0 w hw hw10 hX0.1 hst hwf hrel) rfl rfl c_O rfl rfl (Nat.le_of_ble_eq_true rfl) (x_fit_of (Nat.le_of_ble_eq_true rfl) (by omega) (Nat.le_of_ble_eq_true rfl) (Nat.le_of_ble_eq_true rfl)) (fun N9 E h => ?_) (fun N9 r h => ?_)
  · obtain ⟨rfl, h⟩ := h
    rcases h with ⟨h1, rfl⟩ | ⟨h1, h2, rfl⟩
    · refine X_catch (name := "java/lang/IndexOutOfBoundsException") (pre := []) (a := (0, 15, 18, 22)) (suf := [(0, 15, 22, 13)]) (y_none0 hX0.1) rfl (fun z hz => nomatch hz) rfl (by decide) (x_in 1036 (by decide +kernel) rfl) (List.mem_of_getElem? (i := 565) (by decide +kernel)) (fun q0 => ?_)
      refine X_st rfl rfl rfl ?_
      refine X_push (v := .int 1) rfl (by decide +kernel) ?_
      exact X_iret rfl rfl ⟨ov, rfl, by rw [show a_rows e x v0 v1 v2 v3 = _ from ga_ifv2 hlv.1 h1], fun q => absurd q (by rw [show a_rows e x v0 v1 v2 v3 = _ from ga_ifv2 hlv.1 h1]; decide)⟩ (Nat.le_of_ble_eq_true rfl) (Nat.le_of_ble_eq_true rfl)
    · refine X_catch (name := "java/lang/IllegalArgumentException") (pre := [(0, 15, 18, 22)]) (a := (0, 15, 22, 13)) (suf := []) (y_none0 hX0.1) rfl (fun z hz => by rw [List.mem_singleton.mp hz]; exact ⟨by decide, "java/lang/IndexOutOfBoundsException", x_in 1036 (by decide +kernel) rfl, hN.1⟩) rfl (by decide) (x_in 641 (by decide +kernel) rfl) (List.mem_of_getElem? (i := 490) (by decide +kernel)) (fun q0 => ?_)
      refine X_st rfl rfl rfl ?_
      refine X_push (v := .int 2) rfl (by decide +kernel) ?_
      exact X_iret rfl rfl ⟨ov, rfl, by rw [show a_rows e x v0 v1 v2 v3 = _ from ga_ifv3 hlv.1 h1 h2], fun q => absurd q (by rw [show a_rows e x v0 v1 v2 v3 = _ from ga_ifv3 hlv.1 h1 h2]; decide)⟩ (Nat.le_of_ble_eq_true rfl) (Nat.le_of_ble_eq_true rfl)
  · obtain ⟨hp, rfl, rfl⟩ := h
    refine X_lout rfl ?_
    refine X_goto rfl ?_
    refine X_push (v := .int 0) rfl (by decide +kernel) ?_
    exact X_iret rfl rfl ⟨_, rfl, by rw [show a_rows e x v0 v1 v2 v3 = _ from ga_ifv1 hlv.1 hp.1 hp.2], fun _ => by rw [show a_rows e x v0 v1 v2 v3 = _ from ga_ifv1 hlv.1 hp.1 hp.2]⟩ (Nat.le_of_ble_eq_true rfl) (Nat.le_of_ble_eq_true rfl)
