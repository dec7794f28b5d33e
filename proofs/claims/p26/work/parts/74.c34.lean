/-! ===== the class: delete, setIndex, analyze, insert ===== -/
theorem m_delete {G : XE} (hG : x_Kn G) (hX : x_KX G) {B : XH} {J bf K tk ts : Nat → Int32} {tl : Int64} {tv : Nat → Int64} {su : Nat → Nat} {D : Nat → Nat → Int32} (d : Nat) (w : Nat) (hw : J 5 = nI w) (hw10 : w < 10) {e : Nat → Int32} (hst : st_at B e (su w)) (hwf : s_wf e) (hrel : s_rel e (D w)) {x : Int32} (hbl : ∀ q, q < 5 → D w (10 + 13 * q + 9) = 0 ∨ D w (10 + 13 * q + 9) = 1) : x_M G mX10_delete (d + 7) 1 6 [.ref 64, .int x] (cset B J bf K tk ts tl tv su D) (x_QnV (0 ≤ x ∧ x < D w 1) (cset B (upd (upd J 5 (nI (s_n10 w))) 6 (x_min (J 6 + 1) 8)) bf K tk ts tl tv (updN su (s_n10 w) (su w)) (updR D (s_n10 w) (upd (s_rmv (D w) (75 + 5 * n_ x) (5 * (s_lm e - 1 - n_ x))) 1 (nI (s_lm e - 1))))) (.int (nI (s_lm e - 1)))) (x_QxP (0 ≤ x ∧ x < D w 1) (cset B J bf K tk ts tl tv su D) "java/lang/IndexOutOfBoundsException") := by
  refine X_M hG okX10_delete rfl (L := [some (.ref 64), some (.int x)]) rfl (Nat.le_of_ble_eq_true rfl) (fun ad0 nb0 => ?_)
  have h10 : s_n10 w < 10 := s_n10_lt
  have hsm6 := hwf.smE.2
  have hcm5 := hwf.cmE.2
  have hlm40 := hwf.lmE.2
  refine X_ld rfl rfl rfl rfl ?_
  refine X_ld rfl rfl rfl rfl ?_
  refine X_vchk c_O l_X10_X10_checkRow (m_checkRow hG hX d w hw hw10) rfl rfl rfl rfl (Nat.le_of_ble_eq_true rfl) (Nat.le_of_ble_eq_true rfl) (by omega) (Nat.le_of_ble_eq_true rfl) (Nat.le_of_ble_eq_true rfl) rfl (fun z => ⟨z, rfl, rfl⟩) (fun hp1 => ?_)
  obtain ⟨a, ha, hxa⟩ := m_rngl (hrel.1.1.symm.trans hwf.lmE.1) (by omega) hp1
  have ex : n_ x = a := by unfold n_; rw [hxa]; exact nI_clamp (by omega)
  refine X_ld rfl rfl rfl rfl ?_
  refine X_vcall c_O l_X10_X10_spareCopy (m_spareCopy hG (d + 3) w hw hw10 hbl) rfl rfl rfl rfl (Nat.le_of_ble_eq_true rfl) (Nat.le_of_ble_eq_true rfl) (by omega) (Nat.le_of_ble_eq_true rfl) (Nat.le_of_ble_eq_true rfl) ?_
  refine X_ld rfl rfl rfl rfl ?_
  refine X_vcallv (r_D h10 updR_eq) l_X10_X3_removeRow (d_removeRow hG (d + 3) (s_n10 w) h10 hxa (hrel.1.1.symm.trans hwf.lmE.1) ha (by omega)) rfl rfl rfl rfl (Nat.le_of_ble_eq_true rfl) (Nat.le_of_ble_eq_true rfl) (by omega) (Nat.le_of_ble_eq_true rfl) (Nat.le_of_ble_eq_true rfl) ?_
  refine X_ld rfl rfl rfl rfl ?_
  refine X_vcallv c_O l_X10_X10_takeSpare (m_takeSpare hG (d + 5) w hw hw10) rfl rfl rfl rfl (Nat.le_of_ble_eq_true rfl) (Nat.le_of_ble_eq_true rfl) (by omega) (Nat.le_of_ble_eq_true rfl) (Nat.le_of_ble_eq_true rfl) ?_
  refine X_ld rfl rfl rfl rfl ?_
  refine X_vcall c_O l_X10_X10_current (m_current hG (d + 6) (s_n10 w) (show (upd (upd J 5 (nI (s_n10 w))) 6 (x_min (J 6 + 1) 8)) 5 = nI (s_n10 w) by rw [updI_ne (show 5 ≠ 6 by decide), updI_eq]) s_n10_lt) rfl rfl rfl rfl (Nat.le_of_ble_eq_true rfl) (Nat.le_of_ble_eq_true rfl) (by omega) (Nat.le_of_ble_eq_true rfl) (Nat.le_of_ble_eq_true rfl) ?_
  refine X_get f_X10_91 rfl (r_D s_n10_lt updR_eq) rfl ?_
  exact X_iret rfl rfl ⟨hp1, by rw [ex], congrArg (fun q => some (Value.int q)) updI_eq⟩ (Nat.le_of_ble_eq_true rfl) (Nat.le_of_ble_eq_true rfl)
theorem m_analyze {G : XE} (hG : x_Kn G) (hX : x_KX G) {B : XH} {J bf K tk ts : Nat → Int32} {tl : Int64} {tv : Nat → Int64} {su : Nat → Nat} {D : Nat → Nat → Int32} (d : Nat) (w : Nat) (hw : J 5 = nI w) (hw10 : w < 10) {e : Nat → Int32} (hst : st_at B e (su w)) (hwf : s_wf e) (hrel : s_rel e (D w)) (hbl : ∀ q, q < 5 → D w (10 + 13 * q + 9) = 0 ∨ D w (10 + 13 * q + 9) = 1) : x_M G mX10_analyze (d + 7) 0 0 [.ref 64] (cset B J bf K tk ts tl tv su D) (x_Ret (cset B (upd (upd J 5 (nI (s_n10 w))) 6 (x_min (J 6 + 1) 8)) bf K tk ts tl tv (updN su (s_n10 w) (su w)) (updR D (s_n10 w) (upd (s_look (D w) (s_lm e) (s_cm e)) 3 (D w 3 + 1)))) (.int (D w 3 + 1))) x_noX := by
  refine X_M hG okX10_analyze rfl (L := [some (.ref 64), none]) rfl (Nat.le_of_ble_eq_true rfl) (fun ad0 nb0 => ?_)
  have h10 : s_n10 w < 10 := s_n10_lt
  have hsm6 := hwf.smE.2
  have hcm5 := hwf.cmE.2
  have hlm40 := hwf.lmE.2
  have hst9 := hst
  obtain ⟨hso, a1, a2, a3, pp, hsB, -⟩ := hst9
  have h3 : s_look (D w) (s_lm e) (s_cm e) 3 = D w 3 := (s_look_ag (s_cm e) hcm5 3 (by omega)).symm
  refine X_ld rfl rfl rfl rfl ?_
  refine X_vcall c_O l_X10_X10_spareCopy (m_spareCopy hG (d + 3) w hw hw10 hbl) rfl rfl rfl rfl (Nat.le_of_ble_eq_true rfl) (Nat.le_of_ble_eq_true rfl) (by omega) (Nat.le_of_ble_eq_true rfl) (Nat.le_of_ble_eq_true rfl) ?_
  refine X_st rfl rfl rfl ?_
  refine X_ld rfl rfl rfl rfl ?_
  refine X_vcallv (r_D h10 updR_eq) l_X10_X3_takeStatistics (d_takeStatistics hG (d + 2) (s_n10 w) h10 (by rw [updN_eq]; exact hso) (by rw [updN_eq]; exact hsB) (s_cm e) hwf.cmE.1 (by omega) (s_lm e) (hrel.1.1.symm.trans hwf.lmE.1) (by omega)) rfl rfl rfl rfl (Nat.le_of_ble_eq_true rfl) (Nat.le_of_ble_eq_true rfl) (by omega) (Nat.le_of_ble_eq_true rfl) (Nat.le_of_ble_eq_true rfl) ?_
  refine X_ld rfl rfl rfl rfl ?_
  refine X_dup rfl rfl ?_
  refine X_get f_X10_94 rfl (r_D s_n10_lt updR_eq) rfl ?_
  refine X_push (v := .int 1) rfl (by decide +kernel) ?_
  refine X_bin rfl rfl ?_
  refine X_put f_X10_94 rfl (r_D s_n10_lt updR_eq) ⟨rfl, rfl⟩ ?_
  refine X_heap (w_D3 s_n10_lt) ?_
  refine X_heap (N' := cset B J bf K tk ts tl tv (updN su (s_n10 w) (su w)) (updR D (s_n10 w) (upd (s_look (D w) (s_lm e) (s_cm e)) 3 (D w 3 + 1)))) (by rw [h3]) ?_
  refine X_ld rfl rfl rfl rfl ?_
  refine X_vcallv c_O l_X10_X10_takeSpare (m_takeSpare hG (d + 5) w hw hw10) rfl rfl rfl rfl (Nat.le_of_ble_eq_true rfl) (Nat.le_of_ble_eq_true rfl) (by omega) (Nat.le_of_ble_eq_true rfl) (Nat.le_of_ble_eq_true rfl) ?_
  refine X_ld rfl rfl rfl rfl ?_
  refine X_vcall c_O l_X10_X10_current (m_current hG (d + 6) (s_n10 w) (show (upd (upd J 5 (nI (s_n10 w))) 6 (x_min (J 6 + 1) 8)) 5 = nI (s_n10 w) by rw [updI_ne (show 5 ≠ 6 by decide), updI_eq]) s_n10_lt) rfl rfl rfl rfl (Nat.le_of_ble_eq_true rfl) (Nat.le_of_ble_eq_true rfl) (by omega) (Nat.le_of_ble_eq_true rfl) (Nat.le_of_ble_eq_true rfl) ?_
  refine X_get f_X10_94 rfl (r_D s_n10_lt updR_eq) rfl ?_
  exact X_iret rfl rfl ⟨rfl, congrArg (fun q => some (Value.int q)) updI_eq⟩ (Nat.le_of_ble_eq_true rfl) (Nat.le_of_ble_eq_true rfl)
def s_ty (e : Nat → Int32) (j : Nat) : Int32 := if j < s_cm e then s_col e j 8 else -1
theorem p_typeOfA {G : XE} (hG : x_Kn G) {B : XH} {J bf K tk ts : Nat → Int32} {tl : Int64} {tv : Nat → Int64} {su : Nat → Nat} {D : Nat → Nat → Int32} (d : Nat) {e : Nat → Int32} {o : Nat} (hst : st_at B e o) (hwf : s_wf e) (j : Nat) (hj : j < 2147483648) {x : Int32} (hx : x = nI j) : x_M G mX5_typeOf d 0 0 [.ref o, .int x] (cset B J bf K tk ts tl tv su D) (x_Ret (cset B J bf K tk ts tl tv su D) (.int (s_ty e j))) x_noX := by
  refine X_M hG okX5_typeOf rfl (L := [some (.ref o), some (.int x)]) rfl (Nat.le_of_ble_eq_true rfl) (fun ad0 nb0 => ?_)
  have hcm5 := hwf.cmE.2
  obtain ⟨hso, a1, a2, a3, pp, hsB, -, ⟨ha2, ty, hB2, hty⟩, -, -⟩ := hst
  refine X_ld rfl rfl rfl rfl ?_
  refine X_if_lt rfl (fun c1 => absurd ((n_lt (b := 0) hx (show (0 : Int32) = nI 0 from rfl) (by omega) (by omega)).mp c1) (by omega)) (fun c1 => ?_)
  refine X_ld rfl rfl rfl rfl ?_
  refine X_ld rfl rfl rfl rfl ?_
  refine X_get f_X5_39 rfl (c_B hso hsB) rfl ?_
  refine X_icmp_ge rfl (fun c9 => ?_) (fun c9 => ?_)
  · refine X_push (v := .int (-1)) rfl (by decide +kernel) ?_
    exact X_iret rfl rfl ⟨rfl, by rw [show s_ty e j = -1 from if_neg (by have := (n_le hwf.cmE.1 hx (by omega) (by omega)).mp c9; omega)]⟩ (Nat.le_of_ble_eq_true rfl) (Nat.le_of_ble_eq_true rfl)
  · have h9 : j < s_cm e := by have := mt (n_le hwf.cmE.1 hx (by omega) (by omega)).mpr c9; omega
    refine X_ld rfl rfl rfl rfl ?_
    refine X_get f_X5_15 rfl (c_B hso hsB) rfl ?_
    refine X_ld rfl rfl rfl rfl ?_
    refine X_iald rfl (c_B ha2 hB2) (by rw [hx]; exact vp_in_nI (by omega) (by omega)) (v := .int (ty j)) (by rw [hx, nI_clamp (by omega)]) ?_
    refine X_goto rfl ?_
    exact X_iret rfl rfl ⟨rfl, by rw [hty j h9, show s_ty e j = s_col e j 8 from if_pos h9]⟩ (Nat.le_of_ble_eq_true rfl) (Nat.le_of_ble_eq_true rfl)
abbrev s_g5 (v0 v1 v2 v3 v4 : Int32) : Nat → Int32 := upd (s_giv (fun _ => 0) v0 v1 v2 v3) 4 v4
abbrev s_g5c (v0 v1 v2 v3 v4 : Int32) : XC := .inr (true, .int, 5, fun j => .int (s_g5 v0 v1 v2 v3 v4 j))
/-- the five numbers, each in the range of its column -/
def s_ivr (e : Nat → Int32) (v0 v1 v2 v3 v4 : Int32) : Prop := ((0 : Int32) ≤ v0 ∧ v0 ≤ s_grt (s_ty e 0)) ∧ ((0 : Int32) ≤ v1 ∧ v1 ≤ s_grt (s_ty e 1)) ∧ ((0 : Int32) ≤ v2 ∧ v2 ≤ s_grt (s_ty e 2)) ∧ ((0 : Int32) ≤ v3 ∧ v3 ≤ s_grt (s_ty e 3)) ∧ ((0 : Int32) ≤ v4 ∧ v4 ≤ s_grt (s_ty e 4))
def s_in5 (c : Nat → Int32) (l : Nat) (v0 v1 v2 v3 v4 : Int32) : Nat → Int32 := upd (upd (upd (upd (upd c (75 + 5 * l + 0) v0) (75 + 5 * l + 1) v1) (75 + 5 * l + 2) v2) (75 + 5 * l + 3) v3) (75 + 5 * l + 4) v4
def s_insc (c : Nat → Int32) (l : Nat) (v0 v1 v2 v3 v4 : Int32) : Nat → Int32 := upd (s_in5 c l v0 v1 v2 v3 v4) 1 (nI l + 1)
theorem m_insert {G : XE} (hG : x_Kn G) (hX : x_KX G) {B : XH} {J bf K tk ts : Nat → Int32} {tl : Int64} {tv : Nat → Int64} {su : Nat → Nat} {D : Nat → Nat → Int32} (d : Nat) (w : Nat) (hw : J 5 = nI w) (hw10 : w < 10) (h0 : B 0 = none) {e : Nat → Int32} (hst : st_at B e (su w)) (hwf : s_wf e) (hrel : s_rel e (D w)) {v0 v1 v2 v3 v4 : Int32} (hbl : ∀ q, q < 5 → D w (10 + 13 * q + 9) = 0 ∨ D w (10 + 13 * q + 9) = 1) : x_M G mX10_insert (d + 8) 7 41 [.ref 64, .int v0, .int v1, .int v2, .int v3, .int v4] (cset B J bf K tk ts tl tv su D) (x_QnV ((s_ivr e v0 v1 v2 v3 v4) ∧ ¬ e 0 = 0 ∧ D w 1 < 40) (cset B (upd (upd J 5 (nI (s_n10 w))) 6 (x_min (J 6 + 1) 8)) bf K tk ts tl tv (updN su (s_n10 w) (su w)) (updR D (s_n10 w) (s_insc (D w) (s_lm e) v0 v1 v2 v3 v4))) (.int (nI (s_lm e) + 1))) (x_Qx2 (s_ivr e v0 v1 v2 v3 v4) (¬ e 0 = 0 ∧ D w 1 < 40) (cset B J bf K tk ts tl tv su D) "java/lang/IllegalArgumentException" "java/lang/IllegalStateException") := by
  refine X_M hG okX10_insert rfl (L := [some (.ref 64), some (.int v0), some (.int v1), some (.int v2), some (.int v3), some (.int v4), none, none, none, none]) rfl (Nat.le_of_ble_eq_true rfl) (fun ad0 nb0 => ?_)
  have h10 : s_n10 w < 10 := s_n10_lt
  have hsm6 := hwf.smE.2
  have hcm5 := hwf.cmE.2
  have hlm40 := hwf.lmE.2
  have hst9 := hst
  obtain ⟨hso, a1, a2, a3, pp, hsB, -⟩ := hst9
  have hq1 : D w 1 = nI (s_lm e) := (hrel.1.1.symm.trans hwf.lmE.1)
  refine X_push (v := .int 5) rfl (by decide +kernel) ?_
  refine X_newaK 5 rfl rfl (List.mem_of_getElem? (i := 0) rfl) (x_in 131 (by decide +kernel) rfl) (by decide) rfl (by decide) (Nat.le_of_ble_eq_true rfl) (Nat.le_of_ble_eq_true rfl) (x_K_any (y_none0 h0) (fun q hq h64 => ?_))
  obtain ⟨hqo, hqB⟩ := y_free hq
  refine X_dup rfl rfl ?_
  refine X_push (v := .int 0) rfl (by decide +kernel) ?_
  refine X_ld rfl rfl rfl rfl ?_
  refine X_iast (f := fun j => .int ((fun _ => (0 : Int32)) j)) rfl x_set_eq (by rw [show (0 : Int32) = nI 0 from rfl]; exact vp_in_nI (by omega) (by omega)) ?_
  refine X_heap (N' := x_set (cset B J bf K tk ts tl tv su D) q (.inr (true, .int, 5, fun j => .int ((upd (fun _ => (0 : Int32)) 0 v0) j)) : XC)) (by rw [x_set_set, show (0 : Int32).toNatClampNeg = 0 from by decide, updV_int]) ?_
  refine X_dup rfl rfl ?_
  refine X_push (v := .int 1) rfl (by decide +kernel) ?_
  refine X_ld rfl rfl rfl rfl ?_
  refine X_iast (f := fun j => .int ((upd (fun _ => (0 : Int32)) 0 v0) j)) rfl x_set_eq (by rw [show (1 : Int32) = nI 1 from rfl]; exact vp_in_nI (by omega) (by omega)) ?_
  refine X_heap (N' := x_set (cset B J bf K tk ts tl tv su D) q (.inr (true, .int, 5, fun j => .int ((upd (upd (fun _ => (0 : Int32)) 0 v0) 1 v1) j)) : XC)) (by rw [x_set_set, show (1 : Int32).toNatClampNeg = 1 from by decide, updV_int]) ?_
  refine X_dup rfl rfl ?_
  refine X_push (v := .int 2) rfl (by decide +kernel) ?_
  refine X_ld rfl rfl rfl rfl ?_
  refine X_iast (f := fun j => .int ((upd (upd (fun _ => (0 : Int32)) 0 v0) 1 v1) j)) rfl x_set_eq (by rw [show (2 : Int32) = nI 2 from rfl]; exact vp_in_nI (by omega) (by omega)) ?_
  refine X_heap (N' := x_set (cset B J bf K tk ts tl tv su D) q (.inr (true, .int, 5, fun j => .int ((upd (upd (upd (fun _ => (0 : Int32)) 0 v0) 1 v1) 2 v2) j)) : XC)) (by rw [x_set_set, show (2 : Int32).toNatClampNeg = 2 from by decide, updV_int]) ?_
  refine X_dup rfl rfl ?_
  refine X_push (v := .int 3) rfl (by decide +kernel) ?_
  refine X_ld rfl rfl rfl rfl ?_
  refine X_iast (f := fun j => .int ((upd (upd (upd (fun _ => (0 : Int32)) 0 v0) 1 v1) 2 v2) j)) rfl x_set_eq (by rw [show (3 : Int32) = nI 3 from rfl]; exact vp_in_nI (by omega) (by omega)) ?_
  refine X_heap (N' := x_set (cset B J bf K tk ts tl tv su D) q (.inr (true, .int, 5, fun j => .int ((upd (upd (upd (upd (fun _ => (0 : Int32)) 0 v0) 1 v1) 2 v2) 3 v3) j)) : XC)) (by rw [x_set_set, show (3 : Int32).toNatClampNeg = 3 from by decide, updV_int]) ?_
  refine X_dup rfl rfl ?_
  refine X_push (v := .int 4) rfl (by decide +kernel) ?_
  refine X_ld rfl rfl rfl rfl ?_
  refine X_iast (f := fun j => .int ((upd (upd (upd (upd (fun _ => (0 : Int32)) 0 v0) 1 v1) 2 v2) 3 v3) j)) rfl x_set_eq (by rw [show (4 : Int32) = nI 4 from rfl]; exact vp_in_nI (by omega) (by omega)) ?_
  refine X_heap (N' := x_set (cset B J bf K tk ts tl tv su D) q (.inr (true, .int, 5, fun j => .int ((upd (upd (upd (upd (upd (fun _ => (0 : Int32)) 0 v0) 1 v1) 2 v2) 3 v3) 4 v4) j)) : XC)) (by rw [x_set_set, show (4 : Int32).toNatClampNeg = 4 from by decide, updV_int]) ?_
  refine X_heap (N' := cset (x_set B q (s_g5c v0 v1 v2 v3 v4)) J bf K tk ts tl tv su D) (y_set hqo) ?_
  refine X_st rfl rfl rfl ?_
  have hst2 := (y_le_set (c := (s_g5c v0 v1 v2 v3 v4)) hqB).st hst
  have hsBq := (y_le_set (c := (s_g5c v0 v1 v2 v3 v4)) hqB) _ _ hsB
  have hqq : x_set B q (s_g5c v0 v1 v2 v3 v4) q = some (s_g5c v0 v1 v2 v3 v4) := x_set_eq
  refine X_ld rfl rfl rfl rfl ?_
  refine X_vcall c_O l_X10_X10_current (m_current hG (d + 7) w hw hw10) rfl rfl rfl rfl (Nat.le_of_ble_eq_true rfl) (Nat.le_of_ble_eq_true rfl) (by omega) (Nat.le_of_ble_eq_true rfl) (Nat.le_of_ble_eq_true rfl) ?_
  refine X_get f_X10_75 rfl (r_D hw10 rfl) rfl ?_
  refine X_st rfl rfl rfl ?_
  refine X_push (v := .int 0) rfl (by decide +kernel) ?_
  refine X_st rfl rfl rfl ?_
  refine X_loc (L' := [some (.ref 64), some (.int v0), some (.int v1), some (.int v2), some (.int v3), some (.int v4), some (.ref q), some (.ref (su w)), some (.int 0), none]) ⟨rfl, rfl, rfl, rfl, rfl, rfl, rfl, rfl, rfl, trivial⟩ ?_
  refine X_ld rfl rfl rfl rfl ?_
  refine X_push (v := .int 5) rfl (by decide +kernel) ?_
  refine X_icmp_ge rfl (fun c9 => absurd c9 (by decide)) (fun c9 => ?_)
  clear c9
  refine X_ld rfl rfl rfl rfl ?_
  refine X_ld rfl rfl rfl rfl ?_
  refine X_iald rfl (c_B hqo hqq) (by rw [show (0 : Int32) = nI 0 from rfl]; exact vp_in_nI (by omega) (by omega)) (v := .int v0) rfl ?_
  refine X_ld rfl rfl rfl rfl ?_
  refine X_ld rfl rfl rfl rfl ?_
  refine X_vcall (c_B hso hsBq) l_X10_X5_typeOf (p_typeOfA hG (d + 7) hst2 hwf 0 (by omega) (show (0 : Int32) = nI 0 from rfl)) rfl rfl rfl rfl (Nat.le_of_ble_eq_true rfl) (Nat.le_of_ble_eq_true rfl) (by omega) (Nat.le_of_ble_eq_true rfl) (Nat.le_of_ble_eq_true rfl) ?_
  refine X_schkS (N2 := cset B J bf K tk ts tl tv su D) l_X10_X10_checkRange (m_checkRange hG hX d) rfl rfl rfl (Nat.le_of_ble_eq_true rfl) (Nat.le_of_ble_eq_true rfl) (by omega) (Nat.le_of_ble_eq_true rfl) (Nat.le_of_ble_eq_true rfl) rfl (y_le.c (y_le_set hqB)) (fun z => ⟨rfl, Or.inl ⟨fun r => z r.1, rfl⟩⟩) (fun hr0 => ?_)
  refine X_iinc rfl rfl rfl ?_
  refine X_goto rfl ?_
  refine X_loc (L' := [some (.ref 64), some (.int v0), some (.int v1), some (.int v2), some (.int v3), some (.int v4), some (.ref q), some (.ref (su w)), some (.int 1), none]) ⟨rfl, rfl, rfl, rfl, rfl, rfl, rfl, rfl, rfl, trivial⟩ ?_
  refine X_ld rfl rfl rfl rfl ?_
  refine X_push (v := .int 5) rfl (by decide +kernel) ?_
  refine X_icmp_ge rfl (fun c9 => absurd c9 (by decide)) (fun c9 => ?_)
  clear c9
  refine X_ld rfl rfl rfl rfl ?_
  refine X_ld rfl rfl rfl rfl ?_
  refine X_iald rfl (c_B hqo hqq) (by rw [show (1 : Int32) = nI 1 from rfl]; exact vp_in_nI (by omega) (by omega)) (v := .int v1) rfl ?_
  refine X_ld rfl rfl rfl rfl ?_
  refine X_ld rfl rfl rfl rfl ?_
  refine X_vcall (c_B hso hsBq) l_X10_X5_typeOf (p_typeOfA hG (d + 7) hst2 hwf 1 (by omega) (show (1 : Int32) = nI 1 from rfl)) rfl rfl rfl rfl (Nat.le_of_ble_eq_true rfl) (Nat.le_of_ble_eq_true rfl) (by omega) (Nat.le_of_ble_eq_true rfl) (Nat.le_of_ble_eq_true rfl) ?_
  refine X_schkS (N2 := cset B J bf K tk ts tl tv su D) l_X10_X10_checkRange (m_checkRange hG hX d) rfl rfl rfl (Nat.le_of_ble_eq_true rfl) (Nat.le_of_ble_eq_true rfl) (by omega) (Nat.le_of_ble_eq_true rfl) (Nat.le_of_ble_eq_true rfl) rfl (y_le.c (y_le_set hqB)) (fun z => ⟨rfl, Or.inl ⟨fun r => z r.2.1, rfl⟩⟩) (fun hr1 => ?_)
  refine X_iinc rfl rfl rfl ?_
  refine X_goto rfl ?_
  refine X_loc (L' := [some (.ref 64), some (.int v0), some (.int v1), some (.int v2), some (.int v3), some (.int v4), some (.ref q), some (.ref (su w)), some (.int 2), none]) ⟨rfl, rfl, rfl, rfl, rfl, rfl, rfl, rfl, rfl, trivial⟩ ?_
  refine X_ld rfl rfl rfl rfl ?_
  refine X_push (v := .int 5) rfl (by decide +kernel) ?_
  refine X_icmp_ge rfl (fun c9 => absurd c9 (by decide)) (fun c9 => ?_)
  clear c9
  refine X_ld rfl rfl rfl rfl ?_
  refine X_ld rfl rfl rfl rfl ?_
  refine X_iald rfl (c_B hqo hqq) (by rw [show (2 : Int32) = nI 2 from rfl]; exact vp_in_nI (by omega) (by omega)) (v := .int v2) rfl ?_
  refine X_ld rfl rfl rfl rfl ?_
  refine X_ld rfl rfl rfl rfl ?_
  refine X_vcall (c_B hso hsBq) l_X10_X5_typeOf (p_typeOfA hG (d + 7) hst2 hwf 2 (by omega) (show (2 : Int32) = nI 2 from rfl)) rfl rfl rfl rfl (Nat.le_of_ble_eq_true rfl) (Nat.le_of_ble_eq_true rfl) (by omega) (Nat.le_of_ble_eq_true rfl) (Nat.le_of_ble_eq_true rfl) ?_
  refine X_schkS (N2 := cset B J bf K tk ts tl tv su D) l_X10_X10_checkRange (m_checkRange hG hX d) rfl rfl rfl (Nat.le_of_ble_eq_true rfl) (Nat.le_of_ble_eq_true rfl) (by omega) (Nat.le_of_ble_eq_true rfl) (Nat.le_of_ble_eq_true rfl) rfl (y_le.c (y_le_set hqB)) (fun z => ⟨rfl, Or.inl ⟨fun r => z r.2.2.1, rfl⟩⟩) (fun hr2 => ?_)
  refine X_iinc rfl rfl rfl ?_
  refine X_goto rfl ?_
  refine X_loc (L' := [some (.ref 64), some (.int v0), some (.int v1), some (.int v2), some (.int v3), some (.int v4), some (.ref q), some (.ref (su w)), some (.int 3), none]) ⟨rfl, rfl, rfl, rfl, rfl, rfl, rfl, rfl, rfl, trivial⟩ ?_
  refine X_ld rfl rfl rfl rfl ?_
  refine X_push (v := .int 5) rfl (by decide +kernel) ?_
  refine X_icmp_ge rfl (fun c9 => absurd c9 (by decide)) (fun c9 => ?_)
  clear c9
  refine X_ld rfl rfl rfl rfl ?_
  refine X_ld rfl rfl rfl rfl ?_
  refine X_iald rfl (c_B hqo hqq) (by rw [show (3 : Int32) = nI 3 from rfl]; exact vp_in_nI (by omega) (by omega)) (v := .int v3) rfl ?_
  refine X_ld rfl rfl rfl rfl ?_
  refine X_ld rfl rfl rfl rfl ?_
  refine X_vcall (c_B hso hsBq) l_X10_X5_typeOf (p_typeOfA hG (d + 7) hst2 hwf 3 (by omega) (show (3 : Int32) = nI 3 from rfl)) rfl rfl rfl rfl (Nat.le_of_ble_eq_true rfl) (Nat.le_of_ble_eq_true rfl) (by omega) (Nat.le_of_ble_eq_true rfl) (Nat.le_of_ble_eq_true rfl) ?_
  refine X_schkS (N2 := cset B J bf K tk ts tl tv su D) l_X10_X10_checkRange (m_checkRange hG hX d) rfl rfl rfl (Nat.le_of_ble_eq_true rfl) (Nat.le_of_ble_eq_true rfl) (by omega) (Nat.le_of_ble_eq_true rfl) (Nat.le_of_ble_eq_true rfl) rfl (y_le.c (y_le_set hqB)) (fun z => ⟨rfl, Or.inl ⟨fun r => z r.2.2.2.1, rfl⟩⟩) (fun hr3 => ?_)
  refine X_iinc rfl rfl rfl ?_
  refine X_goto rfl ?_
  refine X_loc (L' := [some (.ref 64), some (.int v0), some (.int v1), some (.int v2), some (.int v3), some (.int v4), some (.ref q), some (.ref (su w)), some (.int 4), none]) ⟨rfl, rfl, rfl, rfl, rfl, rfl, rfl, rfl, rfl, trivial⟩ ?_
  refine X_ld rfl rfl rfl rfl ?_
  refine X_push (v := .int 5) rfl (by decide +kernel) ?_
  refine X_icmp_ge rfl (fun c9 => absurd c9 (by decide)) (fun c9 => ?_)
  clear c9
  refine X_ld rfl rfl rfl rfl ?_
  refine X_ld rfl rfl rfl rfl ?_
  refine X_iald rfl (c_B hqo hqq) (by rw [show (4 : Int32) = nI 4 from rfl]; exact vp_in_nI (by omega) (by omega)) (v := .int v4) rfl ?_
  refine X_ld rfl rfl rfl rfl ?_
  refine X_ld rfl rfl rfl rfl ?_
  refine X_vcall (c_B hso hsBq) l_X10_X5_typeOf (p_typeOfA hG (d + 7) hst2 hwf 4 (by omega) (show (4 : Int32) = nI 4 from rfl)) rfl rfl rfl rfl (Nat.le_of_ble_eq_true rfl) (Nat.le_of_ble_eq_true rfl) (by omega) (Nat.le_of_ble_eq_true rfl) (Nat.le_of_ble_eq_true rfl) ?_
  refine X_schkS (N2 := cset B J bf K tk ts tl tv su D) l_X10_X10_checkRange (m_checkRange hG hX d) rfl rfl rfl (Nat.le_of_ble_eq_true rfl) (Nat.le_of_ble_eq_true rfl) (by omega) (Nat.le_of_ble_eq_true rfl) (Nat.le_of_ble_eq_true rfl) rfl (y_le.c (y_le_set hqB)) (fun z => ⟨rfl, Or.inl ⟨fun r => z r.2.2.2.2, rfl⟩⟩) (fun hr4 => ?_)
  refine X_iinc rfl rfl rfl ?_
  refine X_goto rfl ?_
  refine X_loc (L' := [some (.ref 64), some (.int v0), some (.int v1), some (.int v2), some (.int v3), some (.int v4), some (.ref q), some (.ref (su w)), some (.int 5), none]) ⟨rfl, rfl, rfl, rfl, rfl, rfl, rfl, rfl, rfl, trivial⟩ ?_
  refine X_ld rfl rfl rfl rfl ?_
  refine X_push (v := .int 5) rfl (by decide +kernel) ?_
  refine X_icmp_ge rfl (fun c9 => ?_) (fun c9 => absurd (by decide) c9)
  clear c9
  have hpi : s_ivr e v0 v1 v2 v3 v4 := ⟨hr0, hr1, hr2, hr3, hr4⟩
  refine X_ld rfl rfl rfl rfl ?_
  refine X_get f_X10_88 rfl (c_B hso hsBq) rfl ?_
  refine X_if_eq rfl (fun c71 => ?_) (fun c71 => ?_)
  · refine X_cells (N' := cset B J bf K tk ts tl tv su D) (y_le.c (y_le_set hqB)) ?_
    exact X_throwS lt_ise (hX (RX10, 247, "there is no place for a row") (List.mem_of_getElem? (i := 8) rfl)) rfl rfl rfl rfl rfl rfl (by show 2 + 3 < d + 8; omega) (Nat.le_of_ble_eq_true rfl) (Nat.le_of_ble_eq_true rfl) (Nat.le_of_ble_eq_true rfl) ⟨rfl, Or.inr ⟨hpi, fun z => z.1 c71, rfl⟩⟩
  · refine X_ld rfl rfl rfl rfl ?_
    refine X_vcall c_O l_X10_X10_current (m_current hG (d + 7) w hw hw10) rfl rfl rfl rfl (Nat.le_of_ble_eq_true rfl) (Nat.le_of_ble_eq_true rfl) (by omega) (Nat.le_of_ble_eq_true rfl) (Nat.le_of_ble_eq_true rfl) ?_
    refine X_get f_X10_91 rfl (r_D hw10 rfl) rfl ?_
    refine X_push (v := .int 40) rfl (by decide +kernel) ?_
    refine X_icmp_lt rfl (fun c83 => ?_) (fun c83 => ?_)
    · have hl : s_lm e < 40 := (n_lt hq1 (show (40 : Int32) = nI 40 from rfl) (by omega) (by omega)).mp c83
      refine X_ld rfl rfl rfl rfl ?_
      refine X_vcall c_O l_X10_X10_spareCopy (m_spareCopy hG (d + 4) w hw hw10 hbl) rfl rfl rfl rfl (Nat.le_of_ble_eq_true rfl) (Nat.le_of_ble_eq_true rfl) (by omega) (Nat.le_of_ble_eq_true rfl) (Nat.le_of_ble_eq_true rfl) ?_
      refine X_st rfl rfl rfl ?_
      refine X_push (v := .int 0) rfl (by decide +kernel) ?_
      refine X_st rfl rfl rfl ?_
      refine X_loc (L' := [some (.ref 64), some (.int v0), some (.int v1), some (.int v2), some (.int v3), some (.int v4), some (.ref q), some (.ref (su w)), some (.ref (75 + 20 * s_n10 w)), some (.int 0)]) ⟨rfl, rfl, rfl, rfl, rfl, rfl, rfl, rfl, rfl, rfl, trivial⟩ ?_
      refine X_ld rfl rfl rfl rfl ?_
      refine X_push (v := .int 5) rfl (by decide +kernel) ?_
      refine X_icmp_ge rfl (fun c9 => absurd c9 (by decide)) (fun c9 => ?_)
      clear c9
      refine X_ld rfl rfl rfl rfl ?_
      refine X_ld rfl rfl rfl rfl ?_
      refine X_get f_X10_91 rfl (r_D s_n10_lt updR_eq) (v := .int (nI (s_lm e))) (congrArg Value.int (show (D w) 1 = _ by rw [hq1])) ?_
      refine X_ld rfl rfl rfl rfl ?_
      refine X_ld rfl rfl rfl rfl ?_
      refine X_ld rfl rfl rfl rfl ?_
      refine X_iald rfl (c_B hqo hqq) (by rw [show (0 : Int32) = nI 0 from rfl]; exact vp_in_nI (by omega) (by omega)) (v := .int v0) rfl ?_
      refine X_vcallv (r_D h10 updR_eq) l_X10_X3_putCell (d_putCell hG (d + 6) (s_n10 w) h10 (a := s_lm e) (b := 0) rfl (show (0 : Int32) = nI 0 from rfl) hl (by omega)) rfl rfl rfl rfl (Nat.le_of_ble_eq_true rfl) (Nat.le_of_ble_eq_true rfl) (by omega) (Nat.le_of_ble_eq_true rfl) (Nat.le_of_ble_eq_true rfl) ?_
      refine X_iinc rfl rfl rfl ?_
      refine X_goto rfl ?_
      refine X_loc (L' := [some (.ref 64), some (.int v0), some (.int v1), some (.int v2), some (.int v3), some (.int v4), some (.ref q), some (.ref (su w)), some (.ref (75 + 20 * s_n10 w)), some (.int 1)]) ⟨rfl, rfl, rfl, rfl, rfl, rfl, rfl, rfl, rfl, rfl, trivial⟩ ?_
      refine X_ld rfl rfl rfl rfl ?_
      refine X_push (v := .int 5) rfl (by decide +kernel) ?_
      refine X_icmp_ge rfl (fun c9 => absurd c9 (by decide)) (fun c9 => ?_)
      clear c9
      refine X_ld rfl rfl rfl rfl ?_
      refine X_ld rfl rfl rfl rfl ?_
      refine X_get f_X10_91 rfl (r_D s_n10_lt updR_eq) (v := .int (nI (s_lm e))) (congrArg Value.int (show (upd (D w) (75 + 5 * s_lm e + 0) v0) 1 = _ by rw [updI_ne (show 1 ≠ 75 + 5 * s_lm e + 0 by omega), hq1])) ?_
      refine X_ld rfl rfl rfl rfl ?_
      refine X_ld rfl rfl rfl rfl ?_
      refine X_ld rfl rfl rfl rfl ?_
      refine X_iald rfl (c_B hqo hqq) (by rw [show (1 : Int32) = nI 1 from rfl]; exact vp_in_nI (by omega) (by omega)) (v := .int v1) rfl ?_
      refine X_vcallv (r_D h10 updR_eq) l_X10_X3_putCell (d_putCell hG (d + 6) (s_n10 w) h10 (a := s_lm e) (b := 1) rfl (show (1 : Int32) = nI 1 from rfl) hl (by omega)) rfl rfl rfl rfl (Nat.le_of_ble_eq_true rfl) (Nat.le_of_ble_eq_true rfl) (by omega) (Nat.le_of_ble_eq_true rfl) (Nat.le_of_ble_eq_true rfl) ?_
      refine X_iinc rfl rfl rfl ?_
      refine X_goto rfl ?_
      refine X_loc (L' := [some (.ref 64), some (.int v0), some (.int v1), some (.int v2), some (.int v3), some (.int v4), some (.ref q), some (.ref (su w)), some (.ref (75 + 20 * s_n10 w)), some (.int 2)]) ⟨rfl, rfl, rfl, rfl, rfl, rfl, rfl, rfl, rfl, rfl, trivial⟩ ?_
      refine X_ld rfl rfl rfl rfl ?_
      refine X_push (v := .int 5) rfl (by decide +kernel) ?_
      refine X_icmp_ge rfl (fun c9 => absurd c9 (by decide)) (fun c9 => ?_)
      clear c9
      refine X_ld rfl rfl rfl rfl ?_
      refine X_ld rfl rfl rfl rfl ?_
      refine X_get f_X10_91 rfl (r_D s_n10_lt updR_eq) (v := .int (nI (s_lm e))) (congrArg Value.int (show (upd (upd (D w) (75 + 5 * s_lm e + 0) v0) (75 + 5 * s_lm e + 1) v1) 1 = _ by rw [updI_ne (show 1 ≠ 75 + 5 * s_lm e + 1 by omega), updI_ne (show 1 ≠ 75 + 5 * s_lm e + 0 by omega), hq1])) ?_
      refine X_ld rfl rfl rfl rfl ?_
      refine X_ld rfl rfl rfl rfl ?_
      refine X_ld rfl rfl rfl rfl ?_
      refine X_iald rfl (c_B hqo hqq) (by rw [show (2 : Int32) = nI 2 from rfl]; exact vp_in_nI (by omega) (by omega)) (v := .int v2) rfl ?_
      refine X_vcallv (r_D h10 updR_eq) l_X10_X3_putCell (d_putCell hG (d + 6) (s_n10 w) h10 (a := s_lm e) (b := 2) rfl (show (2 : Int32) = nI 2 from rfl) hl (by omega)) rfl rfl rfl rfl (Nat.le_of_ble_eq_true rfl) (Nat.le_of_ble_eq_true rfl) (by omega) (Nat.le_of_ble_eq_true rfl) (Nat.le_of_ble_eq_true rfl) ?_
      refine X_iinc rfl rfl rfl ?_
      refine X_goto rfl ?_
      refine X_loc (L' := [some (.ref 64), some (.int v0), some (.int v1), some (.int v2), some (.int v3), some (.int v4), some (.ref q), some (.ref (su w)), some (.ref (75 + 20 * s_n10 w)), some (.int 3)]) ⟨rfl, rfl, rfl, rfl, rfl, rfl, rfl, rfl, rfl, rfl, trivial⟩ ?_
      refine X_ld rfl rfl rfl rfl ?_
      refine X_push (v := .int 5) rfl (by decide +kernel) ?_
      refine X_icmp_ge rfl (fun c9 => absurd c9 (by decide)) (fun c9 => ?_)
      clear c9
      refine X_ld rfl rfl rfl rfl ?_
      refine X_ld rfl rfl rfl rfl ?_
      refine X_get f_X10_91 rfl (r_D s_n10_lt updR_eq) (v := .int (nI (s_lm e))) (congrArg Value.int (show (upd (upd (upd (D w) (75 + 5 * s_lm e + 0) v0) (75 + 5 * s_lm e + 1) v1) (75 + 5 * s_lm e + 2) v2) 1 = _ by rw [updI_ne (show 1 ≠ 75 + 5 * s_lm e + 2 by omega), updI_ne (show 1 ≠ 75 + 5 * s_lm e + 1 by omega), updI_ne (show 1 ≠ 75 + 5 * s_lm e + 0 by omega), hq1])) ?_
      refine X_ld rfl rfl rfl rfl ?_
      refine X_ld rfl rfl rfl rfl ?_
      refine X_ld rfl rfl rfl rfl ?_
      refine X_iald rfl (c_B hqo hqq) (by rw [show (3 : Int32) = nI 3 from rfl]; exact vp_in_nI (by omega) (by omega)) (v := .int v3) rfl ?_
      refine X_vcallv (r_D h10 updR_eq) l_X10_X3_putCell (d_putCell hG (d + 6) (s_n10 w) h10 (a := s_lm e) (b := 3) rfl (show (3 : Int32) = nI 3 from rfl) hl (by omega)) rfl rfl rfl rfl (Nat.le_of_ble_eq_true rfl) (Nat.le_of_ble_eq_true rfl) (by omega) (Nat.le_of_ble_eq_true rfl) (Nat.le_of_ble_eq_true rfl) ?_
      refine X_iinc rfl rfl rfl ?_
      refine X_goto rfl ?_
      refine X_loc (L' := [some (.ref 64), some (.int v0), some (.int v1), some (.int v2), some (.int v3), some (.int v4), some (.ref q), some (.ref (su w)), some (.ref (75 + 20 * s_n10 w)), some (.int 4)]) ⟨rfl, rfl, rfl, rfl, rfl, rfl, rfl, rfl, rfl, rfl, trivial⟩ ?_
      refine X_ld rfl rfl rfl rfl ?_
      refine X_push (v := .int 5) rfl (by decide +kernel) ?_
      refine X_icmp_ge rfl (fun c9 => absurd c9 (by decide)) (fun c9 => ?_)
      clear c9
      refine X_ld rfl rfl rfl rfl ?_
      refine X_ld rfl rfl rfl rfl ?_
      refine X_get f_X10_91 rfl (r_D s_n10_lt updR_eq) (v := .int (nI (s_lm e))) (congrArg Value.int (show (upd (upd (upd (upd (D w) (75 + 5 * s_lm e + 0) v0) (75 + 5 * s_lm e + 1) v1) (75 + 5 * s_lm e + 2) v2) (75 + 5 * s_lm e + 3) v3) 1 = _ by rw [updI_ne (show 1 ≠ 75 + 5 * s_lm e + 3 by omega), updI_ne (show 1 ≠ 75 + 5 * s_lm e + 2 by omega), updI_ne (show 1 ≠ 75 + 5 * s_lm e + 1 by omega), updI_ne (show 1 ≠ 75 + 5 * s_lm e + 0 by omega), hq1])) ?_
      refine X_ld rfl rfl rfl rfl ?_
      refine X_ld rfl rfl rfl rfl ?_
      refine X_ld rfl rfl rfl rfl ?_
      refine X_iald rfl (c_B hqo hqq) (by rw [show (4 : Int32) = nI 4 from rfl]; exact vp_in_nI (by omega) (by omega)) (v := .int v4) rfl ?_
      refine X_vcallv (r_D h10 updR_eq) l_X10_X3_putCell (d_putCell hG (d + 6) (s_n10 w) h10 (a := s_lm e) (b := 4) rfl (show (4 : Int32) = nI 4 from rfl) hl (by omega)) rfl rfl rfl rfl (Nat.le_of_ble_eq_true rfl) (Nat.le_of_ble_eq_true rfl) (by omega) (Nat.le_of_ble_eq_true rfl) (Nat.le_of_ble_eq_true rfl) ?_
      refine X_iinc rfl rfl rfl ?_
      refine X_goto rfl ?_
      refine X_loc (L' := [some (.ref 64), some (.int v0), some (.int v1), some (.int v2), some (.int v3), some (.int v4), some (.ref q), some (.ref (su w)), some (.ref (75 + 20 * s_n10 w)), some (.int 5)]) ⟨rfl, rfl, rfl, rfl, rfl, rfl, rfl, rfl, rfl, rfl, trivial⟩ ?_
      refine X_ld rfl rfl rfl rfl ?_
      refine X_push (v := .int 5) rfl (by decide +kernel) ?_
      refine X_icmp_ge rfl (fun c9 => ?_) (fun c9 => absurd (by decide) c9)
      clear c9
      refine X_heap (N' := cset (x_set B q (s_g5c v0 v1 v2 v3 v4)) J bf K tk ts tl tv (updN su (s_n10 w) (su w)) (updR D (s_n10 w) (s_in5 (D w) (s_lm e) v0 v1 v2 v3 v4))) rfl ?_
      refine X_ld rfl rfl rfl rfl ?_
      refine X_dup rfl rfl ?_
      refine X_get f_X10_91 rfl (r_D s_n10_lt updR_eq) (v := .int (nI (s_lm e))) (congrArg Value.int (show (s_in5 (D w) (s_lm e) v0 v1 v2 v3 v4) 1 = _ by unfold s_in5; rw [updI_ne (show 1 ≠ 75 + 5 * s_lm e + 4 by omega), updI_ne (show 1 ≠ 75 + 5 * s_lm e + 3 by omega), updI_ne (show 1 ≠ 75 + 5 * s_lm e + 2 by omega), updI_ne (show 1 ≠ 75 + 5 * s_lm e + 1 by omega), updI_ne (show 1 ≠ 75 + 5 * s_lm e + 0 by omega), hq1])) ?_
      refine X_push (v := .int 1) rfl (by decide +kernel) ?_
      refine X_bin rfl rfl ?_
      refine X_put f_X10_91 rfl (r_D s_n10_lt updR_eq) ⟨rfl, rfl⟩ ?_
      refine X_heap (w_D1 s_n10_lt) ?_
      refine X_ld rfl rfl rfl rfl ?_
      refine X_vcallv c_O l_X10_X10_takeSpare (m_takeSpare hG (d + 6) w hw hw10) rfl rfl rfl rfl (Nat.le_of_ble_eq_true rfl) (Nat.le_of_ble_eq_true rfl) (by omega) (Nat.le_of_ble_eq_true rfl) (Nat.le_of_ble_eq_true rfl) ?_
      refine X_ld rfl rfl rfl rfl ?_
      refine X_vcall c_O l_X10_X10_current (m_current hG (d + 7) (s_n10 w) (show (upd (upd J 5 (nI (s_n10 w))) 6 (x_min (J 6 + 1) 8)) 5 = nI (s_n10 w) by rw [updI_ne (show 5 ≠ 6 by decide), updI_eq]) s_n10_lt) rfl rfl rfl rfl (Nat.le_of_ble_eq_true rfl) (Nat.le_of_ble_eq_true rfl) (by omega) (Nat.le_of_ble_eq_true rfl) (Nat.le_of_ble_eq_true rfl) ?_
      refine X_get f_X10_91 rfl (r_D s_n10_lt updR_eq) rfl ?_
      refine X_cells (N' := cset B (upd (upd J 5 (nI (s_n10 w))) 6 (x_min (J 6 + 1) 8)) bf K tk ts tl tv (updN su (s_n10 w) (su w)) (updR D (s_n10 w) (s_insc (D w) (s_lm e) v0 v1 v2 v3 v4))) (y_le.c (y_le_set hqB)) ?_
      exact X_iret rfl rfl ⟨⟨hpi, c71, c83⟩, rfl, congrArg (fun q => some (Value.int q)) updI_eq⟩ (Nat.le_of_ble_eq_true rfl) (Nat.le_of_ble_eq_true rfl)
    · refine X_cells (N' := cset B J bf K tk ts tl tv su D) (y_le.c (y_le_set hqB)) ?_
      exact X_throwS lt_ise (hX (RX10, 247, "there is no place for a row") (List.mem_of_getElem? (i := 8) rfl)) rfl rfl rfl rfl rfl rfl (by show 2 + 3 < d + 8; omega) (Nat.le_of_ble_eq_true rfl) (Nat.le_of_ble_eq_true rfl) (Nat.le_of_ble_eq_true rfl) ⟨rfl, Or.inr ⟨hpi, fun z => c83 z.2, rfl⟩⟩

