/-! ===== the law's wrappers of methods that change something, by program (wip/whole/gen_c98.py) ===== -/
/-- what a change leaves, or a call that throws -/
def L_CH (F : XH) (F2 : (Nat → Int32) → XH) (B : XH) (t o : Nat) (r : Option (Nat → Int32)) (N : XH) : Prop := match r with
  | none => N = F
  | some e' => ∃ c', L_lv B t e' c' o ∧ N = F2 c'
theorem L_CH0 {F : XH} {F2 : (Nat → Int32) → XH} {B : XH} {t o : Nat} {r : Option (Nat → Int32)} (h : r = none) : L_CH F F2 B t o r F := by rw [h]; exact (rfl : F = F)
theorem L_CH1 {F : XH} {F2 : (Nat → Int32) → XH} {B : XH} {t o : Nat} {r : Option (Nat → Int32)} {e' c' : Nat → Int32} (h : r = some e') (hl : L_lv B t e' c' o) : L_CH F F2 B t o r (F2 c') := by rw [h]; exact ⟨c', hl, rfl⟩
/-- the class's numbers after named -/
def s_nmJ (J : Nat → Int32) (b : Nat) (x : Int32) : Nat → Int32 := if (0 : Int32) ≤ x ∧ x ≤ nI b then upd J 1 0 else J
theorem ga_run {t : Nat} {B : XH} {e c gv : Nat → Int32} {o s : Nat} (h : L_lv B t e c o) (hs : s < s_sm e) : L_lv B (t + 1) (s_run e gv s) (s_exc e c gv s) o := by
  have hb := s_run_bun (gv := gv) h.1.1 hs h.2.1
  exact ⟨s_run_inv h.1 hs h.2.1, hb.2.2.2, s_bun_st h.1.1 hb h.2.2.1, fun q hq => by rw [s_exc_lo (by omega)]; exact h.2.2.2 q hq⟩
theorem ga_ins {t : Nat} {B : XH} {e c : Nat → Int32} {v0 v1 v2 v3 v4 : Int32} {o : Nat} (h : L_lv B t e c o) (hl : e 1 < 40) (hc : s_icells e v0 v1 v2 v3 v4) : L_lv B t (s_ins e v0 v1 v2 v3 v4) (s_insc c (s_lm e) v0 v1 v2 v3 v4) o := by
  have h4 := h.1.1.lmE.2
  have hl2 : s_lm e < 40 := by
    rw [h.1.1.lmE.1, show (40 : Int32) = nI 40 from rfl, nI_ltI (by omega) (by omega)] at hl
    exact hl
  have hst : s_stc e (s_ins e v0 v1 v2 v3 v4) := fun k hk => (s_ins_o (by omega) (by omega)).symm
  exact ⟨s_ins_inv h.1 hl2 hc, s_ins_rel h.1 hl2 h.2.1, hst.st h.1.1.cmE.2 h.1.1.smE.2 h.2.2.1, fun q hq => by rw [s_insc_o (by omega) (by omega)]; exact h.2.2.2 q hq⟩
theorem ga_del {t : Nat} {B : XH} {e c : Nat → Int32} {o x : Nat} (h : L_lv B t e c o) (hx : x < s_lm e) : L_lv B t (s_del e x) (s_delc c x (s_lm e)) o := by
  have h4 := h.1.1.lmE.2
  have hst : s_stc e (s_del e x) := fun k hk => (s_del_o (by omega) hx h4 (by omega)).symm
  exact ⟨s_del_inv h.1 hx, s_del_rel h.1 hx h.2.1, hst.st h.1.1.cmE.2 h.1.1.smE.2 h.2.2.1, fun q hq => by rw [s_delc_o (by omega) hx h4 (by omega)]; exact h.2.2.2 q hq⟩
theorem ga_sti {t : Nat} {B : XH} {e c : Nat → Int32} {o j : Nat} {z : Bool} (h : L_lv B t e c o) (hj : j < s_cm e) : L_lv B t (s_sti e j z) (s_stic c j z) o := by
  have h5 := h.1.1.cmE.2
  have hst : s_stc e (s_sti e j z) := fun k hk => (s_sti_o (by omega) (by omega)).symm
  refine ⟨s_sti_inv h.1 hj, s_sti_rel h.1 hj h.2.1, hst.st h.1.1.cmE.2 h.1.1.smE.2 h.2.2.1, fun q hq => ?_⟩
  by_cases e1 : q = j
  · rw [e1, s_stic_x]; exact b2_01 z
  · rw [s_stic_o (by omega) (by omega)]; exact h.2.2.2 q hq
theorem ga_ana {t : Nat} {B : XH} {e c : Nat → Int32} {o : Nat} (h : L_lv B t e c o) : L_lv B t (s_ana e) (upd (s_look c (s_lm e) (s_cm e)) 3 (c 3 + 1)) o := by
  have h5 := h.1.1.cmE.2
  have hst : s_stc e (s_ana e) := s_stc_upd (s_ldd_stc h5) (by omega)
  refine ⟨s_ana_inv h.1, s_ana_rel h.1 h.2.1, hst.st h.1.1.cmE.2 h.1.1.smE.2 h.2.2.1, fun q hq => ?_⟩
  rw [updI_ne (by omega), s_look_o (by omega) _ (fun i hi x x1 x2 => by omega)]
  exact h.2.2.2 q hq
theorem L_lv.up {B : XH} {t : Nat} {e c : Nat → Int32} {o : Nat} (h : L_lv B t e c o) : L_lv B (t + 1) e c o := h.mono (fun _ _ h => h) (by omega)
theorem W_named {G : XE} (hG : x_Kn G) (hX : x_KX G) (hN : x_KN G) {B : XH} {n : Nat} {xs : Nat → Int32} (hB : L_B B n xs) {ov : Int64} {I : Nat → Int32} {T : Int64} {S : Nat → Nat → Int32} {rd tx gv : Nat → Int32} {P : Nat → Bool} {J bf K tk ts : Nat → Int32} {tl : Int64} {tv : Nat → Int64} {su : Nat → Nat} {D : Nat → Nat → Int32} (w : Nat) (hw : J 5 = nI w) (hw10 : w < 10) {t : Nat} {e : Nat → Int32} (hlv : L_lv B t e (D w) (su w)) {x : Int32} {b : Nat} (hb : J 1 = nI b) (hb8 : b ≤ 800) (hr : s_rtx tx bf b) : x_M G mL_named 60 1 6 [.ref 64, .int x, .ref 281] (cset (L_X B ov I T S rd tx gv P) J bf K tk ts tl tv su D) (L_QW (fun o N => N = cset (L_X B o I T S rd tx gv P) (s_nmJ J b x) bf K tk ts tl tv su D) (a_named e tx b x)) x_noX := by
  refine X_MH hG okL_named rfl (L := [some (.ref 64), some (.int x), some (.ref 281), none]) rfl (Nat.le_of_ble_eq_true rfl) (fun ad0 nb0 => ?_)
  have hX0 := L_X0 (ov := ov) (I := I) (T := T) (S := S) (rd := rd) (tx := tx) (gv := gv) (P := P) hB
  have hst := y_le.st (L_le (ov := ov) (I := I) (T := T) (S := S) (rd := rd) (tx := tx) (gv := gv) (P := P) hB.2.2.1) hlv.2.2.1
  have hwf := hlv.1.1
  have hrel := hlv.2.1
  refine X_ld rfl rfl rfl rfl ?_
  refine X_push (v := .int 0) rfl (by decide +kernel) ?_
  refine X_ld rfl rfl rfl rfl ?_
  refine X_ld rfl rfl rfl rfl ?_
  refine X_callV (T := TX10) (nf := 7) l_L_X10_named (m_named hG hX 50 w hw hw10 hst hb hb8) rfl rfl c_O rfl rfl (Nat.le_of_ble_eq_true rfl) (x_fit_of (Nat.le_of_ble_eq_true rfl) (by omega) (Nat.le_of_ble_eq_true rfl) (Nat.le_of_ble_eq_true rfl)) (fun N9 E h => ?_) (fun N9 r h => ?_)
  · obtain ⟨hp, rfl, rfl⟩ := h
    refine X_catch (name := "java/lang/IllegalArgumentException") (pre := []) (a := (0, 9, 12, 13)) (suf := []) (y_none0 hX0.1) rfl (fun z hz => nomatch hz) rfl (by decide) (x_in 641 (by decide +kernel) rfl) (List.mem_of_getElem? (i := 490) (by decide +kernel)) (fun q0 => ?_)
    refine X_st rfl rfl rfl ?_
    refine X_push (v := .int 1) rfl (by decide +kernel) ?_
    exact X_iret rfl rfl ⟨ov, by rw [show s_nmJ J b x = J from if_neg (fun q => hp (by rw [hb]; exact q))], by rw [show a_named e tx b x = (1, 0) from if_neg (fun q => hp (by rw [hb]; exact q))], fun q => absurd q (by rw [show a_named e tx b x = (1, 0) from if_neg (fun q => hp (by rw [hb]; exact q))]; decide)⟩ (Nat.le_of_ble_eq_true rfl) (Nat.le_of_ble_eq_true rfl)
  · obtain ⟨hp, rfl, rfl⟩ := h
    rw [hb] at hp
    have hag : a_named e tx b x = (0, s_first (fun s => decide (s_nmn e (275 + 30 * s) 8 = s_nin bf 0 (n_ x))) (s_sm e)) := by
      obtain ⟨L, L1, L2⟩ := m_rngc rfl (by omega) hp
      rw [ga_named hlv.1 hr (show n_ x ≤ b by rw [L2, n_nI (by omega)]; exact L1)]
      exact if_pos hp
    refine X_un rfl rfl ?_
    refine X_lout rfl ?_
    refine X_goto rfl ?_
    refine X_push (v := .int 0) rfl (by decide +kernel) ?_
    exact X_iret rfl rfl ⟨_, by rw [show s_nmJ J b x = upd J 1 0 from if_pos hp], by rw [hag], fun _ => by rw [hag]⟩ (Nat.le_of_ble_eq_true rfl) (Nat.le_of_ble_eq_true rfl)
theorem ga_run1 {t : Nat} {e : Nat → Int32} {x v0 v1 v2 v3 : Int32} (hi : s_inv t e) (h1 : (0 : Int32) ≤ x ∧ x < nI (s_sm e)) (h : s_vgr e (n_ x) v0 v1 v2 v3) : a_run e x v0 v1 v2 v3 = (0, s_cnt e (s_gv v0 v1 v2 v3) (n_ x) (s_lm e), some (s_run e (s_gv v0 v1 v2 v3) (n_ x))) := (if_pos ((g_st hi.1).mp h1)).trans (if_pos ((g_vok (g_hts hi h1)).mp h))
theorem ga_run2 {t : Nat} {e : Nat → Int32} {x v0 v1 v2 v3 : Int32} (hi : s_inv t e) (h : ¬ ((0 : Int32) ≤ x ∧ x < nI (s_sm e))) : a_run e x v0 v1 v2 v3 = (1, 0, none) := if_neg (fun q => h ((g_st hi.1).mpr q))
theorem ga_run3 {t : Nat} {e : Nat → Int32} {x v0 v1 v2 v3 : Int32} (hi : s_inv t e) (h1 : (0 : Int32) ≤ x ∧ x < nI (s_sm e)) (h : ¬ s_vgr e (n_ x) v0 v1 v2 v3) : a_run e x v0 v1 v2 v3 = (2, 0, none) := (if_pos ((g_st hi.1).mp h1)).trans (if_neg (fun q => h ((g_vok (g_hts hi h1)).mpr q)))
theorem W_run {G : XE} (hG : x_Kn G) (hX : x_KX G) (hN : x_KN G) {B : XH} {n : Nat} {xs : Nat → Int32} (hB : L_B B n xs) {ov : Int64} {I : Nat → Int32} {T : Int64} {S : Nat → Nat → Int32} {rd tx gv : Nat → Int32} {P : Nat → Bool} {J bf K tk ts : Nat → Int32} {tl : Int64} {tv : Nat → Int64} {su : Nat → Nat} {D : Nat → Nat → Int32} (w : Nat) (hw : J 5 = nI w) (hw10 : w < 10) {t : Nat} {e : Nat → Int32} (hlv : L_lv B t e (D w) (su w)) {x v0 v1 v2 v3 : Int32} (hK : x_KS G) (ht : t ≤ 512) : x_M G mL_run 60 6 34 [.ref 64, .int x, .int v0, .int v1, .int v2, .int v3, .ref 281] (cset (L_X B ov I T S rd tx gv P) J bf K tk ts tl tv su D) (L_QW (fun o N => L_CH (cset (L_X B o I T S rd tx gv P) J bf K tk ts tl tv su D) (fun c2 => cset (L_X B o I T S rd tx gv P) (upd (upd J 5 (nI (s_n10 w))) 6 (x_min (J 6 + 1) 8)) bf K tk ts tl tv (updN su (s_n10 w) (su w)) (updR D (s_n10 w) c2)) B (t + 1) (su w) (a_run e x v0 v1 v2 v3).2.2 N) ((a_run e x v0 v1 v2 v3).1, (a_run e x v0 v1 v2 v3).2.1)) x_noX := by
  refine X_MH hG okL_run rfl (L := [some (.ref 64), some (.int x), some (.int v0), some (.int v1), some (.int v2), some (.int v3), some (.ref 281), none]) rfl (Nat.le_of_ble_eq_true rfl) (fun ad0 nb0 => ?_)
  have hX0 := L_X0 (ov := ov) (I := I) (T := T) (S := S) (rd := rd) (tx := tx) (gv := gv) (P := P) hB
  have hst := y_le.st (L_le (ov := ov) (I := I) (T := T) (S := S) (rd := rd) (tx := tx) (gv := gv) (P := P) hB.2.2.1) hlv.2.2.1
  have hwf := hlv.1.1
  have hrel := hlv.2.1
  refine X_ld rfl rfl rfl rfl ?_
  refine X_push (v := .int 0) rfl (by decide +kernel) ?_
  refine X_ld rfl rfl rfl rfl ?_
  refine X_ld rfl rfl rfl rfl ?_
  refine X_ld rfl rfl rfl rfl ?_
  refine X_ld rfl rfl rfl rfl ?_
  refine X_ld rfl rfl rfl rfl ?_
  refine X_ld rfl rfl rfl rfl ?_
  refine X_callV (T := TX10) (nf := 7) l_L_X10_run (m_run hG hX hK 0 w hw hw10 hX0.1 hst hwf hrel hlv.2.2.2 (L_X1 hB) (fun s gv hs => s_hov ht hlv.1 hs)) rfl rfl c_O rfl rfl (Nat.le_of_ble_eq_true rfl) (x_fit_of (Nat.le_of_ble_eq_true rfl) (by omega) (Nat.le_of_ble_eq_true rfl) (Nat.le_of_ble_eq_true rfl)) (fun N9 E h => ?_) (fun N9 r h => ?_)
  · obtain ⟨rfl, h⟩ := h
    rcases h with ⟨h1, rfl⟩ | ⟨h1, h2, rfl⟩
    · refine X_catch (name := "java/lang/IndexOutOfBoundsException") (pre := []) (a := (0, 16, 19, 22)) (suf := [(0, 16, 23, 13)]) (y_none0 hX0.1) rfl (fun z hz => nomatch hz) rfl (by decide) (x_in 1036 (by decide +kernel) rfl) (List.mem_of_getElem? (i := 565) (by decide +kernel)) (fun q0 => ?_)
      refine X_st rfl rfl rfl ?_
      refine X_push (v := .int 1) rfl (by decide +kernel) ?_
      exact X_iret rfl rfl ⟨ov, L_CH0 (by rw [ga_run2 hlv.1 h1]), by rw [ga_run2 hlv.1 h1], fun q => absurd q (by rw [ga_run2 hlv.1 h1]; decide)⟩ (Nat.le_of_ble_eq_true rfl) (Nat.le_of_ble_eq_true rfl)
    · refine X_catch (name := "java/lang/IllegalArgumentException") (pre := [(0, 16, 19, 22)]) (a := (0, 16, 23, 13)) (suf := []) (y_none0 hX0.1) rfl (fun z hz => by rw [List.mem_singleton.mp hz]; exact ⟨by decide, "java/lang/IndexOutOfBoundsException", x_in 1036 (by decide +kernel) rfl, hN.1⟩) rfl (by decide) (x_in 641 (by decide +kernel) rfl) (List.mem_of_getElem? (i := 490) (by decide +kernel)) (fun q0 => ?_)
      refine X_st rfl rfl rfl ?_
      refine X_push (v := .int 2) rfl (by decide +kernel) ?_
      exact X_iret rfl rfl ⟨ov, L_CH0 (by rw [ga_run3 hlv.1 h1 h2]), by rw [ga_run3 hlv.1 h1 h2], fun q => absurd q (by rw [ga_run3 hlv.1 h1 h2]; decide)⟩ (Nat.le_of_ble_eq_true rfl) (Nat.le_of_ble_eq_true rfl)
  · obtain ⟨hp, rfl, rfl⟩ := h
    refine X_un rfl rfl ?_
    refine X_lout rfl ?_
    refine X_goto rfl ?_
    refine X_push (v := .int 0) rfl (by decide +kernel) ?_
    exact X_iret rfl rfl ⟨_, L_CH1 (by rw [ga_run1 hlv.1 hp.1 hp.2]) (ga_run hlv (g_ix (by have := hwf.smE.2; omega) hp.1)), by rw [ga_run1 hlv.1 hp.1 hp.2], fun _ => by rw [ga_run1 hlv.1 hp.1 hp.2]⟩ (Nat.le_of_ble_eq_true rfl) (Nat.le_of_ble_eq_true rfl)
theorem ga_ins1 {t : Nat} {e c : Nat → Int32} {v0 v1 v2 v3 v4 : Int32} (hi : s_inv t e) (hr : s_rel e c) (h1 : s_ivr e v0 v1 v2 v3 v4) (h : ¬ e 0 = 0 ∧ c 1 < 40) : a_insert e v0 v1 v2 v3 v4 = (0, nI (s_lm e) + 1, some (s_ins e v0 v1 v2 v3 v4)) := by
  rw [← hi.1.lmE.1]
  exact (if_pos ((g_ivr hi).mp h1)).trans (if_pos ((g_room hi hr).mp h))
theorem ga_ins2 {t : Nat} {e : Nat → Int32} {v0 v1 v2 v3 v4 : Int32} (hi : s_inv t e) (h : ¬ s_ivr e v0 v1 v2 v3 v4) : a_insert e v0 v1 v2 v3 v4 = (1, 0, none) := if_neg (fun q => h ((g_ivr hi).mpr q))
theorem ga_ins3 {t : Nat} {e c : Nat → Int32} {v0 v1 v2 v3 v4 : Int32} (hi : s_inv t e) (hr : s_rel e c) (h1 : s_ivr e v0 v1 v2 v3 v4) (h : ¬ (¬ e 0 = 0 ∧ c 1 < 40)) : a_insert e v0 v1 v2 v3 v4 = (2, 0, none) := (if_pos ((g_ivr hi).mp h1)).trans (if_neg (fun q => h ((g_room hi hr).mpr q)))
theorem W_insert {G : XE} (hG : x_Kn G) (hX : x_KX G) (hN : x_KN G) {B : XH} {n : Nat} {xs : Nat → Int32} (hB : L_B B n xs) {ov : Int64} {I : Nat → Int32} {T : Int64} {S : Nat → Nat → Int32} {rd tx gv : Nat → Int32} {P : Nat → Bool} {J bf K tk ts : Nat → Int32} {tl : Int64} {tv : Nat → Int64} {su : Nat → Nat} {D : Nat → Nat → Int32} (w : Nat) (hw : J 5 = nI w) (hw10 : w < 10) {t : Nat} {e : Nat → Int32} (hlv : L_lv B t e (D w) (su w)) {v0 v1 v2 v3 v4 : Int32} : x_M G mL_insert 60 7 41 [.ref 64, .int v0, .int v1, .int v2, .int v3, .int v4, .ref 281] (cset (L_X B ov I T S rd tx gv P) J bf K tk ts tl tv su D) (L_QW (fun o N => L_CH (cset (L_X B o I T S rd tx gv P) J bf K tk ts tl tv su D) (fun c2 => cset (L_X B o I T S rd tx gv P) (upd (upd J 5 (nI (s_n10 w))) 6 (x_min (J 6 + 1) 8)) bf K tk ts tl tv (updN su (s_n10 w) (su w)) (updR D (s_n10 w) c2)) B (t + 1) (su w) (a_insert e v0 v1 v2 v3 v4).2.2 N) ((a_insert e v0 v1 v2 v3 v4).1, (a_insert e v0 v1 v2 v3 v4).2.1)) x_noX := by
  refine X_MH hG okL_insert rfl (L := [some (.ref 64), some (.int v0), some (.int v1), some (.int v2), some (.int v3), some (.int v4), some (.ref 281), none]) rfl (Nat.le_of_ble_eq_true rfl) (fun ad0 nb0 => ?_)
  have hX0 := L_X0 (ov := ov) (I := I) (T := T) (S := S) (rd := rd) (tx := tx) (gv := gv) (P := P) hB
  have hst := y_le.st (L_le (ov := ov) (I := I) (T := T) (S := S) (rd := rd) (tx := tx) (gv := gv) (P := P) hB.2.2.1) hlv.2.2.1
  have hwf := hlv.1.1
  have hrel := hlv.2.1
  refine X_ld rfl rfl rfl rfl ?_
  refine X_push (v := .int 0) rfl (by decide +kernel) ?_
  refine X_ld rfl rfl rfl rfl ?_
  refine X_ld rfl rfl rfl rfl ?_
  refine X_ld rfl rfl rfl rfl ?_
  refine X_ld rfl rfl rfl rfl ?_
  refine X_ld rfl rfl rfl rfl ?_
  refine X_ld rfl rfl rfl rfl ?_
  refine X_callV (T := TX10) (nf := 7) l_L_X10_insert (m_insert hG hX 50 w hw hw10 hX0.1 hst hwf hrel hlv.2.2.2) rfl rfl c_O rfl rfl (Nat.le_of_ble_eq_true rfl) (x_fit_of (Nat.le_of_ble_eq_true rfl) (by omega) (Nat.le_of_ble_eq_true rfl) (Nat.le_of_ble_eq_true rfl)) (fun N9 E h => ?_) (fun N9 r h => ?_)
  · obtain ⟨rfl, h⟩ := h
    rcases h with ⟨h1, rfl⟩ | ⟨h1, h2, rfl⟩
    · refine X_catch (name := "java/lang/IllegalArgumentException") (pre := []) (a := (0, 16, 19, 13)) (suf := [(0, 16, 23, 66)]) (y_none0 hX0.1) rfl (fun z hz => nomatch hz) rfl (by decide) (x_in 641 (by decide +kernel) rfl) (List.mem_of_getElem? (i := 490) (by decide +kernel)) (fun q0 => ?_)
      refine X_st rfl rfl rfl ?_
      refine X_push (v := .int 1) rfl (by decide +kernel) ?_
      exact X_iret rfl rfl ⟨ov, L_CH0 (by rw [ga_ins2 hlv.1 h1]), by rw [ga_ins2 hlv.1 h1], fun q => absurd q (by rw [ga_ins2 hlv.1 h1]; decide)⟩ (Nat.le_of_ble_eq_true rfl) (Nat.le_of_ble_eq_true rfl)
    · refine X_catch (name := "java/lang/IllegalStateException") (pre := [(0, 16, 19, 13)]) (a := (0, 16, 23, 66)) (suf := []) (y_none0 hX0.1) rfl (fun z hz => by rw [List.mem_singleton.mp hz]; exact ⟨by decide, "java/lang/IllegalArgumentException", x_in 641 (by decide +kernel) rfl, hN.2⟩) rfl (by decide) (x_in 1218 (by decide +kernel) rfl) (List.mem_of_getElem? (i := 1225) (by decide +kernel)) (fun q0 => ?_)
      refine X_st rfl rfl rfl ?_
      refine X_push (v := .int 2) rfl (by decide +kernel) ?_
      exact X_iret rfl rfl ⟨ov, L_CH0 (by rw [ga_ins3 hlv.1 hrel h1 h2]), by rw [ga_ins3 hlv.1 hrel h1 h2], fun q => absurd q (by rw [ga_ins3 hlv.1 hrel h1 h2]; decide)⟩ (Nat.le_of_ble_eq_true rfl) (Nat.le_of_ble_eq_true rfl)
  · obtain ⟨hp, rfl, rfl⟩ := h
    refine X_un rfl rfl ?_
    refine X_lout rfl ?_
    refine X_goto rfl ?_
    refine X_push (v := .int 0) rfl (by decide +kernel) ?_
    exact X_iret rfl rfl ⟨_, L_CH1 (by rw [ga_ins1 hlv.1 hrel hp.1 hp.2]) ((ga_ins hlv ((g_room hlv.1 hrel).mp hp.2).2 ((g_ivr hlv.1).mp hp.1)).up), by rw [ga_ins1 hlv.1 hrel hp.1 hp.2], fun _ => by rw [ga_ins1 hlv.1 hrel hp.1 hp.2]⟩ (Nat.le_of_ble_eq_true rfl) (Nat.le_of_ble_eq_true rfl)
theorem ga_del1 {e c : Nat → Int32} {x : Int32} (hwf : s_wf e) (hr : s_rel e c) (h : (0 : Int32) ≤ x ∧ x < c 1) : a_delete e x = (0, nI (s_lm e - 1), some (s_del e (n_ x))) := if_pos ((g_lm hwf hr).mp h)
theorem ga_del2 {e c : Nat → Int32} {x : Int32} (hwf : s_wf e) (hr : s_rel e c) (h : ¬ ((0 : Int32) ≤ x ∧ x < c 1)) : a_delete e x = (1, 0, none) := if_neg (fun q => h ((g_lm hwf hr).mpr q))
theorem W_delete {G : XE} (hG : x_Kn G) (hX : x_KX G) (hN : x_KN G) {B : XH} {n : Nat} {xs : Nat → Int32} (hB : L_B B n xs) {ov : Int64} {I : Nat → Int32} {T : Int64} {S : Nat → Nat → Int32} {rd tx gv : Nat → Int32} {P : Nat → Bool} {J bf K tk ts : Nat → Int32} {tl : Int64} {tv : Nat → Int64} {su : Nat → Nat} {D : Nat → Nat → Int32} (w : Nat) (hw : J 5 = nI w) (hw10 : w < 10) {t : Nat} {e : Nat → Int32} (hlv : L_lv B t e (D w) (su w)) {x : Int32} : x_M G mL_delete 60 1 6 [.ref 64, .int x, .ref 281] (cset (L_X B ov I T S rd tx gv P) J bf K tk ts tl tv su D) (L_QW (fun o N => L_CH (cset (L_X B o I T S rd tx gv P) J bf K tk ts tl tv su D) (fun c2 => cset (L_X B o I T S rd tx gv P) (upd (upd J 5 (nI (s_n10 w))) 6 (x_min (J 6 + 1) 8)) bf K tk ts tl tv (updN su (s_n10 w) (su w)) (updR D (s_n10 w) c2)) B (t + 1) (su w) (a_delete e x).2.2 N) ((a_delete e x).1, (a_delete e x).2.1)) x_noX := by
  refine X_MH hG okL_delete rfl (L := [some (.ref 64), some (.int x), some (.ref 281), none]) rfl (Nat.le_of_ble_eq_true rfl) (fun ad0 nb0 => ?_)
  have hX0 := L_X0 (ov := ov) (I := I) (T := T) (S := S) (rd := rd) (tx := tx) (gv := gv) (P := P) hB
  have hst := y_le.st (L_le (ov := ov) (I := I) (T := T) (S := S) (rd := rd) (tx := tx) (gv := gv) (P := P) hB.2.2.1) hlv.2.2.1
  have hwf := hlv.1.1
  have hrel := hlv.2.1
  refine X_ld rfl rfl rfl rfl ?_
  refine X_push (v := .int 0) rfl (by decide +kernel) ?_
  refine X_ld rfl rfl rfl rfl ?_
  refine X_ld rfl rfl rfl rfl ?_
  refine X_callV (T := TX10) (nf := 7) l_L_X10_delete (m_delete hG hX 50 w hw hw10 hst hwf hrel hlv.2.2.2) rfl rfl c_O rfl rfl (Nat.le_of_ble_eq_true rfl) (x_fit_of (Nat.le_of_ble_eq_true rfl) (by omega) (Nat.le_of_ble_eq_true rfl) (Nat.le_of_ble_eq_true rfl)) (fun N9 E h => ?_) (fun N9 r h => ?_)
  · obtain ⟨hp, rfl, rfl⟩ := h
    refine X_catch (name := "java/lang/IndexOutOfBoundsException") (pre := []) (a := (0, 9, 12, 22)) (suf := []) (y_none0 hX0.1) rfl (fun z hz => nomatch hz) rfl (by decide) (x_in 1036 (by decide +kernel) rfl) (List.mem_of_getElem? (i := 565) (by decide +kernel)) (fun q0 => ?_)
    refine X_st rfl rfl rfl ?_
    refine X_push (v := .int 1) rfl (by decide +kernel) ?_
    exact X_iret rfl rfl ⟨ov, L_CH0 (by rw [ga_del2 hwf hrel hp]), by rw [ga_del2 hwf hrel hp], fun q => absurd q (by rw [ga_del2 hwf hrel hp]; decide)⟩ (Nat.le_of_ble_eq_true rfl) (Nat.le_of_ble_eq_true rfl)
  · obtain ⟨hp, rfl, rfl⟩ := h
    refine X_un rfl rfl ?_
    refine X_lout rfl ?_
    refine X_goto rfl ?_
    refine X_push (v := .int 0) rfl (by decide +kernel) ?_
    exact X_iret rfl rfl ⟨_, L_CH1 (by rw [ga_del1 hwf hrel hp]) ((ga_del hlv (g_ix (by have := hwf.lmE.2; omega) (by rw [← hwf.lmE.1, hrel.1.1]; exact hp))).up), by rw [ga_del1 hwf hrel hp], fun _ => by rw [ga_del1 hwf hrel hp]⟩ (Nat.le_of_ble_eq_true rfl) (Nat.le_of_ble_eq_true rfl)
theorem ga_sti1 {e c : Nat → Int32} {x : Int32} {z : Bool} (hwf : s_wf e) (hr : s_rel e c) (h : (0 : Int32) ≤ x ∧ x < e 0) : a_setIndex e x z = (0, (if c (10 + 13 * n_ x + 9) = b2 z then 0 else 1), some (s_sti e (n_ x) z)) := by
  have hm5 := hwf.cmE.2
  have hj : n_ x < s_cm e := g_ix (by omega) (by rw [← hwf.cmE.1]; exact h)
  have e1 : s_col e (n_ x) 9 = c (10 + 13 * n_ x + 9) := hr.2.1 _ hj 9 (by omega) (by omega)
  rw [← e1]
  exact if_pos ((g_cm hwf).mp h)
theorem ga_sti2 {e : Nat → Int32} {x : Int32} {z : Bool} (hwf : s_wf e) (h : ¬ ((0 : Int32) ≤ x ∧ x < e 0)) : a_setIndex e x z = (1, 0, none) := if_neg (fun q => h ((g_cm hwf).mpr q))
theorem W_setIndex {G : XE} (hG : x_Kn G) (hX : x_KX G) (hN : x_KN G) {B : XH} {n : Nat} {xs : Nat → Int32} (hB : L_B B n xs) {ov : Int64} {I : Nat → Int32} {T : Int64} {S : Nat → Nat → Int32} {rd tx gv : Nat → Int32} {P : Nat → Bool} {J bf K tk ts : Nat → Int32} {tl : Int64} {tv : Nat → Int64} {su : Nat → Nat} {D : Nat → Nat → Int32} (w : Nat) (hw : J 5 = nI w) (hw10 : w < 10) {t : Nat} {e : Nat → Int32} (hlv : L_lv B t e (D w) (su w)) {x : Int32} {z : Bool} : x_M G mL_setIndex 60 1 6 [.ref 64, .int x, .int (b2 z), .ref 281] (cset (L_X B ov I T S rd tx gv P) J bf K tk ts tl tv su D) (L_QW (fun o N => L_CH (cset (L_X B o I T S rd tx gv P) J bf K tk ts tl tv su D) (fun c2 => cset (L_X B o I T S rd tx gv P) (upd (upd J 5 (nI (s_n10 w))) 6 (x_min (J 6 + 1) 8)) bf K tk ts tl tv (updN su (s_n10 w) (su w)) (updR D (s_n10 w) c2)) B (t + 1) (su w) (a_setIndex e x z).2.2 N) ((a_setIndex e x z).1, (a_setIndex e x z).2.1)) x_noX := by
  refine X_MH hG okL_setIndex rfl (L := [some (.ref 64), some (.int x), some (.int (b2 z)), some (.ref 281), none]) rfl (Nat.le_of_ble_eq_true rfl) (fun ad0 nb0 => ?_)
  have hX0 := L_X0 (ov := ov) (I := I) (T := T) (S := S) (rd := rd) (tx := tx) (gv := gv) (P := P) hB
  have hst := y_le.st (L_le (ov := ov) (I := I) (T := T) (S := S) (rd := rd) (tx := tx) (gv := gv) (P := P) hB.2.2.1) hlv.2.2.1
  have hwf := hlv.1.1
  have hrel := hlv.2.1
  refine X_ld rfl rfl rfl rfl ?_
  refine X_push (v := .int 0) rfl (by decide +kernel) ?_
  refine X_ld rfl rfl rfl rfl ?_
  refine X_ld rfl rfl rfl rfl ?_
  refine X_ld rfl rfl rfl rfl ?_
  refine X_callV (T := TX10) (nf := 7) l_L_X10_setIndex (m_setIndex hG hX 50 w hw hw10 hst hwf hrel z hlv.2.2.2) rfl rfl c_O rfl rfl (Nat.le_of_ble_eq_true rfl) (x_fit_of (Nat.le_of_ble_eq_true rfl) (by omega) (Nat.le_of_ble_eq_true rfl) (Nat.le_of_ble_eq_true rfl)) (fun N9 E h => ?_) (fun N9 r h => ?_)
  · obtain ⟨hp, rfl, rfl⟩ := h
    refine X_catch (name := "java/lang/IndexOutOfBoundsException") (pre := []) (a := (0, 17, 20, 22)) (suf := []) (y_none0 hX0.1) rfl (fun z hz => nomatch hz) rfl (by decide) (x_in 1036 (by decide +kernel) rfl) (List.mem_of_getElem? (i := 565) (by decide +kernel)) (fun q0 => ?_)
    refine X_st rfl rfl rfl ?_
    refine X_push (v := .int 1) rfl (by decide +kernel) ?_
    exact X_iret rfl rfl ⟨ov, L_CH0 (by rw [ga_sti2 hwf hp]), by rw [ga_sti2 hwf hp], fun q => absurd q (by rw [ga_sti2 hwf hp]; decide)⟩ (Nat.le_of_ble_eq_true rfl) (Nat.le_of_ble_eq_true rfl)
  · obtain ⟨hp, rfl, rfl⟩ := h
    have hag := ga_sti1 (z := z) hwf hrel hp
    refine X_if_eq rfl (fun c8 => ?_) (fun c8 => ?_)
    · refine X_push (v := .long 0) rfl (by decide +kernel) ?_
      have c9 := c8
      refine X_lout rfl ?_
      refine X_goto rfl ?_
      refine X_push (v := .int 0) rfl (by decide +kernel) ?_
      exact X_iret rfl rfl ⟨_, L_CH1 (by rw [hag]) ((ga_sti (z := z) hlv (g_ix (by have := hwf.cmE.2; omega) (by rw [← hwf.cmE.1]; exact hp))).up), by rw [hag], fun _ => by rw [hag, c9]; rfl⟩ (Nat.le_of_ble_eq_true rfl) (Nat.le_of_ble_eq_true rfl)
    · refine X_push (v := .long 1) rfl (by decide +kernel) ?_
      refine X_goto rfl ?_
      have c9 : (if D w (10 + 13 * n_ x + 9) = b2 z then (0 : Int32) else 1) = 1 := by
        by_cases q : D w (10 + 13 * n_ x + 9) = b2 z
        · rw [if_pos q] at c8; exact absurd rfl c8
        · rw [if_neg q]
      refine X_lout rfl ?_
      refine X_goto rfl ?_
      refine X_push (v := .int 0) rfl (by decide +kernel) ?_
      exact X_iret rfl rfl ⟨_, L_CH1 (by rw [hag]) ((ga_sti (z := z) hlv (g_ix (by have := hwf.cmE.2; omega) (by rw [← hwf.cmE.1]; exact hp))).up), by rw [hag], fun _ => by rw [hag, c9]; rfl⟩ (Nat.le_of_ble_eq_true rfl) (Nat.le_of_ble_eq_true rfl)
