/-! ===== the reference's reader: texts ===== -/
abbrev s_tI (I : Nat → Int32) : Nat → Int32 := upd (upd (upd I 9 0) 10 0) 13 0
theorem l_triesLine_ok {tx rd rd1 : Nat → Int32} {n p q : Nat} (h : s_iv n p rd) (hR : l_triesLine tx n p rd = .inr (q, rd1)) : s_iv n q rd1 ∧ p ≤ q := by
  obtain ⟨h1, ⟨m, hm, h2⟩, ⟨l, hl, h3⟩, ⟨s, hs, h4⟩, k, h5, h6⟩ := h
  obtain ⟨⟨x, v⟩, h7, h8⟩ := l_bi_inr hR
  have g1 := l_reads_ok h7 h1
  have gs := l_sk_le (tx := tx) h1
  obtain ⟨g3, g4⟩ := l_want_ok h8 (by decide) g1.1.2
  subst g4
  exact ⟨⟨g3.2, ⟨m, hm, (updI_ne (by omega)).trans h2⟩, ⟨l, hl, (updI_ne (by omega)).trans h3⟩, ⟨s, hs, (updI_ne (by omega)).trans h4⟩, k, (updI_ne (by omega)).trans h5, by omega⟩, by omega⟩
theorem l_costLine_ok {tx rd rd1 : Nat → Int32} {n p q : Nat} (h : s_iv n p rd) (hR : l_costLine tx n p rd = .inr (q, rd1)) : s_iv n q rd1 ∧ p ≤ q := by
  obtain ⟨h1, ⟨m, hm, h2⟩, ⟨l, hl, h3⟩, ⟨s, hs, h4⟩, k, h5, h6⟩ := h
  obtain ⟨⟨x, v⟩, h7, h8⟩ := l_bi_inr hR
  obtain ⟨⟨x2, v2⟩, h9, h10⟩ := l_bi_inr h8
  obtain ⟨⟨x3, v3⟩, h11, h12⟩ := l_bi_inr h10
  change l_reads tx n x 99 = _ at h9
  change l_reads tx n x2 99 = _ at h11
  have g1 := l_reads_ok h7 h1
  have g1s := l_sk_le (tx := tx) h1
  have g2 := l_reads_ok h9 g1.1.2
  have g2s := l_sk_le (tx := tx) g1.1.2
  have g3 := l_reads_ok h11 g2.1.2
  have g3s := l_sk_le (tx := tx) g2.1.2
  obtain ⟨g5, g4⟩ := l_want_ok h12 (by decide) g3.1.2
  subst g4
  have gg : ∀ j, j ≠ 4 → j ≠ 5 → j ≠ 6 → upd (upd (upd rd 4 v) 5 v2) 6 v3 j = rd j := fun j j4 j5 j6 => by rw [updI_ne j6, updI_ne j5, updI_ne j4]
  exact ⟨⟨g5.2, ⟨m, hm, (gg 0 (by omega) (by omega) (by omega)).trans h2⟩, ⟨l, hl, (gg 1 (by omega) (by omega) (by omega)).trans h3⟩, ⟨s, hs, (gg 2 (by omega) (by omega) (by omega)).trans h4⟩, k, (gg 9 (by omega) (by omega) (by omega)).trans h5, by omega⟩, by omega⟩
theorem updI0_9 {I : Nat → Int32} : s_tI I 9 = nI 0 := by show upd (upd (upd I 9 0) 10 0) 13 0 9 = nI 0; rw [updI_ne (by decide), updI_ne (by decide), updI_eq]; rfl
theorem updI0_10 {I : Nat → Int32} : s_tI I 10 = 0 := by show upd (upd (upd I 9 0) 10 0) 13 0 10 = 0; rw [updI_ne (by decide), updI_eq]
theorem c_texts {G : XE} (hG : x_Kn G) (hK : x_KS G) {B : XH} {I : Nat → Int32} {T : Int64} {S : Nat → Nat → Int32} {rd tx gv pl : Nat → Int32} (d : Nat) {n : Nat} (hn : I 8 = nI n) (hn8 : n ≤ 800) : x_M G mX11_texts (d + 31) 0 0 [.ref 275] (mset B I T S rd tx gv pl) (x_RL B T S tx gv pl (s_tI I) n (l_txt tx n)) x_noX := by
  refine X_M hG okX11_texts rfl (L := [some (.ref 275), none]) rfl (Nat.le_of_ble_eq_true rfl) (fun ad0 nb0 => ?_)
  have hsk0 := l_sk_le (tx := tx) (Nat.zero_le n)
  have hnI : s_tI I 8 = nI n := by show upd (upd (upd I 9 0) 10 0) 13 0 8 = nI n; rw [updI_ne (by decide), updI_ne (by decide), updI_ne (by decide)]; exact hn
  have E167 : ∀ (J r1 : Nat → Int32) (e : Int32) (a : Nat), l_erJ (s_tI I) J n e a → (l_txt tx n) = .inl (e, a) → x_W G mX11_texts (x_Z G (d + 31) 0 0 ad0 nb0 (x_RL B T S tx gv pl (s_tI I) n (l_txt tx n)) x_noX) (mset B J T S r1 tx gv pl) 0 0 167 [some (.ref 275), none] [] := by
    intro J r1 e a hJ hR
    obtain ⟨qe, hqe, h9e⟩ := hJ.2.1
    refine X_ld rfl rfl rfl rfl ?_
    refine X_get f_X11_63 rfl rfl rfl ?_
    refine X_if_ne rfl (fun c171 => ?_) (fun c171 => absurd (hJ.2.2.1.symm.trans c171) hJ.2.2.2.1)
    exact X_vret rfl rfl (x_RL_er hR hJ) (Nat.le_of_ble_eq_true rfl) (Nat.le_of_ble_eq_true rfl)
  have E154 : ∀ (J r1 : Nat → Int32) (e : Int32) (a : Nat), l_erJ (s_tI I) J n e a → (l_txt tx n) = .inl (e, a) → x_W G mX11_texts (x_Z G (d + 31) 0 0 ad0 nb0 (x_RL B T S tx gv pl (s_tI I) n (l_txt tx n)) x_noX) (mset B J T S r1 tx gv pl) 0 0 154 [some (.ref 275), none] [] := by
    intro J r1 e a hJ hR
    obtain ⟨qe, hqe, h9e⟩ := hJ.2.1
    refine X_ld rfl rfl rfl rfl ?_
    refine X_ldcS (i := 12) hK (List.mem_of_getElem? (i := 12) rfl) (by decide) rfl ?_
    refine X_mcall l_X11_X11_takes (c_takesE hG d 12 (by rw [hJ.2.2.1]; exact hJ.2.2.2.1)) rfl rfl rfl rfl (Nat.le_of_ble_eq_true rfl) (Nat.le_of_ble_eq_true rfl) (by omega) (Nat.le_of_ble_eq_true rfl) (Nat.le_of_ble_eq_true rfl) ?_
    refine X_if_eq rfl (fun c160 => ?_) (fun c160 => absurd (by decide) c160)
    exact E167 J r1 e a hJ hR
  have E141 : ∀ (J r1 : Nat → Int32) (e : Int32) (a : Nat), l_erJ (s_tI I) J n e a → (l_txt tx n) = .inl (e, a) → x_W G mX11_texts (x_Z G (d + 31) 0 0 ad0 nb0 (x_RL B T S tx gv pl (s_tI I) n (l_txt tx n)) x_noX) (mset B J T S r1 tx gv pl) 0 0 141 [some (.ref 275), none] [] := by
    intro J r1 e a hJ hR
    obtain ⟨qe, hqe, h9e⟩ := hJ.2.1
    refine X_ld rfl rfl rfl rfl ?_
    refine X_ldcS (i := 11) hK (List.mem_of_getElem? (i := 11) rfl) (by decide) rfl ?_
    refine X_mcall l_X11_X11_takes (c_takesE hG d 11 (by rw [hJ.2.2.1]; exact hJ.2.2.2.1)) rfl rfl rfl rfl (Nat.le_of_ble_eq_true rfl) (Nat.le_of_ble_eq_true rfl) (by omega) (Nat.le_of_ble_eq_true rfl) (Nat.le_of_ble_eq_true rfl) ?_
    refine X_if_eq rfl (fun c147 => ?_) (fun c147 => absurd (by decide) c147)
    exact E154 J r1 e a hJ hR
  have E114 : ∀ (J r1 : Nat → Int32) (e : Int32) (a : Nat), l_erJ (s_tI I) J n e a → (l_txt tx n) = .inl (e, a) → x_W G mX11_texts (x_Z G (d + 31) 0 0 ad0 nb0 (x_RL B T S tx gv pl (s_tI I) n (l_txt tx n)) x_noX) (mset B J T S r1 tx gv pl) 0 0 114 [some (.ref 275), none] [] := by
    intro J r1 e a hJ hR
    obtain ⟨qe, hqe, h9e⟩ := hJ.2.1
    refine X_ld rfl rfl rfl rfl ?_
    refine X_ldcS (i := 10) hK (List.mem_of_getElem? (i := 10) rfl) (by decide) rfl ?_
    refine X_mcall l_X11_X11_startOf (c_startOfE hG d h9e ((hJ.1 8 (by omega)).trans hnI) hqe hn8 10 (by rw [hJ.2.2.1]; exact hJ.2.2.2.1)) rfl rfl rfl rfl (Nat.le_of_ble_eq_true rfl) (Nat.le_of_ble_eq_true rfl) (by omega) (Nat.le_of_ble_eq_true rfl) (Nat.le_of_ble_eq_true rfl) ?_
    refine X_st rfl rfl rfl ?_
    refine X_ld rfl rfl rfl rfl ?_
    refine X_push (v := .int (-1)) rfl (by decide +kernel) ?_
    refine X_icmp_eq rfl (fun c123 => ?_) (fun c123 => absurd (by decide) c123)
    refine X_loc (L' := [some (.ref 275), none]) ⟨rfl, trivial⟩ ?_
    exact E141 _ r1 e a (l_erJ_9 hJ (l_sk_le hqe).2) hR
  have E131 : ∀ (J r1 : Nat → Int32) (e : Int32) (a : Nat), l_erJ (s_tI I) J n e a → (l_txt tx n) = .inl (e, a) → x_W G mX11_texts (x_Z G (d + 31) 0 0 ad0 nb0 (x_RL B T S tx gv pl (s_tI I) n (l_txt tx n)) x_noX) (mset B J T S r1 tx gv pl) 0 0 131 [some (.ref 275), none] [] := by
    intro J r1 e a hJ hR
    obtain ⟨qe, hqe, h9e⟩ := hJ.2.1
    refine X_ld rfl rfl rfl rfl ?_
    refine X_ldcS (i := 10) hK (List.mem_of_getElem? (i := 10) rfl) (by decide) rfl ?_
    refine X_mcall l_X11_X11_startOf (c_startOfE hG d h9e ((hJ.1 8 (by omega)).trans hnI) hqe hn8 10 (by rw [hJ.2.2.1]; exact hJ.2.2.2.1)) rfl rfl rfl rfl (Nat.le_of_ble_eq_true rfl) (Nat.le_of_ble_eq_true rfl) (by omega) (Nat.le_of_ble_eq_true rfl) (Nat.le_of_ble_eq_true rfl) ?_
    refine X_st rfl rfl rfl ?_
    refine X_goto rfl ?_
    refine X_ld rfl rfl rfl rfl ?_
    refine X_push (v := .int (-1)) rfl (by decide +kernel) ?_
    refine X_icmp_eq rfl (fun c123 => ?_) (fun c123 => absurd (by decide) c123)
    refine X_loc (L' := [some (.ref 275), none]) ⟨rfl, trivial⟩ ?_
    exact E141 _ r1 e a (l_erJ_9 hJ (l_sk_le hqe).2) hR
  have E87 : ∀ (J r1 : Nat → Int32) (e : Int32) (a : Nat), l_erJ (s_tI I) J n e a → (l_txt tx n) = .inl (e, a) → x_W G mX11_texts (x_Z G (d + 31) 0 0 ad0 nb0 (x_RL B T S tx gv pl (s_tI I) n (l_txt tx n)) x_noX) (mset B J T S r1 tx gv pl) 0 0 87 [some (.ref 275), none] [] := by
    intro J r1 e a hJ hR
    obtain ⟨qe, hqe, h9e⟩ := hJ.2.1
    refine X_ld rfl rfl rfl rfl ?_
    refine X_ldcS (i := 9) hK (List.mem_of_getElem? (i := 9) rfl) (by decide) rfl ?_
    refine X_mcall l_X11_X11_startOf (c_startOfE hG d h9e ((hJ.1 8 (by omega)).trans hnI) hqe hn8 9 (by rw [hJ.2.2.1]; exact hJ.2.2.2.1)) rfl rfl rfl rfl (Nat.le_of_ble_eq_true rfl) (Nat.le_of_ble_eq_true rfl) (by omega) (Nat.le_of_ble_eq_true rfl) (Nat.le_of_ble_eq_true rfl) ?_
    refine X_st rfl rfl rfl ?_
    refine X_ld rfl rfl rfl rfl ?_
    refine X_push (v := .int (-1)) rfl (by decide +kernel) ?_
    refine X_icmp_eq rfl (fun c96 => ?_) (fun c96 => absurd (by decide) c96)
    refine X_loc (L' := [some (.ref 275), none]) ⟨rfl, trivial⟩ ?_
    exact E114 _ r1 e a (l_erJ_9 hJ (l_sk_le hqe).2) hR
  have E104 : ∀ (J r1 : Nat → Int32) (e : Int32) (a : Nat), l_erJ (s_tI I) J n e a → (l_txt tx n) = .inl (e, a) → x_W G mX11_texts (x_Z G (d + 31) 0 0 ad0 nb0 (x_RL B T S tx gv pl (s_tI I) n (l_txt tx n)) x_noX) (mset B J T S r1 tx gv pl) 0 0 104 [some (.ref 275), none] [] := by
    intro J r1 e a hJ hR
    obtain ⟨qe, hqe, h9e⟩ := hJ.2.1
    refine X_ld rfl rfl rfl rfl ?_
    refine X_ldcS (i := 9) hK (List.mem_of_getElem? (i := 9) rfl) (by decide) rfl ?_
    refine X_mcall l_X11_X11_startOf (c_startOfE hG d h9e ((hJ.1 8 (by omega)).trans hnI) hqe hn8 9 (by rw [hJ.2.2.1]; exact hJ.2.2.2.1)) rfl rfl rfl rfl (Nat.le_of_ble_eq_true rfl) (Nat.le_of_ble_eq_true rfl) (by omega) (Nat.le_of_ble_eq_true rfl) (Nat.le_of_ble_eq_true rfl) ?_
    refine X_st rfl rfl rfl ?_
    refine X_goto rfl ?_
    refine X_ld rfl rfl rfl rfl ?_
    refine X_push (v := .int (-1)) rfl (by decide +kernel) ?_
    refine X_icmp_eq rfl (fun c96 => ?_) (fun c96 => absurd (by decide) c96)
    refine X_loc (L' := [some (.ref 275), none]) ⟨rfl, trivial⟩ ?_
    exact E114 _ r1 e a (l_erJ_9 hJ (l_sk_le hqe).2) hR
  have E71 : ∀ (J r1 : Nat → Int32) (e : Int32) (a : Nat), l_erJ (s_tI I) J n e a → (l_txt tx n) = .inl (e, a) → x_W G mX11_texts (x_Z G (d + 31) 0 0 ad0 nb0 (x_RL B T S tx gv pl (s_tI I) n (l_txt tx n)) x_noX) (mset B J T S r1 tx gv pl) 0 0 71 [some (.ref 275), none] [] := by
    intro J r1 e a hJ hR
    obtain ⟨qe, hqe, h9e⟩ := hJ.2.1
    refine X_ld rfl rfl rfl rfl ?_
    refine X_ldcS (i := 8) hK (List.mem_of_getElem? (i := 8) rfl) (by decide) rfl ?_
    refine X_mcall l_X11_X11_takes (c_takesE hG d 8 (by rw [hJ.2.2.1]; exact hJ.2.2.2.1)) rfl rfl rfl rfl (Nat.le_of_ble_eq_true rfl) (Nat.le_of_ble_eq_true rfl) (by omega) (Nat.le_of_ble_eq_true rfl) (Nat.le_of_ble_eq_true rfl) ?_
    refine X_if_eq rfl (fun c77 => ?_) (fun c77 => absurd (by decide) c77)
    exact E87 J r1 e a hJ hR
  have E44 : ∀ (J r1 : Nat → Int32) (e : Int32) (a : Nat), l_erJ (s_tI I) J n e a → (l_txt tx n) = .inl (e, a) → x_W G mX11_texts (x_Z G (d + 31) 0 0 ad0 nb0 (x_RL B T S tx gv pl (s_tI I) n (l_txt tx n)) x_noX) (mset B J T S r1 tx gv pl) 0 0 44 [some (.ref 275), none] [] := by
    intro J r1 e a hJ hR
    obtain ⟨qe, hqe, h9e⟩ := hJ.2.1
    refine X_ld rfl rfl rfl rfl ?_
    refine X_ldcS (i := 1) hK (List.mem_of_getElem? (i := 1) rfl) (by decide) rfl ?_
    refine X_mcall l_X11_X11_startOf (c_startOfE hG d h9e ((hJ.1 8 (by omega)).trans hnI) hqe hn8 1 (by rw [hJ.2.2.1]; exact hJ.2.2.2.1)) rfl rfl rfl rfl (Nat.le_of_ble_eq_true rfl) (Nat.le_of_ble_eq_true rfl) (by omega) (Nat.le_of_ble_eq_true rfl) (Nat.le_of_ble_eq_true rfl) ?_
    refine X_st rfl rfl rfl ?_
    refine X_ld rfl rfl rfl rfl ?_
    refine X_push (v := .int (-1)) rfl (by decide +kernel) ?_
    refine X_icmp_eq rfl (fun c53 => ?_) (fun c53 => absurd (by decide) c53)
    refine X_loc (L' := [some (.ref 275), none]) ⟨rfl, trivial⟩ ?_
    exact E71 _ r1 e a (l_erJ_9 hJ (l_sk_le hqe).2) hR
  have E61 : ∀ (J r1 : Nat → Int32) (e : Int32) (a : Nat), l_erJ (s_tI I) J n e a → (l_txt tx n) = .inl (e, a) → x_W G mX11_texts (x_Z G (d + 31) 0 0 ad0 nb0 (x_RL B T S tx gv pl (s_tI I) n (l_txt tx n)) x_noX) (mset B J T S r1 tx gv pl) 0 0 61 [some (.ref 275), none] [] := by
    intro J r1 e a hJ hR
    obtain ⟨qe, hqe, h9e⟩ := hJ.2.1
    refine X_ld rfl rfl rfl rfl ?_
    refine X_ldcS (i := 1) hK (List.mem_of_getElem? (i := 1) rfl) (by decide) rfl ?_
    refine X_mcall l_X11_X11_startOf (c_startOfE hG d h9e ((hJ.1 8 (by omega)).trans hnI) hqe hn8 1 (by rw [hJ.2.2.1]; exact hJ.2.2.2.1)) rfl rfl rfl rfl (Nat.le_of_ble_eq_true rfl) (Nat.le_of_ble_eq_true rfl) (by omega) (Nat.le_of_ble_eq_true rfl) (Nat.le_of_ble_eq_true rfl) ?_
    refine X_st rfl rfl rfl ?_
    refine X_goto rfl ?_
    refine X_ld rfl rfl rfl rfl ?_
    refine X_push (v := .int (-1)) rfl (by decide +kernel) ?_
    refine X_icmp_eq rfl (fun c53 => ?_) (fun c53 => absurd (by decide) c53)
    refine X_loc (L' := [some (.ref 275), none]) ⟨rfl, trivial⟩ ?_
    exact E71 _ r1 e a (l_erJ_9 hJ (l_sk_le hqe).2) hR
  have K167 : ∀ (J r1 : Nat → Int32) (q : Nat), l_okJ (s_tI I) J q → s_iv n q r1 → (l_txt tx n) = l_t6 tx n (q, r1) → x_W G mX11_texts (x_Z G (d + 31) 0 0 ad0 nb0 (x_RL B T S tx gv pl (s_tI I) n (l_txt tx n)) x_noX) (mset B J T S r1 tx gv pl) 0 0 167 [some (.ref 275), none] [] := by
    intro J r1 q hJ hv hR
    have hq1 := hv.1
    have hJ8 : J 8 = nI n := (hJ.1 8 (by omega)).trans hnI
    refine X_ld rfl rfl rfl rfl ?_
    refine X_get f_X11_63 rfl rfl rfl ?_
    refine X_if_ne rfl (fun c171 => absurd hJ.2.2.1 c171) (fun c171 => ?_)
    refine X_ld rfl rfl rfl rfl ?_
    refine X_mcall l_X11_X11_sees (c_sees hG (d + 30) hJ.2.1 hJ8 hq1 hn8) rfl rfl rfl rfl (Nat.le_of_ble_eq_true rfl) (Nat.le_of_ble_eq_true rfl) (by omega) (Nat.le_of_ble_eq_true rfl) (Nat.le_of_ble_eq_true rfl) ?_
    refine X_push (v := .int (-1)) rfl (by decide +kernel) ?_
    refine X_icmp_eq rfl (fun c179 => ?_) (fun c179 => ?_)
    · exact X_vret rfl rfl (x_RL_ok (hR.trans (if_pos c179)) (l_okJ_9 hJ)) (Nat.le_of_ble_eq_true rfl) (Nat.le_of_ble_eq_true rfl)
    · refine X_ld rfl rfl rfl rfl ?_
      refine X_push (v := .int (-2)) rfl (by decide +kernel) ?_
      refine X_ld rfl rfl rfl rfl ?_
      refine X_get f_X11_69 rfl rfl rfl ?_
      refine X_mcallv l_X11_X11_fails (c_fails hG (d + 30) ((updI_ne (by decide)).trans hJ.2.2.1)) rfl rfl rfl rfl (Nat.le_of_ble_eq_true rfl) (Nat.le_of_ble_eq_true rfl) (by omega) (Nat.le_of_ble_eq_true rfl) (Nat.le_of_ble_eq_true rfl) ?_
      exact X_vret rfl rfl (x_RL_er (hR.trans (if_neg c179)) ⟨x_kJ_upd (x_kJ_upd (x_kJ_upd hJ.1 (by omega)) (by omega)) (by omega), ⟨_, (l_sk_le hq1).2, (updI_ne (by decide)).trans ((updI_ne (by decide)).trans updI_eq)⟩, (updI_ne (by decide)).trans updI_eq, by decide, updI_eq.trans updI_eq⟩) (Nat.le_of_ble_eq_true rfl) (Nat.le_of_ble_eq_true rfl)
  have K154 : ∀ (J r1 : Nat → Int32) (q : Nat), l_okJ (s_tI I) J q → s_iv n q r1 → (l_txt tx n) = l_t5 tx n (q, r1) → x_W G mX11_texts (x_Z G (d + 31) 0 0 ad0 nb0 (x_RL B T S tx gv pl (s_tI I) n (l_txt tx n)) x_noX) (mset B J T S r1 tx gv pl) 0 0 154 [some (.ref 275), none] [] := by
    intro J r1 q hJ hv hR
    have hq1 := hv.1
    have hJ8 : J 8 = nI n := (hJ.1 8 (by omega)).trans hnI
    refine X_ld rfl rfl rfl rfl ?_
    refine X_ldcS (i := 12) hK (List.mem_of_getElem? (i := 12) rfl) (by decide) rfl ?_
    refine X_mcall l_X11_X11_takes (c_takes hG hK (d + 25) hJ.2.1 hJ8 hq1 hn8 12 (by decide) hJ.2.2.1) rfl rfl rfl rfl (Nat.le_of_ble_eq_true rfl) (Nat.le_of_ble_eq_true rfl) (by omega) (Nat.le_of_ble_eq_true rfl) (Nat.le_of_ble_eq_true rfl) ?_
    refine X_if_eq rfl (fun c160 => ?_) (fun c160 => ?_)
    · have h160 : (l_isw tx n q (x_w 12)) = false := b2_0 c160
      refine X_heap (N' := mset B (upd J 9 (nI (l_sk tx n q))) T S r1 tx gv pl) (by rw [l_tk_n h160]) ?_
      exact K167 _ r1 (l_sk tx n q) (l_okJ_9 hJ) (s_iv_sk hv) (hR.trans (l_bi_ok (if_neg (by rw [h160]; decide))))
    · have h160 : (l_isw tx n q (x_w 12)) = true := b2_1 c160
      refine X_ld rfl rfl rfl rfl ?_
      have htk := l_tk_le (tx := tx) (w := x_w 12) hq1
      have hJ2 : l_okJ (s_tI I) (upd J 9 (nI (l_tk tx n q (x_w 12)))) (l_tk tx n q (x_w 12)) := l_okJ_9 hJ
      refine X_mcallN l_X11_X11_triesLine (c_triesLine hG d hJ2.2.1 ((hJ2.1 8 (by omega)).trans hnI) htk.2 hn8 hJ2.2.2.1) x_RL_n rfl rfl rfl rfl (Nat.le_of_ble_eq_true rfl) (Nat.le_of_ble_eq_true rfl) (by omega) (Nat.le_of_ble_eq_true rfl) (Nat.le_of_ble_eq_true rfl) (fun N1 hRJ3 => ?_)
      rcases hEJ3 : l_triesLine tx n (l_tk tx n q (x_w 12)) r1 with ⟨e, a⟩ | ⟨q3, rd3⟩
      · rw [hEJ3] at hRJ3
        obtain ⟨J3, rd3, hJ3, rfl, -⟩ := hRJ3
        exact E167 J3 rd3 e a (l_erJ_k hJ3 hJ2.1) (hR.trans (l_bi_er ((if_pos h160).trans hEJ3)))
      · rw [hEJ3] at hRJ3
        obtain ⟨J3, hJ3, rfl, -⟩ := hRJ3
        exact K167 J3 rd3 q3 (l_okJ_k hJ3 hJ2.1 hJ2.2.2.2) (l_triesLine_ok (s_iv_tk hv) hEJ3).1 (hR.trans (l_bi_ok ((if_pos h160).trans hEJ3)))
  have K141 : ∀ (J r1 : Nat → Int32) (q : Nat), l_okJ (s_tI I) J q → s_iv n q r1 → (l_txt tx n) = l_t4 tx n (q, r1) → x_W G mX11_texts (x_Z G (d + 31) 0 0 ad0 nb0 (x_RL B T S tx gv pl (s_tI I) n (l_txt tx n)) x_noX) (mset B J T S r1 tx gv pl) 0 0 141 [some (.ref 275), none] [] := by
    intro J r1 q hJ hv hR
    have hq1 := hv.1
    have hJ8 : J 8 = nI n := (hJ.1 8 (by omega)).trans hnI
    refine X_ld rfl rfl rfl rfl ?_
    refine X_ldcS (i := 11) hK (List.mem_of_getElem? (i := 11) rfl) (by decide) rfl ?_
    refine X_mcall l_X11_X11_takes (c_takes hG hK (d + 25) hJ.2.1 hJ8 hq1 hn8 11 (by decide) hJ.2.2.1) rfl rfl rfl rfl (Nat.le_of_ble_eq_true rfl) (Nat.le_of_ble_eq_true rfl) (by omega) (Nat.le_of_ble_eq_true rfl) (Nat.le_of_ble_eq_true rfl) ?_
    refine X_if_eq rfl (fun c147 => ?_) (fun c147 => ?_)
    · have h147 : (l_isw tx n q (x_w 11)) = false := b2_0 c147
      refine X_heap (N' := mset B (upd J 9 (nI (l_sk tx n q))) T S r1 tx gv pl) (by rw [l_tk_n h147]) ?_
      exact K154 _ r1 (l_sk tx n q) (l_okJ_9 hJ) (s_iv_sk hv) (hR.trans (l_bi_ok (if_neg (by rw [h147]; decide))))
    · have h147 : (l_isw tx n q (x_w 11)) = true := b2_1 c147
      refine X_ld rfl rfl rfl rfl ?_
      have htk := l_tk_le (tx := tx) (w := x_w 11) hq1
      have hJ2 : l_okJ (s_tI I) (upd J 9 (nI (l_tk tx n q (x_w 11)))) (l_tk tx n q (x_w 11)) := l_okJ_9 hJ
      refine X_mcallN l_X11_X11_costLine (c_costLine hG d hJ2.2.1 ((hJ2.1 8 (by omega)).trans hnI) htk.2 hn8 hJ2.2.2.1) x_RL_n rfl rfl rfl rfl (Nat.le_of_ble_eq_true rfl) (Nat.le_of_ble_eq_true rfl) (by omega) (Nat.le_of_ble_eq_true rfl) (Nat.le_of_ble_eq_true rfl) (fun N1 hRJ3 => ?_)
      rcases hEJ3 : l_costLine tx n (l_tk tx n q (x_w 11)) r1 with ⟨e, a⟩ | ⟨q3, rd3⟩
      · rw [hEJ3] at hRJ3
        obtain ⟨J3, rd3, hJ3, rfl, -⟩ := hRJ3
        exact E154 J3 rd3 e a (l_erJ_k hJ3 hJ2.1) (hR.trans (l_bi_er ((if_pos h147).trans hEJ3)))
      · rw [hEJ3] at hRJ3
        obtain ⟨J3, hJ3, rfl, -⟩ := hRJ3
        exact K154 J3 rd3 q3 (l_okJ_k hJ3 hJ2.1 hJ2.2.2.2) (l_costLine_ok (s_iv_tk hv) hEJ3).1 (hR.trans (l_bi_ok ((if_pos h147).trans hEJ3)))
  have L131 : ∀ (f : Nat) (J r1 : Nat → Int32) (q : Nat), l_okJ (s_tI I) J q → s_iv n q r1 → n + 1 - q ≤ f → (l_txt tx n) = l_bi (l_rep tx n 10 (g_prep tx n) f q r1) (l_t4 tx n) → x_W G mX11_texts (x_Z G (d + 31) 0 0 ad0 nb0 (x_RL B T S tx gv pl (s_tI I) n (l_txt tx n)) x_noX) (mset B J T S r1 tx gv pl) 0 0 131 [some (.ref 275), none] [] := by
    intro f
    induction f with
    | zero => intro J r1 q _ hv h1 _; have := hv.1; omega
    | succ f ih =>
      intro J r1 q hJ hv hf hR
      have hq1 := hv.1
      have hJ8 : J 8 = nI n := (hJ.1 8 (by omega)).trans hnI
      have hqs0 := l_sk_le (tx := tx) hq1
      refine X_ld rfl rfl rfl rfl ?_
      refine X_ldcS (i := 10) hK (List.mem_of_getElem? (i := 10) rfl) (by decide) rfl ?_
      rcases Bool.eq_false_or_eq_true (l_isw tx n q (x_w 10)) with hw | hw
      · refine X_mcall l_X11_X11_startOf (c_startOfY hG hK (d + 24) hJ.2.1 hJ8 hq1 hn8 10 (by decide) hJ.2.2.1 hw) rfl rfl rfl rfl (Nat.le_of_ble_eq_true rfl) (Nat.le_of_ble_eq_true rfl) (by omega) (Nat.le_of_ble_eq_true rfl) (Nat.le_of_ble_eq_true rfl) ?_
        refine X_st rfl rfl rfl ?_
        refine X_goto rfl ?_
        refine X_ld rfl rfl rfl rfl ?_
        refine X_push (v := .int (-1)) rfl (by decide +kernel) ?_
        refine X_icmp_eq rfl (fun c123 => absurd c123 (nI_ne_m1 (by omega))) (fun c123 => ?_)
        refine X_ld rfl rfl rfl rfl ?_
        refine X_ld rfl rfl rfl rfl ?_
        obtain ⟨m, hm5, hr0⟩ := hv.2.1
        obtain ⟨l, hl40, hr1⟩ := hv.2.2.1
        obtain ⟨s, hs6, hr2⟩ := hv.2.2.2.1
        obtain ⟨k, hk, hk5⟩ := hv.2.2.2.2
        have htk := l_tk_le (tx := tx) (w := x_w 10) hq1
        have hqs := l_sk_le (tx := tx) hq1
        have htk1 := l_tk_y hw
        have hwl : 1 ≤ (x_w 10).length := by decide
        have hJ2 : l_okJ (s_tI I) (upd J 9 (nI (l_tk tx n q (x_w 10)))) (l_tk tx n q (x_w 10)) := l_okJ_9 hJ
        have hg : g_prep tx n (l_sk tx n q) (l_tk tx n q (x_w 10)) r1 = l_prepLine tx n m s (l_sk tx n q) (l_tk tx n q (x_w 10)) r1 := by unfold g_prep; rw [n_of hr0 (by omega), n_of hr2 (by omega)]
        refine X_mcallN l_X11_X11_prepareLine (c_prepareLine hG hK d hJ2.2.1 ((hJ2.1 8 (by omega)).trans hnI) htk.2 hn8 hJ2.2.2.1 (hJ2.2.2.2.trans updI_eq) m s k hr0 hm5 hr2 hs6 hk (by omega) rfl) x_RL_n rfl rfl rfl rfl (Nat.le_of_ble_eq_true rfl) (Nat.le_of_ble_eq_true rfl) (by omega) (Nat.le_of_ble_eq_true rfl) (Nat.le_of_ble_eq_true rfl) (fun N1 hRJ3 => ?_)
        rcases hEJ3 : l_prepLine tx n m s (l_sk tx n q) (l_tk tx n q (x_w 10)) r1 with ⟨e, a⟩ | ⟨q3, rd3⟩
        · rw [hEJ3] at hRJ3
          obtain ⟨J3, rd3, hJ3, rfl, -⟩ := hRJ3
          refine X_loc (L' := [some (.ref 275), none]) ⟨rfl, trivial⟩ ?_
          exact E131 J3 rd3 e a (l_erJ_k hJ3 hJ2.1) (hR.trans (l_bi_er ((if_pos hw).trans (l_bi_er (hg.trans hEJ3)))))
        · rw [hEJ3] at hRJ3
          obtain ⟨J3, hJ3, rfl, -⟩ := hRJ3
          have hiv := g_prep_ok hn8 (s_iv_tk hv) (hg.trans hEJ3)
          refine X_loc (L' := [some (.ref 275), none]) ⟨rfl, trivial⟩ ?_
          exact ih J3 rd3 q3 (l_okJ_k hJ3 hJ2.1 hJ2.2.2.2) hiv.1 (by have := hiv.1.1; omega) (hR.trans (congrArg (fun z => l_bi z (l_t4 tx n)) ((if_pos hw).trans (l_bi_ok (hg.trans hEJ3)))))
      · refine X_mcall l_X11_X11_startOf (c_startOfN hG hK (d + 24) hJ.2.1 hJ8 hq1 hn8 10 (by decide) hJ.2.2.1 hw) rfl rfl rfl rfl (Nat.le_of_ble_eq_true rfl) (Nat.le_of_ble_eq_true rfl) (by omega) (Nat.le_of_ble_eq_true rfl) (Nat.le_of_ble_eq_true rfl) ?_
        refine X_st rfl rfl rfl ?_
        refine X_goto rfl ?_
        refine X_ld rfl rfl rfl rfl ?_
        refine X_push (v := .int (-1)) rfl (by decide +kernel) ?_
        refine X_icmp_eq rfl (fun c123 => ?_) (fun c123 => absurd rfl c123)
        refine X_loc (L' := [some (.ref 275), none]) ⟨rfl, trivial⟩ ?_
        exact K141 _ r1 (l_sk tx n q) (l_okJ_9 hJ) (s_iv_sk hv) (hR.trans (l_bi_ok (if_neg (by rw [hw]; decide))))
  have K114 : ∀ (J r1 : Nat → Int32) (q : Nat), l_okJ (s_tI I) J q → s_iv n q r1 → (l_txt tx n) = l_t3 tx n (q, r1) → x_W G mX11_texts (x_Z G (d + 31) 0 0 ad0 nb0 (x_RL B T S tx gv pl (s_tI I) n (l_txt tx n)) x_noX) (mset B J T S r1 tx gv pl) 0 0 114 [some (.ref 275), none] [] := by
    intro J r1 q hJ hv hR
    have hq1 := hv.1
    have hJ8 : J 8 = nI n := (hJ.1 8 (by omega)).trans hnI
    have hqs0 := l_sk_le (tx := tx) hq1
    obtain ⟨f, hf⟩ : ∃ f, n + 1 - q = f + 1 := ⟨n - q, by omega⟩
    have hR : (l_txt tx n) = l_bi (l_rep tx n 10 (g_prep tx n) (f + 1) q r1) (l_t4 tx n) := by rw [← hf]; exact hR
    refine X_ld rfl rfl rfl rfl ?_
    refine X_ldcS (i := 10) hK (List.mem_of_getElem? (i := 10) rfl) (by decide) rfl ?_
    rcases Bool.eq_false_or_eq_true (l_isw tx n q (x_w 10)) with hw | hw
    · refine X_mcall l_X11_X11_startOf (c_startOfY hG hK (d + 24) hJ.2.1 hJ8 hq1 hn8 10 (by decide) hJ.2.2.1 hw) rfl rfl rfl rfl (Nat.le_of_ble_eq_true rfl) (Nat.le_of_ble_eq_true rfl) (by omega) (Nat.le_of_ble_eq_true rfl) (Nat.le_of_ble_eq_true rfl) ?_
      refine X_st rfl rfl rfl ?_
      refine X_ld rfl rfl rfl rfl ?_
      refine X_push (v := .int (-1)) rfl (by decide +kernel) ?_
      refine X_icmp_eq rfl (fun c123 => absurd c123 (nI_ne_m1 (by omega))) (fun c123 => ?_)
      refine X_ld rfl rfl rfl rfl ?_
      refine X_ld rfl rfl rfl rfl ?_
      obtain ⟨m, hm5, hr0⟩ := hv.2.1
      obtain ⟨l, hl40, hr1⟩ := hv.2.2.1
      obtain ⟨s, hs6, hr2⟩ := hv.2.2.2.1
      obtain ⟨k, hk, hk5⟩ := hv.2.2.2.2
      have htk := l_tk_le (tx := tx) (w := x_w 10) hq1
      have hqs := l_sk_le (tx := tx) hq1
      have htk1 := l_tk_y hw
      have hwl : 1 ≤ (x_w 10).length := by decide
      have hJ2 : l_okJ (s_tI I) (upd J 9 (nI (l_tk tx n q (x_w 10)))) (l_tk tx n q (x_w 10)) := l_okJ_9 hJ
      have hg : g_prep tx n (l_sk tx n q) (l_tk tx n q (x_w 10)) r1 = l_prepLine tx n m s (l_sk tx n q) (l_tk tx n q (x_w 10)) r1 := by unfold g_prep; rw [n_of hr0 (by omega), n_of hr2 (by omega)]
      refine X_mcallN l_X11_X11_prepareLine (c_prepareLine hG hK d hJ2.2.1 ((hJ2.1 8 (by omega)).trans hnI) htk.2 hn8 hJ2.2.2.1 (hJ2.2.2.2.trans updI_eq) m s k hr0 hm5 hr2 hs6 hk (by omega) rfl) x_RL_n rfl rfl rfl rfl (Nat.le_of_ble_eq_true rfl) (Nat.le_of_ble_eq_true rfl) (by omega) (Nat.le_of_ble_eq_true rfl) (Nat.le_of_ble_eq_true rfl) (fun N1 hRJ3 => ?_)
      rcases hEJ3 : l_prepLine tx n m s (l_sk tx n q) (l_tk tx n q (x_w 10)) r1 with ⟨e, a⟩ | ⟨q3, rd3⟩
      · rw [hEJ3] at hRJ3
        obtain ⟨J3, rd3, hJ3, rfl, -⟩ := hRJ3
        refine X_loc (L' := [some (.ref 275), none]) ⟨rfl, trivial⟩ ?_
        exact E131 J3 rd3 e a (l_erJ_k hJ3 hJ2.1) (hR.trans (l_bi_er ((if_pos hw).trans (l_bi_er (hg.trans hEJ3)))))
      · rw [hEJ3] at hRJ3
        obtain ⟨J3, hJ3, rfl, -⟩ := hRJ3
        have hiv := g_prep_ok hn8 (s_iv_tk hv) (hg.trans hEJ3)
        refine X_loc (L' := [some (.ref 275), none]) ⟨rfl, trivial⟩ ?_
        exact L131 f J3 rd3 q3 (l_okJ_k hJ3 hJ2.1 hJ2.2.2.2) hiv.1 (by have := hiv.1.1; omega) (hR.trans (congrArg (fun z => l_bi z (l_t4 tx n)) ((if_pos hw).trans (l_bi_ok (hg.trans hEJ3)))))
    · refine X_mcall l_X11_X11_startOf (c_startOfN hG hK (d + 24) hJ.2.1 hJ8 hq1 hn8 10 (by decide) hJ.2.2.1 hw) rfl rfl rfl rfl (Nat.le_of_ble_eq_true rfl) (Nat.le_of_ble_eq_true rfl) (by omega) (Nat.le_of_ble_eq_true rfl) (Nat.le_of_ble_eq_true rfl) ?_
      refine X_st rfl rfl rfl ?_
      refine X_ld rfl rfl rfl rfl ?_
      refine X_push (v := .int (-1)) rfl (by decide +kernel) ?_
      refine X_icmp_eq rfl (fun c123 => ?_) (fun c123 => absurd rfl c123)
      refine X_loc (L' := [some (.ref 275), none]) ⟨rfl, trivial⟩ ?_
      exact K141 _ r1 (l_sk tx n q) (l_okJ_9 hJ) (s_iv_sk hv) (hR.trans (l_bi_ok (if_neg (by rw [hw]; decide))))
  have L104 : ∀ (f : Nat) (J r1 : Nat → Int32) (q : Nat), l_okJ (s_tI I) J q → s_iv n q r1 → n + 1 - q ≤ f → (l_txt tx n) = l_bi (l_rep tx n 9 (g_row tx n) f q r1) (l_t3 tx n) → x_W G mX11_texts (x_Z G (d + 31) 0 0 ad0 nb0 (x_RL B T S tx gv pl (s_tI I) n (l_txt tx n)) x_noX) (mset B J T S r1 tx gv pl) 0 0 104 [some (.ref 275), none] [] := by
    intro f
    induction f with
    | zero => intro J r1 q _ hv h1 _; have := hv.1; omega
    | succ f ih =>
      intro J r1 q hJ hv hf hR
      have hq1 := hv.1
      have hJ8 : J 8 = nI n := (hJ.1 8 (by omega)).trans hnI
      have hqs0 := l_sk_le (tx := tx) hq1
      refine X_ld rfl rfl rfl rfl ?_
      refine X_ldcS (i := 9) hK (List.mem_of_getElem? (i := 9) rfl) (by decide) rfl ?_
      rcases Bool.eq_false_or_eq_true (l_isw tx n q (x_w 9)) with hw | hw
      · refine X_mcall l_X11_X11_startOf (c_startOfY hG hK (d + 24) hJ.2.1 hJ8 hq1 hn8 9 (by decide) hJ.2.2.1 hw) rfl rfl rfl rfl (Nat.le_of_ble_eq_true rfl) (Nat.le_of_ble_eq_true rfl) (by omega) (Nat.le_of_ble_eq_true rfl) (Nat.le_of_ble_eq_true rfl) ?_
        refine X_st rfl rfl rfl ?_
        refine X_goto rfl ?_
        refine X_ld rfl rfl rfl rfl ?_
        refine X_push (v := .int (-1)) rfl (by decide +kernel) ?_
        refine X_icmp_eq rfl (fun c96 => absurd c96 (nI_ne_m1 (by omega))) (fun c96 => ?_)
        refine X_ld rfl rfl rfl rfl ?_
        refine X_ld rfl rfl rfl rfl ?_
        obtain ⟨m, hm5, hr0⟩ := hv.2.1
        obtain ⟨l, hl40, hr1⟩ := hv.2.2.1
        obtain ⟨s, hs6, hr2⟩ := hv.2.2.2.1
        obtain ⟨k, hk, hk5⟩ := hv.2.2.2.2
        have htk := l_tk_le (tx := tx) (w := x_w 9) hq1
        have hqs := l_sk_le (tx := tx) hq1
        have htk1 := l_tk_y hw
        have hwl : 1 ≤ (x_w 9).length := by decide
        have hJ2 : l_okJ (s_tI I) (upd J 9 (nI (l_tk tx n q (x_w 9)))) (l_tk tx n q (x_w 9)) := l_okJ_9 hJ
        have hg : g_row tx n (l_sk tx n q) (l_tk tx n q (x_w 9)) r1 = l_rowLine tx n m l (l_sk tx n q) (l_tk tx n q (x_w 9)) r1 := by unfold g_row; rw [n_of hr0 (by omega), n_of hr1 (by omega)]
        refine X_mcallN l_X11_X11_rowLine (c_rowLine hG d hJ2.2.1 ((hJ2.1 8 (by omega)).trans hnI) htk.2 hn8 hJ2.2.2.1 m l hr0 hm5 hr1 hl40 rfl) x_RL_n rfl rfl rfl rfl (Nat.le_of_ble_eq_true rfl) (Nat.le_of_ble_eq_true rfl) (by omega) (Nat.le_of_ble_eq_true rfl) (Nat.le_of_ble_eq_true rfl) (fun N1 hRJ3 => ?_)
        rcases hEJ3 : l_rowLine tx n m l (l_sk tx n q) (l_tk tx n q (x_w 9)) r1 with ⟨e, a⟩ | ⟨q3, rd3⟩
        · rw [hEJ3] at hRJ3
          obtain ⟨J3, rd3, hJ3, rfl, -⟩ := hRJ3
          refine X_loc (L' := [some (.ref 275), none]) ⟨rfl, trivial⟩ ?_
          exact E104 J3 rd3 e a (l_erJ_k hJ3 hJ2.1) (hR.trans (l_bi_er ((if_pos hw).trans (l_bi_er (hg.trans hEJ3)))))
        · rw [hEJ3] at hRJ3
          obtain ⟨J3, hJ3, rfl, -⟩ := hRJ3
          have hiv := g_row_ok (s_iv_tk hv) (hg.trans hEJ3)
          refine X_loc (L' := [some (.ref 275), none]) ⟨rfl, trivial⟩ ?_
          exact ih J3 rd3 q3 (l_okJ_k hJ3 hJ2.1 hJ2.2.2.2) hiv.1 (by have := hiv.1.1; omega) (hR.trans (congrArg (fun z => l_bi z (l_t3 tx n)) ((if_pos hw).trans (l_bi_ok (hg.trans hEJ3)))))
      · refine X_mcall l_X11_X11_startOf (c_startOfN hG hK (d + 24) hJ.2.1 hJ8 hq1 hn8 9 (by decide) hJ.2.2.1 hw) rfl rfl rfl rfl (Nat.le_of_ble_eq_true rfl) (Nat.le_of_ble_eq_true rfl) (by omega) (Nat.le_of_ble_eq_true rfl) (Nat.le_of_ble_eq_true rfl) ?_
        refine X_st rfl rfl rfl ?_
        refine X_goto rfl ?_
        refine X_ld rfl rfl rfl rfl ?_
        refine X_push (v := .int (-1)) rfl (by decide +kernel) ?_
        refine X_icmp_eq rfl (fun c96 => ?_) (fun c96 => absurd rfl c96)
        refine X_loc (L' := [some (.ref 275), none]) ⟨rfl, trivial⟩ ?_
        exact K114 _ r1 (l_sk tx n q) (l_okJ_9 hJ) (s_iv_sk hv) (hR.trans (l_bi_ok (if_neg (by rw [hw]; decide))))
  have K87 : ∀ (J r1 : Nat → Int32) (q : Nat), l_okJ (s_tI I) J q → s_iv n q r1 → (l_txt tx n) = l_t2 tx n (q, r1) → x_W G mX11_texts (x_Z G (d + 31) 0 0 ad0 nb0 (x_RL B T S tx gv pl (s_tI I) n (l_txt tx n)) x_noX) (mset B J T S r1 tx gv pl) 0 0 87 [some (.ref 275), none] [] := by
    intro J r1 q hJ hv hR
    have hq1 := hv.1
    have hJ8 : J 8 = nI n := (hJ.1 8 (by omega)).trans hnI
    have hqs0 := l_sk_le (tx := tx) hq1
    obtain ⟨f, hf⟩ : ∃ f, n + 1 - q = f + 1 := ⟨n - q, by omega⟩
    have hR : (l_txt tx n) = l_bi (l_rep tx n 9 (g_row tx n) (f + 1) q r1) (l_t3 tx n) := by rw [← hf]; exact hR
    refine X_ld rfl rfl rfl rfl ?_
    refine X_ldcS (i := 9) hK (List.mem_of_getElem? (i := 9) rfl) (by decide) rfl ?_
    rcases Bool.eq_false_or_eq_true (l_isw tx n q (x_w 9)) with hw | hw
    · refine X_mcall l_X11_X11_startOf (c_startOfY hG hK (d + 24) hJ.2.1 hJ8 hq1 hn8 9 (by decide) hJ.2.2.1 hw) rfl rfl rfl rfl (Nat.le_of_ble_eq_true rfl) (Nat.le_of_ble_eq_true rfl) (by omega) (Nat.le_of_ble_eq_true rfl) (Nat.le_of_ble_eq_true rfl) ?_
      refine X_st rfl rfl rfl ?_
      refine X_ld rfl rfl rfl rfl ?_
      refine X_push (v := .int (-1)) rfl (by decide +kernel) ?_
      refine X_icmp_eq rfl (fun c96 => absurd c96 (nI_ne_m1 (by omega))) (fun c96 => ?_)
      refine X_ld rfl rfl rfl rfl ?_
      refine X_ld rfl rfl rfl rfl ?_
      obtain ⟨m, hm5, hr0⟩ := hv.2.1
      obtain ⟨l, hl40, hr1⟩ := hv.2.2.1
      obtain ⟨s, hs6, hr2⟩ := hv.2.2.2.1
      obtain ⟨k, hk, hk5⟩ := hv.2.2.2.2
      have htk := l_tk_le (tx := tx) (w := x_w 9) hq1
      have hqs := l_sk_le (tx := tx) hq1
      have htk1 := l_tk_y hw
      have hwl : 1 ≤ (x_w 9).length := by decide
      have hJ2 : l_okJ (s_tI I) (upd J 9 (nI (l_tk tx n q (x_w 9)))) (l_tk tx n q (x_w 9)) := l_okJ_9 hJ
      have hg : g_row tx n (l_sk tx n q) (l_tk tx n q (x_w 9)) r1 = l_rowLine tx n m l (l_sk tx n q) (l_tk tx n q (x_w 9)) r1 := by unfold g_row; rw [n_of hr0 (by omega), n_of hr1 (by omega)]
      refine X_mcallN l_X11_X11_rowLine (c_rowLine hG d hJ2.2.1 ((hJ2.1 8 (by omega)).trans hnI) htk.2 hn8 hJ2.2.2.1 m l hr0 hm5 hr1 hl40 rfl) x_RL_n rfl rfl rfl rfl (Nat.le_of_ble_eq_true rfl) (Nat.le_of_ble_eq_true rfl) (by omega) (Nat.le_of_ble_eq_true rfl) (Nat.le_of_ble_eq_true rfl) (fun N1 hRJ3 => ?_)
      rcases hEJ3 : l_rowLine tx n m l (l_sk tx n q) (l_tk tx n q (x_w 9)) r1 with ⟨e, a⟩ | ⟨q3, rd3⟩
      · rw [hEJ3] at hRJ3
        obtain ⟨J3, rd3, hJ3, rfl, -⟩ := hRJ3
        refine X_loc (L' := [some (.ref 275), none]) ⟨rfl, trivial⟩ ?_
        exact E104 J3 rd3 e a (l_erJ_k hJ3 hJ2.1) (hR.trans (l_bi_er ((if_pos hw).trans (l_bi_er (hg.trans hEJ3)))))
      · rw [hEJ3] at hRJ3
        obtain ⟨J3, hJ3, rfl, -⟩ := hRJ3
        have hiv := g_row_ok (s_iv_tk hv) (hg.trans hEJ3)
        refine X_loc (L' := [some (.ref 275), none]) ⟨rfl, trivial⟩ ?_
        exact L104 f J3 rd3 q3 (l_okJ_k hJ3 hJ2.1 hJ2.2.2.2) hiv.1 (by have := hiv.1.1; omega) (hR.trans (congrArg (fun z => l_bi z (l_t3 tx n)) ((if_pos hw).trans (l_bi_ok (hg.trans hEJ3)))))
    · refine X_mcall l_X11_X11_startOf (c_startOfN hG hK (d + 24) hJ.2.1 hJ8 hq1 hn8 9 (by decide) hJ.2.2.1 hw) rfl rfl rfl rfl (Nat.le_of_ble_eq_true rfl) (Nat.le_of_ble_eq_true rfl) (by omega) (Nat.le_of_ble_eq_true rfl) (Nat.le_of_ble_eq_true rfl) ?_
      refine X_st rfl rfl rfl ?_
      refine X_ld rfl rfl rfl rfl ?_
      refine X_push (v := .int (-1)) rfl (by decide +kernel) ?_
      refine X_icmp_eq rfl (fun c96 => ?_) (fun c96 => absurd rfl c96)
      refine X_loc (L' := [some (.ref 275), none]) ⟨rfl, trivial⟩ ?_
      exact K114 _ r1 (l_sk tx n q) (l_okJ_9 hJ) (s_iv_sk hv) (hR.trans (l_bi_ok (if_neg (by rw [hw]; decide))))
  have L71 : ∀ (f : Nat) (J r1 : Nat → Int32) (q : Nat), l_okJ (s_tI I) J q → s_iv n q r1 → n + 1 - q ≤ f → (l_txt tx n) = l_bi (l_rep tx n 8 (g_idx tx n) f q r1) (l_t2 tx n) → x_W G mX11_texts (x_Z G (d + 31) 0 0 ad0 nb0 (x_RL B T S tx gv pl (s_tI I) n (l_txt tx n)) x_noX) (mset B J T S r1 tx gv pl) 0 0 71 [some (.ref 275), none] [] := by
    intro f
    induction f with
    | zero => intro J r1 q _ hv h1 _; have := hv.1; omega
    | succ f ih =>
      intro J r1 q hJ hv hf hR
      have hq1 := hv.1
      have hJ8 : J 8 = nI n := (hJ.1 8 (by omega)).trans hnI
      have hqs0 := l_sk_le (tx := tx) hq1
      refine X_ld rfl rfl rfl rfl ?_
      refine X_ldcS (i := 8) hK (List.mem_of_getElem? (i := 8) rfl) (by decide) rfl ?_
      refine X_mcall l_X11_X11_takes (c_takes hG hK (d + 25) hJ.2.1 hJ8 hq1 hn8 8 (by decide) hJ.2.2.1) rfl rfl rfl rfl (Nat.le_of_ble_eq_true rfl) (Nat.le_of_ble_eq_true rfl) (by omega) (Nat.le_of_ble_eq_true rfl) (Nat.le_of_ble_eq_true rfl) ?_
      refine X_if_eq rfl (fun c77 => ?_) (fun c77 => ?_)
      · have h77 : (l_isw tx n q (x_w 8)) = false := b2_0 c77
        refine X_heap (N' := mset B (upd J 9 (nI (l_sk tx n q))) T S r1 tx gv pl) (by rw [l_tk_n h77]) ?_
        refine X_loc (L' := [some (.ref 275), none]) ⟨rfl, trivial⟩ ?_
        exact K87 _ r1 (l_sk tx n q) (l_okJ_9 hJ) (s_iv_sk hv) (hR.trans (l_bi_ok (if_neg (by rw [h77]; decide))))
      · have h77 : (l_isw tx n q (x_w 8)) = true := b2_1 c77
        refine X_ld rfl rfl rfl rfl ?_
        obtain ⟨m, hm5, hr0⟩ := hv.2.1
        obtain ⟨l, hl40, hr1⟩ := hv.2.2.1
        obtain ⟨s, hs6, hr2⟩ := hv.2.2.2.1
        obtain ⟨k, hk, hk5⟩ := hv.2.2.2.2
        have htk := l_tk_le (tx := tx) (w := x_w 8) hq1
        have hqs := l_sk_le (tx := tx) hq1
        have htk1 := l_tk_y h77
        have hwl : 1 ≤ (x_w 8).length := by decide
        have hJ2 : l_okJ (s_tI I) (upd J 9 (nI (l_tk tx n q (x_w 8)))) (l_tk tx n q (x_w 8)) := l_okJ_9 hJ
        have hg : g_idx tx n (l_sk tx n q) (l_tk tx n q (x_w 8)) r1 = l_idxLine tx n m (l_tk tx n q (x_w 8)) r1 := by unfold g_idx; rw [n_of hr0 (by omega)]
        refine X_mcallN l_X11_X11_indexLine (c_indexLine hG hK (d + 23) hJ2.2.1 ((hJ2.1 8 (by omega)).trans hnI) htk.2 hn8 hJ2.2.2.1 m hr0 hm5) x_RL_n rfl rfl rfl rfl (Nat.le_of_ble_eq_true rfl) (Nat.le_of_ble_eq_true rfl) (by omega) (Nat.le_of_ble_eq_true rfl) (Nat.le_of_ble_eq_true rfl) (fun N1 hRJ3 => ?_)
        rcases hEJ3 : l_idxLine tx n m (l_tk tx n q (x_w 8)) r1 with ⟨e, a⟩ | ⟨q3, rd3⟩
        · rw [hEJ3] at hRJ3
          obtain ⟨J3, rd3, hJ3, rfl, -⟩ := hRJ3
          refine X_goto rfl ?_
          refine X_loc (L' := [some (.ref 275), none]) ⟨rfl, trivial⟩ ?_
          exact E71 J3 rd3 e a (l_erJ_k hJ3 hJ2.1) (hR.trans (l_bi_er ((if_pos h77).trans (l_bi_er (hg.trans hEJ3)))))
        · rw [hEJ3] at hRJ3
          obtain ⟨J3, hJ3, rfl, -⟩ := hRJ3
          have hiv := g_idx_ok (s_iv_tk hv) (hg.trans hEJ3)
          refine X_goto rfl ?_
          refine X_loc (L' := [some (.ref 275), none]) ⟨rfl, trivial⟩ ?_
          exact ih J3 rd3 q3 (l_okJ_k hJ3 hJ2.1 hJ2.2.2.2) hiv.1 (by have := hiv.1.1; omega) (hR.trans (congrArg (fun z => l_bi z (l_t2 tx n)) ((if_pos h77).trans (l_bi_ok (hg.trans hEJ3)))))
  have K71 : ∀ (J r1 : Nat → Int32) (q : Nat), l_okJ (s_tI I) J q → s_iv n q r1 → (l_txt tx n) = l_t1 tx n (q, r1) → x_W G mX11_texts (x_Z G (d + 31) 0 0 ad0 nb0 (x_RL B T S tx gv pl (s_tI I) n (l_txt tx n)) x_noX) (mset B J T S r1 tx gv pl) 0 0 71 [some (.ref 275), none] [] := by
    intro J r1 q hJ hv hR
    have hq1 := hv.1
    have hJ8 : J 8 = nI n := (hJ.1 8 (by omega)).trans hnI
    exact L71 _ J r1 q hJ hv (Nat.le_refl _) hR
  have L61 : ∀ (f : Nat) (J r1 : Nat → Int32) (q : Nat), l_okJ (s_tI I) J q → s_iv n q r1 → n + 1 - q ≤ f → (l_txt tx n) = l_bi (l_rep tx n 1 (g_col tx n) f q r1) (l_t1 tx n) → x_W G mX11_texts (x_Z G (d + 31) 0 0 ad0 nb0 (x_RL B T S tx gv pl (s_tI I) n (l_txt tx n)) x_noX) (mset B J T S r1 tx gv pl) 0 0 61 [some (.ref 275), none] [] := by
    intro f
    induction f with
    | zero => intro J r1 q _ hv h1 _; have := hv.1; omega
    | succ f ih =>
      intro J r1 q hJ hv hf hR
      have hq1 := hv.1
      have hJ8 : J 8 = nI n := (hJ.1 8 (by omega)).trans hnI
      have hqs0 := l_sk_le (tx := tx) hq1
      refine X_ld rfl rfl rfl rfl ?_
      refine X_ldcS (i := 1) hK (List.mem_of_getElem? (i := 1) rfl) (by decide) rfl ?_
      rcases Bool.eq_false_or_eq_true (l_isw tx n q (x_w 1)) with hw | hw
      · refine X_mcall l_X11_X11_startOf (c_startOfY hG hK (d + 24) hJ.2.1 hJ8 hq1 hn8 1 (by decide) hJ.2.2.1 hw) rfl rfl rfl rfl (Nat.le_of_ble_eq_true rfl) (Nat.le_of_ble_eq_true rfl) (by omega) (Nat.le_of_ble_eq_true rfl) (Nat.le_of_ble_eq_true rfl) ?_
        refine X_st rfl rfl rfl ?_
        refine X_goto rfl ?_
        refine X_ld rfl rfl rfl rfl ?_
        refine X_push (v := .int (-1)) rfl (by decide +kernel) ?_
        refine X_icmp_eq rfl (fun c53 => absurd c53 (nI_ne_m1 (by omega))) (fun c53 => ?_)
        refine X_ld rfl rfl rfl rfl ?_
        refine X_ld rfl rfl rfl rfl ?_
        obtain ⟨m, hm5, hr0⟩ := hv.2.1
        obtain ⟨l, hl40, hr1⟩ := hv.2.2.1
        obtain ⟨s, hs6, hr2⟩ := hv.2.2.2.1
        obtain ⟨k, hk, hk5⟩ := hv.2.2.2.2
        have htk := l_tk_le (tx := tx) (w := x_w 1) hq1
        have hqs := l_sk_le (tx := tx) hq1
        have htk1 := l_tk_y hw
        have hwl : 1 ≤ (x_w 1).length := by decide
        have hJ2 : l_okJ (s_tI I) (upd J 9 (nI (l_tk tx n q (x_w 1)))) (l_tk tx n q (x_w 1)) := l_okJ_9 hJ
        have hg : g_col tx n (l_sk tx n q) (l_tk tx n q (x_w 1)) r1 = l_colLine tx n m (l_sk tx n q) (l_tk tx n q (x_w 1)) r1 := by unfold g_col; rw [n_of hr0 (by omega)]
        refine X_mcallN l_X11_X11_columnLine (c_columnLine hG hK (d + 23) hJ2.2.1 ((hJ2.1 8 (by omega)).trans hnI) htk.2 hn8 hJ2.2.2.1 m hr0 hm5 rfl) x_RL_n rfl rfl rfl rfl (Nat.le_of_ble_eq_true rfl) (Nat.le_of_ble_eq_true rfl) (by omega) (Nat.le_of_ble_eq_true rfl) (Nat.le_of_ble_eq_true rfl) (fun N1 hRJ3 => ?_)
        rcases hEJ3 : l_colLine tx n m (l_sk tx n q) (l_tk tx n q (x_w 1)) r1 with ⟨e, a⟩ | ⟨q3, rd3⟩
        · rw [hEJ3] at hRJ3
          obtain ⟨J3, rd3, hJ3, rfl, -⟩ := hRJ3
          refine X_loc (L' := [some (.ref 275), none]) ⟨rfl, trivial⟩ ?_
          exact E61 J3 rd3 e a (l_erJ_k hJ3 hJ2.1) (hR.trans (l_bi_er ((if_pos hw).trans (l_bi_er (hg.trans hEJ3)))))
        · rw [hEJ3] at hRJ3
          obtain ⟨J3, hJ3, rfl, -⟩ := hRJ3
          have hiv := g_col_ok (s_iv_tk hv) (hg.trans hEJ3)
          refine X_loc (L' := [some (.ref 275), none]) ⟨rfl, trivial⟩ ?_
          exact ih J3 rd3 q3 (l_okJ_k hJ3 hJ2.1 hJ2.2.2.2) hiv.1 (by have := hiv.1.1; omega) (hR.trans (congrArg (fun z => l_bi z (l_t1 tx n)) ((if_pos hw).trans (l_bi_ok (hg.trans hEJ3)))))
      · refine X_mcall l_X11_X11_startOf (c_startOfN hG hK (d + 24) hJ.2.1 hJ8 hq1 hn8 1 (by decide) hJ.2.2.1 hw) rfl rfl rfl rfl (Nat.le_of_ble_eq_true rfl) (Nat.le_of_ble_eq_true rfl) (by omega) (Nat.le_of_ble_eq_true rfl) (Nat.le_of_ble_eq_true rfl) ?_
        refine X_st rfl rfl rfl ?_
        refine X_goto rfl ?_
        refine X_ld rfl rfl rfl rfl ?_
        refine X_push (v := .int (-1)) rfl (by decide +kernel) ?_
        refine X_icmp_eq rfl (fun c53 => ?_) (fun c53 => absurd rfl c53)
        refine X_loc (L' := [some (.ref 275), none]) ⟨rfl, trivial⟩ ?_
        exact K71 _ r1 (l_sk tx n q) (l_okJ_9 hJ) (s_iv_sk hv) (hR.trans (l_bi_ok (if_neg (by rw [hw]; decide))))
  have K44 : ∀ (J r1 : Nat → Int32) (q : Nat), l_okJ (s_tI I) J q → s_iv n q r1 → (l_txt tx n) = l_t0 tx n (q, r1) → x_W G mX11_texts (x_Z G (d + 31) 0 0 ad0 nb0 (x_RL B T S tx gv pl (s_tI I) n (l_txt tx n)) x_noX) (mset B J T S r1 tx gv pl) 0 0 44 [some (.ref 275), none] [] := by
    intro J r1 q hJ hv hR
    have hq1 := hv.1
    have hJ8 : J 8 = nI n := (hJ.1 8 (by omega)).trans hnI
    have hqs0 := l_sk_le (tx := tx) hq1
    obtain ⟨f, hf⟩ : ∃ f, n + 1 - q = f + 1 := ⟨n - q, by omega⟩
    have hR : (l_txt tx n) = l_bi (l_rep tx n 1 (g_col tx n) (f + 1) q r1) (l_t1 tx n) := by rw [← hf]; exact hR
    refine X_ld rfl rfl rfl rfl ?_
    refine X_ldcS (i := 1) hK (List.mem_of_getElem? (i := 1) rfl) (by decide) rfl ?_
    rcases Bool.eq_false_or_eq_true (l_isw tx n q (x_w 1)) with hw | hw
    · refine X_mcall l_X11_X11_startOf (c_startOfY hG hK (d + 24) hJ.2.1 hJ8 hq1 hn8 1 (by decide) hJ.2.2.1 hw) rfl rfl rfl rfl (Nat.le_of_ble_eq_true rfl) (Nat.le_of_ble_eq_true rfl) (by omega) (Nat.le_of_ble_eq_true rfl) (Nat.le_of_ble_eq_true rfl) ?_
      refine X_st rfl rfl rfl ?_
      refine X_ld rfl rfl rfl rfl ?_
      refine X_push (v := .int (-1)) rfl (by decide +kernel) ?_
      refine X_icmp_eq rfl (fun c53 => absurd c53 (nI_ne_m1 (by omega))) (fun c53 => ?_)
      refine X_ld rfl rfl rfl rfl ?_
      refine X_ld rfl rfl rfl rfl ?_
      obtain ⟨m, hm5, hr0⟩ := hv.2.1
      obtain ⟨l, hl40, hr1⟩ := hv.2.2.1
      obtain ⟨s, hs6, hr2⟩ := hv.2.2.2.1
      obtain ⟨k, hk, hk5⟩ := hv.2.2.2.2
      have htk := l_tk_le (tx := tx) (w := x_w 1) hq1
      have hqs := l_sk_le (tx := tx) hq1
      have htk1 := l_tk_y hw
      have hwl : 1 ≤ (x_w 1).length := by decide
      have hJ2 : l_okJ (s_tI I) (upd J 9 (nI (l_tk tx n q (x_w 1)))) (l_tk tx n q (x_w 1)) := l_okJ_9 hJ
      have hg : g_col tx n (l_sk tx n q) (l_tk tx n q (x_w 1)) r1 = l_colLine tx n m (l_sk tx n q) (l_tk tx n q (x_w 1)) r1 := by unfold g_col; rw [n_of hr0 (by omega)]
      refine X_mcallN l_X11_X11_columnLine (c_columnLine hG hK (d + 23) hJ2.2.1 ((hJ2.1 8 (by omega)).trans hnI) htk.2 hn8 hJ2.2.2.1 m hr0 hm5 rfl) x_RL_n rfl rfl rfl rfl (Nat.le_of_ble_eq_true rfl) (Nat.le_of_ble_eq_true rfl) (by omega) (Nat.le_of_ble_eq_true rfl) (Nat.le_of_ble_eq_true rfl) (fun N1 hRJ3 => ?_)
      rcases hEJ3 : l_colLine tx n m (l_sk tx n q) (l_tk tx n q (x_w 1)) r1 with ⟨e, a⟩ | ⟨q3, rd3⟩
      · rw [hEJ3] at hRJ3
        obtain ⟨J3, rd3, hJ3, rfl, -⟩ := hRJ3
        refine X_loc (L' := [some (.ref 275), none]) ⟨rfl, trivial⟩ ?_
        exact E61 J3 rd3 e a (l_erJ_k hJ3 hJ2.1) (hR.trans (l_bi_er ((if_pos hw).trans (l_bi_er (hg.trans hEJ3)))))
      · rw [hEJ3] at hRJ3
        obtain ⟨J3, hJ3, rfl, -⟩ := hRJ3
        have hiv := g_col_ok (s_iv_tk hv) (hg.trans hEJ3)
        refine X_loc (L' := [some (.ref 275), none]) ⟨rfl, trivial⟩ ?_
        exact L61 f J3 rd3 q3 (l_okJ_k hJ3 hJ2.1 hJ2.2.2.2) hiv.1 (by have := hiv.1.1; omega) (hR.trans (congrArg (fun z => l_bi z (l_t1 tx n)) ((if_pos hw).trans (l_bi_ok (hg.trans hEJ3)))))
    · refine X_mcall l_X11_X11_startOf (c_startOfN hG hK (d + 24) hJ.2.1 hJ8 hq1 hn8 1 (by decide) hJ.2.2.1 hw) rfl rfl rfl rfl (Nat.le_of_ble_eq_true rfl) (Nat.le_of_ble_eq_true rfl) (by omega) (Nat.le_of_ble_eq_true rfl) (Nat.le_of_ble_eq_true rfl) ?_
      refine X_st rfl rfl rfl ?_
      refine X_ld rfl rfl rfl rfl ?_
      refine X_push (v := .int (-1)) rfl (by decide +kernel) ?_
      refine X_icmp_eq rfl (fun c53 => ?_) (fun c53 => absurd rfl c53)
      refine X_loc (L' := [some (.ref 275), none]) ⟨rfl, trivial⟩ ?_
      exact K71 _ r1 (l_sk tx n q) (l_okJ_9 hJ) (s_iv_sk hv) (hR.trans (l_bi_ok (if_neg (by rw [hw]; decide))))
  refine X_ld rfl rfl rfl rfl ?_
  refine X_mcallv l_X11_X11_plain (c_plain hG (d + 30) ) rfl rfl rfl rfl (Nat.le_of_ble_eq_true rfl) (Nat.le_of_ble_eq_true rfl) (by omega) (Nat.le_of_ble_eq_true rfl) (Nat.le_of_ble_eq_true rfl) ?_
  refine X_ld rfl rfl rfl rfl ?_
  refine X_push (v := .int 0) rfl (by decide +kernel) ?_
  refine X_mput f_X11_69 rfl rfl ?_
  refine X_ld rfl rfl rfl rfl ?_
  refine X_push (v := .int 0) rfl (by decide +kernel) ?_
  refine X_mput f_X11_63 rfl rfl ?_
  refine X_ld rfl rfl rfl rfl ?_
  refine X_push (v := .int 0) rfl (by decide +kernel) ?_
  refine X_mput f_X11_158 rfl rfl ?_
  refine X_heap (N' := mset B (s_tI I) T S s_pl tx gv pl) rfl ?_
  refine X_ld rfl rfl rfl rfl ?_
  refine X_ldcS (i := 0) hK (List.mem_of_getElem? (i := 0) rfl) (by decide) rfl ?_
  refine X_mcall l_X11_X11_takes (c_takes hG hK (d + 25) updI0_9 ((hnI)) (Nat.zero_le n) hn8 0 (by decide) updI0_10) rfl rfl rfl rfl (Nat.le_of_ble_eq_true rfl) (Nat.le_of_ble_eq_true rfl) (by omega) (Nat.le_of_ble_eq_true rfl) (Nat.le_of_ble_eq_true rfl) ?_
  refine X_if_ne rfl (fun c25 => ?_) (fun c25 => ?_)
  · have h25 : (l_isw tx n 0 (x_w 0)) = true := b2_1 c25
    have hJ2 : l_okJ (s_tI I) (upd (s_tI I) 9 (nI (l_tk tx n 0 (x_w 0)))) (l_tk tx n 0 (x_w 0)) := ⟨x_kJ_upd (fun _ _ => rfl) (by omega), updI_eq, (updI_ne (by decide)).trans updI0_10, (updI_ne (by decide))⟩
    refine X_ld rfl rfl rfl rfl ?_
    refine X_push (v := .int 59) rfl (by decide +kernel) ?_
    have htk := l_tk_le (tx := tx) (w := x_w 0) (Nat.zero_le n)
    by_cases hs41 : l_see tx n (l_tk tx n 0 (x_w 0)) = 59
    · have hlt : l_sk tx n (l_tk tx n 0 (x_w 0)) < n := l_see_lt (by rw [hs41]; decide)
      have hiv : s_iv n (l_sk tx n (l_tk tx n 0 (x_w 0)) + 1) s_pl := ⟨hlt, ⟨0, by omega, rfl⟩, ⟨0, by omega, rfl⟩, ⟨0, by omega, rfl⟩, 0, rfl, by omega⟩
      refine X_mcallv l_X11_X11_wants (c_wantY hG d hJ2.2.1 ((hJ2.1 8 (by omega)).trans hnI) htk.2 hn8 hJ2.2.2.1 hs41) rfl rfl rfl rfl (Nat.le_of_ble_eq_true rfl) (Nat.le_of_ble_eq_true rfl) (by omega) (Nat.le_of_ble_eq_true rfl) (Nat.le_of_ble_eq_true rfl) ?_
      refine X_loc (L' := [some (.ref 275), none]) ⟨rfl, trivial⟩ ?_
      exact K44 _ s_pl _ (l_okJ_9 hJ2) hiv ((if_pos h25).trans (l_bi_ok (if_pos hs41)))
    · refine X_mcallv l_X11_X11_wants (c_wantN hG d hJ2.2.1 ((hJ2.1 8 (by omega)).trans hnI) htk.2 hn8 hJ2.2.2.1 hs41) rfl rfl rfl rfl (Nat.le_of_ble_eq_true rfl) (Nat.le_of_ble_eq_true rfl) (by omega) (Nat.le_of_ble_eq_true rfl) (Nat.le_of_ble_eq_true rfl) ?_
      refine X_loc (L' := [some (.ref 275), none]) ⟨rfl, trivial⟩ ?_
      exact E44 _ _ (-2) (l_sk tx n (l_tk tx n 0 (x_w 0))) ⟨x_kJ_upd (x_kJ_upd (x_kJ_upd hJ2.1 (by omega)) (by omega)) (by omega), ⟨_, (l_sk_le htk.2).2, (updI_ne (by decide)).trans ((updI_ne (by decide)).trans updI_eq)⟩, (updI_ne (by decide)).trans updI_eq, by decide, updI_eq⟩ ((if_pos h25).trans (l_bi_er (if_neg hs41)))
  · have h25 : (l_isw tx n 0 (x_w 0)) = false := b2_0 c25
    refine X_ld rfl rfl rfl rfl ?_
    refine X_push (v := .int (-2)) rfl (by decide +kernel) ?_
    refine X_ld rfl rfl rfl rfl ?_
    refine X_get f_X11_69 rfl rfl rfl ?_
    refine X_mcallv l_X11_X11_fails (c_fails hG (d + 30) ((updI_ne (by decide)).trans updI0_10)) rfl rfl rfl rfl (Nat.le_of_ble_eq_true rfl) (Nat.le_of_ble_eq_true rfl) (by omega) (Nat.le_of_ble_eq_true rfl) (Nat.le_of_ble_eq_true rfl) ?_
    refine X_nameI (fun J5 hJ0 => ?_)
    have hJ5 : l_erJ (s_tI I) J5 n (-2) (l_sk tx n 0) := by rw [hJ0, l_tk_n h25]; exact ⟨x_kJ_upd (x_kJ_upd (x_kJ_upd (fun _ _ => rfl) (by omega)) (by omega)) (by omega), ⟨_, hsk0.2, (updI_ne (by decide)).trans ((updI_ne (by decide)).trans updI_eq)⟩, (updI_ne (by decide)).trans updI_eq, by decide, updI_eq.trans updI_eq⟩
    refine X_ld rfl rfl rfl rfl ?_
    refine X_push (v := .int 59) rfl (by decide +kernel) ?_
    · refine X_mcallv l_X11_X11_wants (c_wantsE hG d (by rw [hJ5.2.2.1]; exact hJ5.2.2.2.1)) rfl rfl rfl rfl (Nat.le_of_ble_eq_true rfl) (Nat.le_of_ble_eq_true rfl) (by omega) (Nat.le_of_ble_eq_true rfl) (Nat.le_of_ble_eq_true rfl) ?_
      refine X_loc (L' := [some (.ref 275), none]) ⟨rfl, trivial⟩ ?_
      exact E44 J5 _ _ _ hJ5 (if_neg (by rw [h25]; decide))
