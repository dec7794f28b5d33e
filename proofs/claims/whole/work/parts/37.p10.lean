/-! ===== the reference's reader: a statement's line ===== -/
theorem s_p4_ne {rd : Nat → Int32} {s j : Nat} (hj : j < 275 + 30 * s + 17 ∨ 275 + 30 * s + 21 ≤ j) : ∀ h, h ≤ 4 → s_p4 rd s h j = rd j
  | 0, _ => rfl
  | h + 1, hh => by
    show upd (s_p4 rd s h) (275 + 30 * s + (17 + h)) (-1) j = rd j
    rw [updI_ne (by omega)]
    exact s_p4_ne hj h (by omega)
theorem s_p5_ne {rd : Nat → Int32} {s j : Nat} (hj : j < 275 + 30 * s + 21 ∨ 275 + 30 * s + 26 ≤ j) : ∀ c, c ≤ 5 → s_p5 rd s c j = rd j
  | 0, _ => rfl
  | c + 1, hh => by
    show upd (s_p5 rd s c) (275 + 30 * s + (21 + c)) 100 j = rd j
    rw [updI_ne (by omega)]
    exact s_p5_ne hj c (by omega)
theorem s_prep_ne {rd : Nat → Int32} {s j : Nat} (hj : j < 275) : s_prep rd s j = rd j := by
  unfold s_prep
  rw [updI_ne (by omega), updI_ne (by omega), s_p5_ne (by omega) 5 (Nat.le_refl _), s_p4_ne (by omega) 4 (Nat.le_refl _)]
theorem l_erJ_k {I J K : Nat → Int32} {n a : Nat} {e : Int32} (h : l_erJ J K n e a) (k : x_kJ I J) : l_erJ I K n e a := ⟨x_kJ.trans k h.1, h.2⟩
theorem c_prepareLine {G : XE} (hG : x_Kn G) (hK : x_KS G) {B : XH} {I : Nat → Int32} {T : Int64} {S : Nat → Nat → Int32} {rd tx gv pl : Nat → Int32} (d : Nat) {n p : Nat} (hp : I 9 = nI p) (hn : I 8 = nI n) (hpn : p ≤ n) (hn8 : n ≤ 800) (he : I 10 = 0) (h13 : I 13 = 0) (m s k : Nat) (hr0 : rd 0 = nI m) (hm5 : m ≤ 5) (hr2 : rd 2 = nI s) (hs6 : s ≤ 6) (hk : rd 9 = nI k) (hk5 : 5 * k ≤ 2 * p) {x : Int32} {a0 : Nat} (hx : x = nI a0) : x_M G mX11_prepareLine (d + 30) 0 0 [.ref 275, .int x] (mset B I T S rd tx gv pl) (x_RL B T S tx gv pl I n (l_prepLine tx n m s a0 p rd)) x_noX := by
  refine X_M hG okX11_prepareLine rfl (L := [some (.ref 275), some (.int x), none]) rfl (Nat.le_of_ble_eq_true rfl) (fun ad0 nb0 => ?_)
  have hsk := l_sk_le (tx := tx) hpn
  have loop4 : ∀ (J rd1 : Nat → Int32) (h16 : J 16 = nI s), x_W G mX11_prepareLine (x_Z G (d + 30) 0 0 ad0 nb0 (x_RL B T S tx gv pl I n (l_prepLine tx n m s a0 p rd)) x_noX) (mset B J T S (s_p4 rd1 s 4) tx gv pl) 0 0 79 [some (.ref 275), some (.int x), some (.int (nI 4))] [] → ∀ (f9 h : Nat), h + f9 = 4 → x_W G mX11_prepareLine (x_Z G (d + 30) 0 0 ad0 nb0 (x_RL B T S tx gv pl I n (l_prepLine tx n m s a0 p rd)) x_noX) (mset B J T S (s_p4 rd1 s h) tx gv pl) 0 0 51 [some (.ref 275), some (.int x), some (.int (nI h))] [] := by
    intro J rd1 h16 K f9
    induction f9 with
    | zero =>
      intro h e0 
      obtain rfl : h = 4 := by omega
      refine X_ld rfl rfl rfl rfl ?_
      refine X_push (v := .int 4) rfl (by decide +kernel) ?_
      refine X_icmp_ge rfl (fun c53 => ?_) (fun c53 => absurd ((n_le (a := 4) (show (4 : Int32) = nI 4 from rfl) rfl (by omega) (by omega)).mpr (by omega)) c53)
      exact K
    | succ f9 ih =>
      intro h e0 
      refine X_ld rfl rfl rfl rfl ?_
      refine X_push (v := .int 4) rfl (by decide +kernel) ?_
      refine X_icmp_ge rfl (fun c53 => absurd ((n_le (a := 4) (show (4 : Int32) = nI 4 from rfl) rfl (by omega) (by omega)).mp c53) (by omega)) (fun c53 => ?_)
      refine X_ld rfl rfl rfl rfl ?_
      refine X_get f_X11_13 rfl rfl rfl ?_
      refine X_ld rfl rfl rfl rfl ?_
      refine X_get f_X11_188 rfl rfl rfl ?_
      refine X_push (v := .int 17) rfl (by decide +kernel) ?_
      refine X_ld rfl rfl rfl rfl ?_
      refine X_bin rfl rfl ?_
      refine X_scall l_X11_X11_statementAt (c_statementAt hG (d + 29) ) rfl rfl rfl (Nat.le_of_ble_eq_true rfl) (Nat.le_of_ble_eq_true rfl) (by omega) (Nat.le_of_ble_eq_true rfl) (Nat.le_of_ble_eq_true rfl) ?_
      refine X_push (v := .int (-1)) rfl (by decide +kernel) ?_
      refine X_mRst (275 + 30 * s + (17 + h)) (m_statementAt h16 (m_add (show (17 : Int32) = nI 17 from rfl) rfl)) (by omega) rfl ?_
      refine X_iinc rfl rfl rfl ?_
      refine X_goto rfl ?_
      refine X_loc (L' := [some (.ref 275), some (.int x), some (.int (nI (h + 1)))]) ⟨rfl, rfl, congrArg Value.int (m_inc rfl).symm, trivial⟩ ?_
      exact ih (h + 1) (by omega)
  have loop5 : ∀ (J rd1 : Nat → Int32) (h16 : J 16 = nI s), x_W G mX11_prepareLine (x_Z G (d + 30) 0 0 ad0 nb0 (x_RL B T S tx gv pl I n (l_prepLine tx n m s a0 p rd)) x_noX) (mset B J T S (s_p5 (s_p4 rd1 s 4) s 5) tx gv pl) 0 0 110 [some (.ref 275), some (.int x), some (.int (nI 5))] [] → ∀ (f9 c : Nat), c + f9 = 5 → x_W G mX11_prepareLine (x_Z G (d + 30) 0 0 ad0 nb0 (x_RL B T S tx gv pl I n (l_prepLine tx n m s a0 p rd)) x_noX) (mset B J T S (s_p5 (s_p4 rd1 s 4) s c) tx gv pl) 0 0 81 [some (.ref 275), some (.int x), some (.int (nI c))] [] := by
    intro J rd1 h16 K f9
    induction f9 with
    | zero =>
      intro c e0 
      obtain rfl : c = 5 := by omega
      refine X_ld rfl rfl rfl rfl ?_
      refine X_push (v := .int 5) rfl (by decide +kernel) ?_
      refine X_icmp_ge rfl (fun c83 => ?_) (fun c83 => absurd ((n_le (a := 5) (show (5 : Int32) = nI 5 from rfl) rfl (by omega) (by omega)).mpr (by omega)) c83)
      exact K
    | succ f9 ih =>
      intro c e0 
      refine X_ld rfl rfl rfl rfl ?_
      refine X_push (v := .int 5) rfl (by decide +kernel) ?_
      refine X_icmp_ge rfl (fun c83 => absurd ((n_le (a := 5) (show (5 : Int32) = nI 5 from rfl) rfl (by omega) (by omega)).mp c83) (by omega)) (fun c83 => ?_)
      refine X_ld rfl rfl rfl rfl ?_
      refine X_get f_X11_13 rfl rfl rfl ?_
      refine X_ld rfl rfl rfl rfl ?_
      refine X_get f_X11_188 rfl rfl rfl ?_
      refine X_push (v := .int 21) rfl (by decide +kernel) ?_
      refine X_ld rfl rfl rfl rfl ?_
      refine X_bin rfl rfl ?_
      refine X_scall l_X11_X11_statementAt (c_statementAt hG (d + 29) ) rfl rfl rfl (Nat.le_of_ble_eq_true rfl) (Nat.le_of_ble_eq_true rfl) (by omega) (Nat.le_of_ble_eq_true rfl) (Nat.le_of_ble_eq_true rfl) ?_
      refine X_push (v := .int 100) rfl (by decide +kernel) ?_
      refine X_mRst (275 + 30 * s + (21 + c)) (m_statementAt h16 (m_add (show (21 : Int32) = nI 21 from rfl) rfl)) (by omega) rfl ?_
      refine X_iinc rfl rfl rfl ?_
      refine X_goto rfl ?_
      refine X_loc (L' := [some (.ref 275), some (.int x), some (.int (nI (c + 1)))]) ⟨rfl, rfl, congrArg Value.int (m_inc rfl).symm, trivial⟩ ?_
      exact ih (c + 1) (by omega)
  refine X_ld rfl rfl rfl rfl ?_
  refine X_get f_X11_13 rfl rfl rfl ?_
  refine X_push (v := .int 2) rfl (by decide +kernel) ?_
  refine X_ildn (n := 2400) 2 (show (2 : Int32) = nI 2 from rfl) (by omega) (by omega) rfl rfl ?_
  refine X_push (v := .int 6) rfl (by decide +kernel) ?_
  refine X_icmp_ne rfl (fun c8 => ?_) (fun c8 => ?_)
  · have n8 := mt (n_eq (b := 6) hr2 (show (6 : Int32) = nI 6 from rfl) (by omega) (by omega)).mpr c8
    refine X_ld rfl rfl rfl rfl ?_
    refine X_ld rfl rfl rfl rfl ?_
    refine X_get f_X11_13 rfl rfl rfl ?_
    refine X_push (v := .int 2) rfl (by decide +kernel) ?_
    refine X_ildn (n := 2400) 2 (show (2 : Int32) = nI 2 from rfl) (by omega) (by omega) rfl rfl ?_
    refine X_mput f_X11_188 rfl rfl ?_
    refine X_nameI (fun J1 hJ0 => ?_)
    have hJ1 : l_okJ I J1 p := by rw [hJ0]; exact ⟨x_kJ_upd (fun _ _ => rfl) (by omega), (updI_ne (by decide)).trans hp, (updI_ne (by decide)).trans he, updI_ne (by decide)⟩
    have h116 : J1 16 = nI s := by rw [hJ0, updI_eq]; exact hr2
    have h18n : J1 8 = nI n := by rw [hJ0, updI_ne (by decide)]; exact hn
    refine X_ld rfl rfl rfl rfl ?_
    refine X_get f_X11_63 rfl rfl rfl ?_
    refine X_if_eq rfl (fun c32 => ?_) (fun c32 => absurd hJ1.2.2.1 c32)
    refine X_ld rfl rfl rfl rfl ?_
    refine X_push (v := .int 275) rfl (by decide +kernel) ?_
    refine X_push (v := .int 30) rfl (by decide +kernel) ?_
    refine X_ld rfl rfl rfl rfl ?_
    refine X_get f_X11_188 rfl rfl rfl ?_
    refine X_mcallN l_X11_X11_freshName (c_freshName hG hK (d + 23) hJ1.2.1 h18n hpn hn8 hJ1.2.2.1 275 30 s (by omega) (by omega) (by decide) rfl rfl h116) x_RVd_n rfl rfl rfl rfl (Nat.le_of_ble_eq_true rfl) (Nat.le_of_ble_eq_true rfl) (by omega) (Nat.le_of_ble_eq_true rfl) (Nat.le_of_ble_eq_true rfl) (fun N1 hRJ => ?_)
    rcases hEJ : l_fresh rd tx n p 275 30 s with ⟨e, a⟩ | ⟨q, rd1⟩
    · rw [hEJ] at hRJ
      obtain ⟨J, rd1, hJ, rfl, -⟩ := hRJ
      have hs16 : J 16 = nI s := (hJ.1 16 (by omega)).trans h116
      refine X_push (v := .int 0) rfl (by decide +kernel) ?_
      refine X_st rfl rfl rfl ?_
      refine X_heap (N' := mset B J T S (s_p4 rd1 s 0) tx gv pl) rfl ?_
      refine X_loc (L' := [some (.ref 275), some (.int x), some (.int (nI 0))]) ⟨rfl, rfl, rfl, trivial⟩ ?_
      refine loop4 J rd1 hs16 ?_ _ 0 (Nat.zero_add _)
      refine X_push (v := .int 0) rfl (by decide +kernel) ?_
      refine X_st rfl rfl rfl ?_
      refine X_heap (N' := mset B J T S (s_p5 (s_p4 rd1 s 4) s 0) tx gv pl) rfl ?_
      refine X_loc (L' := [some (.ref 275), some (.int x), some (.int (nI 0))]) ⟨rfl, rfl, rfl, trivial⟩ ?_
      refine loop5 J rd1 hs16 ?_ _ 0 (Nat.zero_add _)
      refine X_loc (L' := [some (.ref 275), some (.int x), none]) ⟨rfl, rfl, trivial⟩ ?_
      refine X_ld rfl rfl rfl rfl ?_
      refine X_get f_X11_13 rfl rfl rfl ?_
      refine X_ld rfl rfl rfl rfl ?_
      refine X_get f_X11_188 rfl rfl rfl ?_
      refine X_push (v := .int 14) rfl (by decide +kernel) ?_
      refine X_scall l_X11_X11_statementAt (c_statementAt hG (d + 29) ) rfl rfl rfl (Nat.le_of_ble_eq_true rfl) (Nat.le_of_ble_eq_true rfl) (by omega) (Nat.le_of_ble_eq_true rfl) (Nat.le_of_ble_eq_true rfl) ?_
      refine X_push (v := .int (-2)) rfl (by decide +kernel) ?_
      refine X_mRst (275 + 30 * s + 14) (m_statementAt hs16 (show (14 : Int32) = nI 14 from rfl)) (by omega) rfl ?_
      refine X_ld rfl rfl rfl rfl ?_
      refine X_get f_X11_13 rfl rfl rfl ?_
      refine X_ld rfl rfl rfl rfl ?_
      refine X_get f_X11_188 rfl rfl rfl ?_
      refine X_push (v := .int 26) rfl (by decide +kernel) ?_
      refine X_scall l_X11_X11_statementAt (c_statementAt hG (d + 29) ) rfl rfl rfl (Nat.le_of_ble_eq_true rfl) (Nat.le_of_ble_eq_true rfl) (by omega) (Nat.le_of_ble_eq_true rfl) (Nat.le_of_ble_eq_true rfl) ?_
      refine X_ld rfl rfl rfl rfl ?_
      refine X_get f_X11_13 rfl rfl rfl ?_
      refine X_push (v := .int 9) rfl (by decide +kernel) ?_
      refine X_ildn (n := 2400) 9 (show (9 : Int32) = nI 9 from rfl) (by omega) (by omega) rfl rfl ?_
      refine X_mRst (275 + 30 * s + 26) (m_statementAt hs16 (show (26 : Int32) = nI 26 from rfl)) (by omega) rfl ?_
      refine X_heap (N' := mset B J T S (s_prep rd1 s) tx gv pl) (by unfold s_prep; rw [updI_ne (show (9 : Nat) ≠ 275 + 30 * s + 14 by omega), s_p5_ne (by omega) 5 (Nat.le_refl _), s_p4_ne (by omega) 4 (Nat.le_refl _)]) ?_
      refine X_ld rfl rfl rfl rfl ?_
      refine X_get f_X11_63 rfl rfl rfl ?_
      refine X_if_ne rfl (fun c151 => ?_) (fun c151 => absurd c151 (by rw [hJ.2.2.1]; exact hJ.2.2.2.1))
      refine X_ld rfl rfl rfl rfl ?_
      refine X_push (v := .int 59) rfl (by decide +kernel) ?_
      · refine X_mcallv l_X11_X11_wants (c_wantsE hG d (by rw [hJ.2.2.1]; exact hJ.2.2.2.1)) rfl rfl rfl rfl (Nat.le_of_ble_eq_true rfl) (Nat.le_of_ble_eq_true rfl) (by omega) (Nat.le_of_ble_eq_true rfl) (Nat.le_of_ble_eq_true rfl) ?_
        refine X_ld rfl rfl rfl rfl ?_
        refine X_get f_X11_13 rfl rfl rfl ?_
        refine X_ld rfl rfl rfl rfl ?_
        refine X_get f_X11_188 rfl rfl rfl ?_
        refine X_push (v := .int 27) rfl (by decide +kernel) ?_
        refine X_scall l_X11_X11_statementAt (c_statementAt hG (d + 29) ) rfl rfl rfl (Nat.le_of_ble_eq_true rfl) (Nat.le_of_ble_eq_true rfl) (by omega) (Nat.le_of_ble_eq_true rfl) (Nat.le_of_ble_eq_true rfl) ?_
        refine X_ld rfl rfl rfl rfl ?_
        refine X_get f_X11_13 rfl rfl rfl ?_
        refine X_push (v := .int 9) rfl (by decide +kernel) ?_
        refine X_ildn (n := 2400) 9 (show (9 : Int32) = nI 9 from rfl) (by omega) (by omega) rfl rfl ?_
        refine X_mRst (275 + 30 * s + 27) (m_statementAt hs16 (show (27 : Int32) = nI 27 from rfl)) (by omega) rfl ?_
        refine X_ld rfl rfl rfl rfl ?_
        refine X_get f_X11_63 rfl rfl rfl ?_
        refine X_if_ne rfl (fun c190 => ?_) (fun c190 => absurd c190 (by rw [hJ.2.2.1]; exact hJ.2.2.2.1))
        exact X_vret rfl rfl (x_RL_er ((if_neg n8).trans (l_bi_er hEJ)) (l_erJ_k (l_erJ_of hJ) hJ1.1)) (Nat.le_of_ble_eq_true rfl) (Nat.le_of_ble_eq_true rfl)
    · rw [hEJ] at hRJ
      obtain ⟨J, hJ, rfl, -⟩ := hRJ
      have hf := l_fresh_ok hEJ hpn
      have hs16 : J 16 = nI s := (hJ.1 16 (by omega)).trans h116
      refine X_push (v := .int 0) rfl (by decide +kernel) ?_
      refine X_st rfl rfl rfl ?_
      refine X_heap (N' := mset B J T S (s_p4 rd1 s 0) tx gv pl) rfl ?_
      refine X_loc (L' := [some (.ref 275), some (.int x), some (.int (nI 0))]) ⟨rfl, rfl, rfl, trivial⟩ ?_
      refine loop4 J rd1 hs16 ?_ _ 0 (Nat.zero_add _)
      refine X_push (v := .int 0) rfl (by decide +kernel) ?_
      refine X_st rfl rfl rfl ?_
      refine X_heap (N' := mset B J T S (s_p5 (s_p4 rd1 s 4) s 0) tx gv pl) rfl ?_
      refine X_loc (L' := [some (.ref 275), some (.int x), some (.int (nI 0))]) ⟨rfl, rfl, rfl, trivial⟩ ?_
      refine loop5 J rd1 hs16 ?_ _ 0 (Nat.zero_add _)
      refine X_loc (L' := [some (.ref 275), some (.int x), none]) ⟨rfl, rfl, trivial⟩ ?_
      refine X_ld rfl rfl rfl rfl ?_
      refine X_get f_X11_13 rfl rfl rfl ?_
      refine X_ld rfl rfl rfl rfl ?_
      refine X_get f_X11_188 rfl rfl rfl ?_
      refine X_push (v := .int 14) rfl (by decide +kernel) ?_
      refine X_scall l_X11_X11_statementAt (c_statementAt hG (d + 29) ) rfl rfl rfl (Nat.le_of_ble_eq_true rfl) (Nat.le_of_ble_eq_true rfl) (by omega) (Nat.le_of_ble_eq_true rfl) (Nat.le_of_ble_eq_true rfl) ?_
      refine X_push (v := .int (-2)) rfl (by decide +kernel) ?_
      refine X_mRst (275 + 30 * s + 14) (m_statementAt hs16 (show (14 : Int32) = nI 14 from rfl)) (by omega) rfl ?_
      refine X_ld rfl rfl rfl rfl ?_
      refine X_get f_X11_13 rfl rfl rfl ?_
      refine X_ld rfl rfl rfl rfl ?_
      refine X_get f_X11_188 rfl rfl rfl ?_
      refine X_push (v := .int 26) rfl (by decide +kernel) ?_
      refine X_scall l_X11_X11_statementAt (c_statementAt hG (d + 29) ) rfl rfl rfl (Nat.le_of_ble_eq_true rfl) (Nat.le_of_ble_eq_true rfl) (by omega) (Nat.le_of_ble_eq_true rfl) (Nat.le_of_ble_eq_true rfl) ?_
      refine X_ld rfl rfl rfl rfl ?_
      refine X_get f_X11_13 rfl rfl rfl ?_
      refine X_push (v := .int 9) rfl (by decide +kernel) ?_
      refine X_ildn (n := 2400) 9 (show (9 : Int32) = nI 9 from rfl) (by omega) (by omega) rfl rfl ?_
      refine X_mRst (275 + 30 * s + 26) (m_statementAt hs16 (show (26 : Int32) = nI 26 from rfl)) (by omega) rfl ?_
      refine X_heap (N' := mset B J T S (s_prep rd1 s) tx gv pl) (by unfold s_prep; rw [updI_ne (show (9 : Nat) ≠ 275 + 30 * s + 14 by omega), s_p5_ne (by omega) 5 (Nat.le_refl _), s_p4_ne (by omega) 4 (Nat.le_refl _)]) ?_
      refine X_ld rfl rfl rfl rfl ?_
      refine X_get f_X11_63 rfl rfl rfl ?_
      refine X_if_ne rfl (fun c151 => absurd (hJ.2.2.1) c151) (fun c151 => ?_)
      refine X_ld rfl rfl rfl rfl ?_
      refine X_push (v := .int 1) rfl (by decide +kernel) ?_
      have hk1 : (s_prep rd1 s) 9 = nI k := (s_prep_ne (by omega)).trans ((hf.2 9 (by omega)).trans hk)
      refine X_mcallN l_X11_X11_condition ((h_all hG hK (8 * (n - q) + 3) (8 * (n - q) + 3) (Nat.le_refl _)).2.2 B T S (s_prep rd1 s) tx gv pl J d n m s q k 0 6 true ⟨⟨hJ.2.1, (hJ.1 8 (by omega)).trans h18n, hf.1.2, hn8⟩, ⟨hJ.2.2.1, hJ.2.2.2.trans (hJ1.2.2.2.trans h13), hs16, by omega⟩, ⟨(s_prep_ne (by omega)).trans ((hf.2 0 (by omega)).trans hr0), hm5⟩, hk1, by omega⟩ rfl (Nat.le_refl _)) x_RC_n rfl rfl rfl rfl (Nat.le_of_ble_eq_true rfl) (Nat.le_of_ble_eq_true rfl) (by omega) (Nat.le_of_ble_eq_true rfl) (Nat.le_of_ble_eq_true rfl) (fun N1 hRJ4 => ?_)
      rcases hEJ4 : l_prs tx n m s (8 * (n - q) + 3) 3 true 0 0 q (s_prep rd1 s) with ⟨e, a⟩ | ⟨q4, rd4⟩
      · rw [hEJ4] at hRJ4
        obtain ⟨J4, rd4, kJ4, qJ4, ⟨hkJ4, h9J4, hqJ4⟩, ⟨h10J4, heJ4, h11J4⟩, ⟨hcJ4, hbJ4⟩, rfl, -⟩ := hRJ4
        have hs4 : J4 16 = nI s := (hkJ4 16 (by omega)).trans hs16
        refine X_ld rfl rfl rfl rfl ?_
        refine X_push (v := .int 59) rfl (by decide +kernel) ?_
        · refine X_mcallv l_X11_X11_wants (c_wantsE hG d (by rw [h10J4]; exact heJ4)) rfl rfl rfl rfl (Nat.le_of_ble_eq_true rfl) (Nat.le_of_ble_eq_true rfl) (by omega) (Nat.le_of_ble_eq_true rfl) (Nat.le_of_ble_eq_true rfl) ?_
          refine X_ld rfl rfl rfl rfl ?_
          refine X_get f_X11_13 rfl rfl rfl ?_
          refine X_ld rfl rfl rfl rfl ?_
          refine X_get f_X11_188 rfl rfl rfl ?_
          refine X_push (v := .int 27) rfl (by decide +kernel) ?_
          refine X_scall l_X11_X11_statementAt (c_statementAt hG (d + 29) ) rfl rfl rfl (Nat.le_of_ble_eq_true rfl) (Nat.le_of_ble_eq_true rfl) (by omega) (Nat.le_of_ble_eq_true rfl) (Nat.le_of_ble_eq_true rfl) ?_
          refine X_ld rfl rfl rfl rfl ?_
          refine X_get f_X11_13 rfl rfl rfl ?_
          refine X_push (v := .int 9) rfl (by decide +kernel) ?_
          refine X_ildn (n := 2400) 9 (show (9 : Int32) = nI 9 from rfl) (by omega) (by omega) rfl rfl ?_
          refine X_mRst (275 + 30 * s + 27) (m_statementAt hs4 (show (27 : Int32) = nI 27 from rfl)) (by omega) rfl ?_
          refine X_ld rfl rfl rfl rfl ?_
          refine X_get f_X11_63 rfl rfl rfl ?_
          refine X_if_ne rfl (fun c190 => ?_) (fun c190 => absurd c190 (by rw [h10J4]; exact heJ4))
          exact X_vret rfl rfl (x_RL_er ((if_neg n8).trans ((l_bi_ok hEJ).trans (l_bi_er hEJ4))) ⟨x_kJ.trans hJ1.1 (x_kJ.trans (x_kJ_of hJ.1) (x_kJ_of hkJ4)), ⟨_, hqJ4, h9J4⟩, h10J4, heJ4, h11J4⟩) (Nat.le_of_ble_eq_true rfl) (Nat.le_of_ble_eq_true rfl)
      · rw [hEJ4] at hRJ4
        obtain ⟨J4, hJ4, rfl, -⟩ := hRJ4
        have hs4 : J4 16 = nI s := (hJ4.1 16 (by omega)).trans hs16
        have g := l_prs_ok hn8 (by omega) (8 * (n - q) + 3) 3 true 0 0 q k (s_prep rd1 s) rd4 q4 hf.1.2 hk1 (by omega) hEJ4
        obtain ⟨g1, g2, -⟩ := g
        have hq4 := l_sk_le (tx := tx) g1.2
        have h42 : rd4 2 = nI s := (g2 2 (by omega) (by omega)).trans ((s_prep_ne (by omega)).trans ((hf.2 2 (by omega)).trans hr2))
        refine X_ld rfl rfl rfl rfl ?_
        refine X_push (v := .int 59) rfl (by decide +kernel) ?_
        by_cases hs162 : l_see tx n q4 = 59
        · refine X_mcallv l_X11_X11_wants (c_wantY hG d hJ4.2.1 ((hJ4.1 8 (by omega)).trans ((hJ.1 8 (by omega)).trans h18n)) g1.2 hn8 hJ4.2.2.1 hs162) rfl rfl rfl rfl (Nat.le_of_ble_eq_true rfl) (Nat.le_of_ble_eq_true rfl) (by omega) (Nat.le_of_ble_eq_true rfl) (Nat.le_of_ble_eq_true rfl) ?_
          refine X_nameI (fun J9 hJ0 => ?_)
          have hJ9 : l_okJ I J9 (l_sk tx n q4 + 1) := by rw [hJ0]; exact ⟨x_kJ_upd (x_kJ.trans hJ1.1 (x_kJ.trans (x_kJ_of hJ.1) (x_kJ_of hJ4.1))) (by omega), updI_eq, (updI_ne (by decide)).trans hJ4.2.2.1, (updI_ne (by decide)).trans (hJ4.2.2.2.trans (hJ.2.2.2.trans hJ1.2.2.2))⟩
          have hs9 : J9 16 = nI s := by rw [hJ0, updI_ne (by decide)]; exact hs4
          refine X_ld rfl rfl rfl rfl ?_
          refine X_get f_X11_13 rfl rfl rfl ?_
          refine X_ld rfl rfl rfl rfl ?_
          refine X_get f_X11_188 rfl rfl rfl ?_
          refine X_push (v := .int 27) rfl (by decide +kernel) ?_
          refine X_scall l_X11_X11_statementAt (c_statementAt hG (d + 29) ) rfl rfl rfl (Nat.le_of_ble_eq_true rfl) (Nat.le_of_ble_eq_true rfl) (by omega) (Nat.le_of_ble_eq_true rfl) (Nat.le_of_ble_eq_true rfl) ?_
          refine X_ld rfl rfl rfl rfl ?_
          refine X_get f_X11_13 rfl rfl rfl ?_
          refine X_push (v := .int 9) rfl (by decide +kernel) ?_
          refine X_ildn (n := 2400) 9 (show (9 : Int32) = nI 9 from rfl) (by omega) (by omega) rfl rfl ?_
          refine X_mRst (275 + 30 * s + 27) (m_statementAt hs9 (show (27 : Int32) = nI 27 from rfl)) (by omega) rfl ?_
          refine X_ld rfl rfl rfl rfl ?_
          refine X_get f_X11_63 rfl rfl rfl ?_
          refine X_if_ne rfl (fun c190 => absurd (hJ9.2.2.1) c190) (fun c190 => ?_)
          refine X_ld rfl rfl rfl rfl ?_
          refine X_get f_X11_13 rfl rfl rfl ?_
          refine X_push (v := .int 2) rfl (by decide +kernel) ?_
          refine X_dup2 rfl rfl rfl ?_
          refine X_ildn (n := 2400) 2 (show (2 : Int32) = nI 2 from rfl) (by omega) (by omega) rfl rfl ?_
          refine X_push (v := .int 1) rfl (by decide +kernel) ?_
          refine X_bin rfl rfl ?_
          refine X_mRst 2 (show (2 : Int32) = nI 2 from rfl) (by omega) rfl ?_
          exact X_vret rfl rfl (x_RL_ok ((if_neg n8).trans ((l_bi_ok hEJ).trans ((l_bi_ok hEJ4).trans ((if_pos hs162).trans (by rw [updI_ne (show (2 : Nat) ≠ 275 + 30 * s + 27 by omega), h42, show nI s + 1 = nI (s + 1) from m_add (b := 1) rfl rfl]))))) hJ9) (Nat.le_of_ble_eq_true rfl) (Nat.le_of_ble_eq_true rfl)
        · refine X_mcallv l_X11_X11_wants (c_wantN hG d hJ4.2.1 ((hJ4.1 8 (by omega)).trans ((hJ.1 8 (by omega)).trans h18n)) g1.2 hn8 hJ4.2.2.1 hs162) rfl rfl rfl rfl (Nat.le_of_ble_eq_true rfl) (Nat.le_of_ble_eq_true rfl) (by omega) (Nat.le_of_ble_eq_true rfl) (Nat.le_of_ble_eq_true rfl) ?_
          refine X_nameI (fun J9 hJ0 => ?_)
          have hJ9 : l_erJ I J9 n (-2) (l_sk tx n q4) := by rw [hJ0]; exact ⟨x_kJ_upd (x_kJ_upd (x_kJ_upd (x_kJ.trans hJ1.1 (x_kJ.trans (x_kJ_of hJ.1) (x_kJ_of hJ4.1))) (by omega)) (by omega)) (by omega), ⟨_, hq4.2, (updI_ne (by decide)).trans ((updI_ne (by decide)).trans updI_eq)⟩, (updI_ne (by decide)).trans updI_eq, by decide, updI_eq⟩
          have hs9 : J9 16 = nI s := by rw [hJ0, updI_ne (by decide), updI_ne (by decide), updI_ne (by decide)]; exact hs4
          refine X_ld rfl rfl rfl rfl ?_
          refine X_get f_X11_13 rfl rfl rfl ?_
          refine X_ld rfl rfl rfl rfl ?_
          refine X_get f_X11_188 rfl rfl rfl ?_
          refine X_push (v := .int 27) rfl (by decide +kernel) ?_
          refine X_scall l_X11_X11_statementAt (c_statementAt hG (d + 29) ) rfl rfl rfl (Nat.le_of_ble_eq_true rfl) (Nat.le_of_ble_eq_true rfl) (by omega) (Nat.le_of_ble_eq_true rfl) (Nat.le_of_ble_eq_true rfl) ?_
          refine X_ld rfl rfl rfl rfl ?_
          refine X_get f_X11_13 rfl rfl rfl ?_
          refine X_push (v := .int 9) rfl (by decide +kernel) ?_
          refine X_ildn (n := 2400) 9 (show (9 : Int32) = nI 9 from rfl) (by omega) (by omega) rfl rfl ?_
          refine X_mRst (275 + 30 * s + 27) (m_statementAt hs9 (show (27 : Int32) = nI 27 from rfl)) (by omega) rfl ?_
          refine X_ld rfl rfl rfl rfl ?_
          refine X_get f_X11_63 rfl rfl rfl ?_
          refine X_if_ne rfl (fun c190 => ?_) (fun c190 => absurd c190 (by rw [hJ9.2.2.1]; exact hJ9.2.2.2.1))
          exact X_vret rfl rfl (x_RL_er ((if_neg n8).trans ((l_bi_ok hEJ).trans ((l_bi_ok hEJ4).trans (if_neg hs162)))) hJ9) (Nat.le_of_ble_eq_true rfl) (Nat.le_of_ble_eq_true rfl)
  · have n8 := (n_eq (b := 6) hr2 (show (6 : Int32) = nI 6 from rfl) (by omega) (by omega)).mp c8
    refine X_ld rfl rfl rfl rfl ?_
    refine X_push (v := .int (-7)) rfl (by decide +kernel) ?_
    refine X_ld rfl rfl rfl rfl ?_
    refine X_mcallv l_X11_X11_fails (c_fails hG (d + 29) he) rfl rfl rfl rfl (Nat.le_of_ble_eq_true rfl) (Nat.le_of_ble_eq_true rfl) (by omega) (Nat.le_of_ble_eq_true rfl) (Nat.le_of_ble_eq_true rfl) ?_
    refine X_nameI (fun J5 hJ0 => ?_)
    have hJ5 : l_erJ I J5 n (-7) a0 := by rw [hJ0]; exact l_erJ_of (l_er_mk (p := p) x_kI_rfl ⟨Nat.le_refl _, hpn⟩ hp (by decide) hx)
    refine X_ld rfl rfl rfl rfl ?_
    refine X_ld rfl rfl rfl rfl ?_
    refine X_get f_X11_13 rfl rfl rfl ?_
    refine X_push (v := .int 2) rfl (by decide +kernel) ?_
    refine X_ildn (n := 2400) 2 (show (2 : Int32) = nI 2 from rfl) (by omega) (by omega) rfl rfl ?_
    refine X_mput f_X11_188 rfl rfl ?_
    refine X_ld rfl rfl rfl rfl ?_
    refine X_get f_X11_63 rfl rfl rfl ?_
    refine X_if_eq rfl (fun c32 => absurd ((updI_ne (by decide)).symm.trans c32 |> fun h => hJ5.2.2.1.symm.trans h) hJ5.2.2.2.1) (fun c32 => ?_)
    exact X_vret rfl rfl (x_RL_er (if_pos n8) ⟨x_kJ_upd hJ5.1 (by omega), ⟨hJ5.2.1.choose, hJ5.2.1.choose_spec.1, (updI_ne (by decide)).trans hJ5.2.1.choose_spec.2⟩, (updI_ne (by decide)).trans hJ5.2.2.1, hJ5.2.2.2.1, (updI_ne (by decide)).trans hJ5.2.2.2.2⟩) (Nat.le_of_ble_eq_true rfl) (Nat.le_of_ble_eq_true rfl)
theorem c_startOf {G : XE} (hG : x_Kn G) (hK : x_KS G) {B : XH} {I : Nat → Int32} {T : Int64} {S : Nat → Nat → Int32} {rd tx gv pl : Nat → Int32} (d : Nat) {n p : Nat} (hp : I 9 = nI p) (hn : I 8 = nI n) (hpn : p ≤ n) (hn8 : n ≤ 800) (i : Nat) (hi : i < 13) (he : I 10 = 0) : x_M G mX11_startOf (d + 6) 0 0 [.ref 275, .ref (4 + i)] (mset B I T S rd tx gv pl) (x_Ret (mset B (upd I 9 (nI (l_tk tx n p (x_w i)))) T S rd tx gv pl) (.int (if l_isw tx n p (x_w i) = true then nI (l_sk tx n p) else -1))) x_noX := by
  refine X_M hG okX11_startOf rfl (L := [some (.ref 275), some (.ref (4 + i)), none]) rfl (Nat.le_of_ble_eq_true rfl) (fun ad0 nb0 => ?_)
  refine X_ld rfl rfl rfl rfl ?_
  refine X_mcall l_X11_X11_sees (c_sees hG (d + 5) hp hn hpn hn8) rfl rfl rfl rfl (Nat.le_of_ble_eq_true rfl) (Nat.le_of_ble_eq_true rfl) (by omega) (Nat.le_of_ble_eq_true rfl) (Nat.le_of_ble_eq_true rfl) ?_
  refine X_pop rfl rfl ?_
  refine X_ld rfl rfl rfl rfl ?_
  refine X_get f_X11_69 rfl rfl rfl ?_
  refine X_st rfl rfl rfl ?_
  refine X_ld rfl rfl rfl rfl ?_
  refine X_ld rfl rfl rfl rfl ?_
  refine X_mcall l_X11_X11_takes (c_takesS hG hK d updI_eq ((updI_ne (by decide)).trans hn) hpn hn8 i hi ((updI_ne (by decide)).trans he)) rfl rfl rfl rfl (Nat.le_of_ble_eq_true rfl) (Nat.le_of_ble_eq_true rfl) (by omega) (Nat.le_of_ble_eq_true rfl) (Nat.le_of_ble_eq_true rfl) ?_
  refine X_if_eq rfl (fun c15 => ?_) (fun c15 => ?_)
  · have h15 : (l_isw tx n p (x_w i)) = false := b2_0 c15
    refine X_push (v := .int (-1)) rfl (by decide +kernel) ?_
    exact X_iret rfl rfl ⟨by rw [upd_upd], by rw [if_neg (by rw [h15]; decide)]⟩ (Nat.le_of_ble_eq_true rfl) (Nat.le_of_ble_eq_true rfl)
  · have h15 : (l_isw tx n p (x_w i)) = true := b2_1 c15
    refine X_ld rfl rfl rfl rfl ?_
    refine X_goto rfl ?_
    exact X_iret rfl rfl ⟨by rw [upd_upd], by rw [if_pos h15, updI_eq]⟩ (Nat.le_of_ble_eq_true rfl) (Nat.le_of_ble_eq_true rfl)
theorem c_startOfE {G : XE} (hG : x_Kn G) {B : XH} {I : Nat → Int32} {T : Int64} {S : Nat → Nat → Int32} {rd tx gv pl : Nat → Int32} (d : Nat) {n p : Nat} (hp : I 9 = nI p) (hn : I 8 = nI n) (hpn : p ≤ n) (hn8 : n ≤ 800) (i : Nat) (he : ¬ I 10 = 0) : x_M G mX11_startOf (d + 2) 0 0 [.ref 275, .ref (4 + i)] (mset B I T S rd tx gv pl) (x_Ret (mset B (upd I 9 (nI (l_sk tx n p))) T S rd tx gv pl) (.int (-1))) x_noX := by
  refine X_M hG okX11_startOf rfl (L := [some (.ref 275), some (.ref (4 + i)), none]) rfl (Nat.le_of_ble_eq_true rfl) (fun ad0 nb0 => ?_)
  refine X_ld rfl rfl rfl rfl ?_
  refine X_mcall l_X11_X11_sees (c_sees hG (d + 1) hp hn hpn hn8) rfl rfl rfl rfl (Nat.le_of_ble_eq_true rfl) (Nat.le_of_ble_eq_true rfl) (by omega) (Nat.le_of_ble_eq_true rfl) (Nat.le_of_ble_eq_true rfl) ?_
  refine X_pop rfl rfl ?_
  refine X_ld rfl rfl rfl rfl ?_
  refine X_get f_X11_69 rfl rfl rfl ?_
  refine X_st rfl rfl rfl ?_
  refine X_ld rfl rfl rfl rfl ?_
  refine X_ld rfl rfl rfl rfl ?_
  refine X_mcall l_X11_X11_takes (c_takesE hG d i (by rw [updI_ne (by decide)]; exact he)) rfl rfl rfl rfl (Nat.le_of_ble_eq_true rfl) (Nat.le_of_ble_eq_true rfl) (by omega) (Nat.le_of_ble_eq_true rfl) (Nat.le_of_ble_eq_true rfl) ?_
  refine X_if_eq rfl (fun c15 => ?_) (fun c15 => absurd (by decide) c15)
  refine X_push (v := .int (-1)) rfl (by decide +kernel) ?_
  exact X_iret rfl rfl ⟨rfl, rfl⟩ (Nat.le_of_ble_eq_true rfl) (Nat.le_of_ble_eq_true rfl)
