/-! ===== the reference's reader: rows, statements ===== -/
theorem l_vals_ok {tx : Nat → Int32} {n l : Nat} : ∀ (r c p : Nat) (rd rd1 : Nat → Int32) (q : Nat), p ≤ n → c + r ≤ 5 → l < 40 → l_vals tx n l r c p rd = .inr (q, rd1) → (p ≤ q ∧ q ≤ n) ∧ ∀ j, j < 75 → rd1 j = rd j
  | 0, c, p, rd, rd1, q, hp, hc, hl, h => by cases h; exact ⟨⟨Nat.le_refl _, hp⟩, fun _ _ => rfl⟩
  | r + 1, c, p, rd, rd1, q, hp, hc, hl, h => by
    obtain ⟨x, h1, h2⟩ := l_bi_inr (show l_bi (l_reads tx n p (s_most (rd (10 + 13 * c + 8)))) (fun x => l_vals tx n l r (c + 1) x.1 (upd rd (75 + 5 * l + c) x.2)) = _ from h)
    have h3 := l_reads_ok h1 hp
    have h4 := l_sk_le (tx := tx) hp
    obtain ⟨h5, h6⟩ := l_vals_ok r (c + 1) x.1 _ _ _ h3.1.2 (by omega) hl h2
    exact ⟨by omega, fun j hj => (h6 j hj).trans (updI_ne (by omega))⟩
theorem c_rowLine {G : XE} (hG : x_Kn G) {B : XH} {I : Nat → Int32} {T : Int64} {S : Nat → Nat → Int32} {rd tx gv pl : Nat → Int32} (d : Nat) {n p : Nat} (hp : I 9 = nI p) (hn : I 8 = nI n) (hpn : p ≤ n) (hn8 : n ≤ 800) (he : I 10 = 0) (m l : Nat) (hr0 : rd 0 = nI m) (hm5 : m ≤ 5) (hr1 : rd 1 = nI l) (hl4 : l ≤ 40) {x : Int32} {a0 : Nat} (hx : x = nI a0) : x_M G mX11_rowLine (d + 3) 0 0 [.ref 275, .int x] (mset B I T S rd tx gv pl) (x_RL B T S tx gv pl I n (l_rowLine tx n m l a0 p rd)) x_noX := by
  refine X_M hG okX11_rowLine rfl (L := [some (.ref 275), some (.int x), none]) rfl (Nat.le_of_ble_eq_true rfl) (fun ad0 nb0 => ?_)
  have hsk := l_sk_le (tx := tx) hpn
  have loop : ¬ m = 0 → ¬ l = 40 → ∀ (r c p2 : Nat) (rd2 J : Nat → Int32), c + r = m → l_ok I J p2 → (p ≤ p2 ∧ p2 ≤ n) → (rd2 0 = nI m ∧ rd2 1 = nI l ∧ ∀ j, j < 75 → rd2 j = rd j) → l_vals tx n l m 0 p rd = l_vals tx n l r c p2 rd2 → x_W G mX11_rowLine (x_Z G (d + 3) 0 0 ad0 nb0 (x_RL B T S tx gv pl I n (l_rowLine tx n m l a0 p rd)) x_noX) (mset B J T S rd2 tx gv pl) 0 0 36 [some (.ref 275), some (.int x), some (.int (nI c))] [] := by
    intro hm0 hl40 r
    induction r with
    | zero =>
      intro c p2 rd2 J e0 hJ hp2 hb hR
      obtain e9 : c = m := by omega
      subst c
      have hR : l_vals tx n l m 0 p rd = .inr (p2, rd2) := hR
      refine X_ld rfl rfl rfl rfl ?_
      refine X_ld rfl rfl rfl rfl ?_
      refine X_get f_X11_13 rfl rfl rfl ?_
      refine X_push (v := .int 0) rfl (by decide +kernel) ?_
      refine X_ildn (n := 2400) 0 (show (0 : Int32) = nI 0 from rfl) (by omega) (by omega) rfl rfl ?_
      refine X_icmp_ge rfl (fun c43 => ?_) (fun c43 => absurd ((n_le hb.1 rfl (by omega) (by omega)).mpr (by omega)) c43)
      refine X_ld rfl rfl rfl rfl ?_
      refine X_push (v := .int 59) rfl (by decide +kernel) ?_
      by_cases hs96 : l_see tx n p2 = 59
      · refine X_mcallv l_X11_X11_wants (c_wantY hG (d + 1) hJ.2.1 ((hJ.1 8 (by omega)).trans hn) (by omega) hn8 hJ.2.2.1 hs96) rfl rfl rfl rfl (Nat.le_of_ble_eq_true rfl) (Nat.le_of_ble_eq_true rfl) (by omega) (Nat.le_of_ble_eq_true rfl) (Nat.le_of_ble_eq_true rfl) ?_
        refine X_nameI (fun J9 hJ0 => ?_)
        have hJ9 : l_ok I J9 (l_sk tx n p2 + 1) := by rw [hJ0]; exact ⟨x_kI_upd hJ.1 (by omega), updI_eq, (updI_ne (by decide)).trans hJ.2.2.1, (updI_ne (by decide)).trans hJ.2.2.2⟩
        refine X_ld rfl rfl rfl rfl ?_
        refine X_get f_X11_63 rfl rfl rfl ?_
        refine X_if_ne rfl (fun c103 => absurd hJ9.2.2.1 c103) (fun c103 => ?_)
        refine X_ld rfl rfl rfl rfl ?_
        refine X_get f_X11_13 rfl rfl rfl ?_
        refine X_push (v := .int 1) rfl (by decide +kernel) ?_
        refine X_dup2 rfl rfl rfl ?_
        refine X_ildn (n := 2400) 1 (show (1 : Int32) = nI 1 from rfl) (by omega) (by omega) rfl rfl ?_
        refine X_push (v := .int 1) rfl (by decide +kernel) ?_
        refine X_bin rfl rfl ?_
        refine X_mRst 1 (show (1 : Int32) = nI 1 from rfl) (by omega) rfl ?_
        exact X_vret rfl rfl (x_RL_ok ((if_neg hm0).trans ((if_neg hl40).trans ((l_bi_ok hR).trans ((if_pos hs96).trans (by rw [hb.2.1, show nI l + 1 = nI (l + 1) from m_add (b := 1) rfl rfl]))))) (l_okJ_of hJ9)) (Nat.le_of_ble_eq_true rfl) (Nat.le_of_ble_eq_true rfl)
      · refine X_mcallv l_X11_X11_wants (c_wantN hG (d + 1) hJ.2.1 ((hJ.1 8 (by omega)).trans hn) (by omega) hn8 hJ.2.2.1 hs96) rfl rfl rfl rfl (Nat.le_of_ble_eq_true rfl) (Nat.le_of_ble_eq_true rfl) (by omega) (Nat.le_of_ble_eq_true rfl) (Nat.le_of_ble_eq_true rfl) ?_
        refine X_nameI (fun J9 hJ0 => ?_)
        have hJ9 : l_erJ I J9 n (-2) (l_sk tx n p2) := by rw [hJ0]; exact ⟨x_kJ_of (x_kI_upd (x_kI_upd (x_kI_upd hJ.1 (by omega)) (by omega)) (by omega)), ⟨_, (l_sk_le (tx := tx) (show p2 ≤ n by omega)).2, (updI_ne (by decide)).trans ((updI_ne (by decide)).trans updI_eq)⟩, (updI_ne (by decide)).trans updI_eq, by decide, updI_eq⟩
        refine X_ld rfl rfl rfl rfl ?_
        refine X_get f_X11_63 rfl rfl rfl ?_
        refine X_if_ne rfl (fun c103 => ?_) (fun c103 => absurd (hJ9.2.2.1.symm.trans c103) hJ9.2.2.2.1)
        exact X_vret rfl rfl (x_RL_er ((if_neg hm0).trans ((if_neg hl40).trans ((l_bi_ok hR).trans (if_neg hs96)))) hJ9) (Nat.le_of_ble_eq_true rfl) (Nat.le_of_ble_eq_true rfl)
    | succ r ih =>
      intro c p2 rd2 J e0 hJ hp2 hb hR
      have hty : s_most (rd2 (10 + 13 * c + 8)) = s_most (rd (10 + 13 * c + 8)) := by rw [hb.2.2 _ (by omega)]
      refine X_ld rfl rfl rfl rfl ?_
      refine X_ld rfl rfl rfl rfl ?_
      refine X_get f_X11_13 rfl rfl rfl ?_
      refine X_push (v := .int 0) rfl (by decide +kernel) ?_
      refine X_ildn (n := 2400) 0 (show (0 : Int32) = nI 0 from rfl) (by omega) (by omega) rfl rfl ?_
      refine X_icmp_ge rfl (fun c43 => absurd ((n_le hb.1 rfl (by omega) (by omega)).mp c43) (by omega)) (fun c43 => ?_)
      refine X_ld rfl rfl rfl rfl ?_
      refine X_get f_X11_63 rfl rfl rfl ?_
      refine X_if_ne rfl (fun c50 => absurd hJ.2.2.1 c50) (fun c50 => ?_)
      refine X_ld rfl rfl rfl rfl ?_
      refine X_get f_X11_13 rfl rfl rfl ?_
      refine X_ld rfl rfl rfl rfl ?_
      refine X_get f_X11_13 rfl rfl rfl ?_
      refine X_push (v := .int 1) rfl (by decide +kernel) ?_
      refine X_ildn (n := 2400) 1 (show (1 : Int32) = nI 1 from rfl) (by omega) (by omega) rfl rfl ?_
      refine X_ld rfl rfl rfl rfl ?_
      refine X_scall l_X11_X11_valueAt (c_valueAt hG (d + 2) ) rfl rfl rfl (Nat.le_of_ble_eq_true rfl) (Nat.le_of_ble_eq_true rfl) (by omega) (Nat.le_of_ble_eq_true rfl) (Nat.le_of_ble_eq_true rfl) ?_
      refine X_ld rfl rfl rfl rfl ?_
      refine X_push (v := .int 0) rfl (by decide +kernel) ?_
      refine X_ld rfl rfl rfl rfl ?_
      refine X_get f_X11_13 rfl rfl rfl ?_
      refine X_ld rfl rfl rfl rfl ?_
      refine X_push (v := .int 8) rfl (by decide +kernel) ?_
      refine X_scall l_X11_X11_columnAt (c_columnAt hG (d + 2) ) rfl rfl rfl (Nat.le_of_ble_eq_true rfl) (Nat.le_of_ble_eq_true rfl) (by omega) (Nat.le_of_ble_eq_true rfl) (Nat.le_of_ble_eq_true rfl) ?_
      refine X_ildn (n := 2400) (10 + 13 * c + 8) (m_columnAt rfl (show (8 : Int32) = nI 8 from rfl)) (by omega) (by omega) rfl rfl ?_
      refine X_scall l_X11_X11_mostOf (c_mostOf hG (d + 2) ) rfl rfl rfl (Nat.le_of_ble_eq_true rfl) (Nat.le_of_ble_eq_true rfl) (by omega) (Nat.le_of_ble_eq_true rfl) (Nat.le_of_ble_eq_true rfl) ?_
      refine X_mcallI l_X11_X11_reads (c_reads hG d hJ.2.1 ((hJ.1 8 (by omega)).trans hn) hp2.2 hn8 hJ.2.2.1) x_RI_i rfl rfl rfl rfl (Nat.le_of_ble_eq_true rfl) (Nat.le_of_ble_eq_true rfl) (by omega) (Nat.le_of_ble_eq_true rfl) (Nat.le_of_ble_eq_true rfl) (fun N1 vJ4 hRJ4 => ?_)
      rcases hEJ4 : l_reads tx n p2 (s_most (rd (10 + 13 * c + 8))) with ⟨e, a⟩ | ⟨q4, v_4⟩
      · rw [hty, hEJ4] at hRJ4
        obtain ⟨J4, v2, hJ4, rfl, hv⟩ := hRJ4
        cases hv
        refine X_mRst (75 + 5 * l + c) (m_valueAt hb.2.1 rfl) (by omega) rfl ?_
        refine X_iinc rfl rfl rfl ?_
        refine X_goto rfl ?_
        refine X_ld rfl rfl rfl rfl ?_
        refine X_ld rfl rfl rfl rfl ?_
        refine X_get f_X11_13 rfl rfl rfl ?_
        refine X_push (v := .int 0) rfl (by decide +kernel) ?_
        refine X_ildn (n := 2400) 0 (show (0 : Int32) = nI 0 from rfl) (by omega) (by omega) rfl rfl ?_
        refine X_icmp_ge rfl (fun c43 => ?_) (fun c43 => ?_)
        · refine X_ld rfl rfl rfl rfl ?_
          refine X_push (v := .int 59) rfl (by decide +kernel) ?_
          · refine X_mcallv l_X11_X11_wants (c_wantsE hG d (by rw [hJ4.2.2.1]; exact hJ4.2.2.2.1)) rfl rfl rfl rfl (Nat.le_of_ble_eq_true rfl) (Nat.le_of_ble_eq_true rfl) (by omega) (Nat.le_of_ble_eq_true rfl) (Nat.le_of_ble_eq_true rfl) ?_
            refine X_ld rfl rfl rfl rfl ?_
            refine X_get f_X11_63 rfl rfl rfl ?_
            refine X_if_ne rfl (fun c103 => ?_) (fun c103 => absurd (hJ4.2.2.1.symm.trans c103) hJ4.2.2.2.1)
            exact X_vret rfl rfl (x_RL_er ((if_neg hm0).trans ((if_neg hl40).trans (l_bi_er (hR.trans ((show l_vals tx n l (r + 1) c p2 rd2 = l_bi (l_reads tx n p2 (s_most (rd2 (10 + 13 * c + 8)))) (fun x => l_vals tx n l r (c + 1) x.1 (upd rd2 (75 + 5 * l + c) x.2)) from rfl).trans (l_bi_er (by rw [hty]; exact hEJ4))))))) (l_erJ_of (l_er_w hJ4 hJ.1 hp2.1))) (Nat.le_of_ble_eq_true rfl) (Nat.le_of_ble_eq_true rfl)
        · refine X_ld rfl rfl rfl rfl ?_
          refine X_get f_X11_63 rfl rfl rfl ?_
          refine X_if_ne rfl (fun c50 => ?_) (fun c50 => absurd (hJ4.2.2.1.symm.trans c50) hJ4.2.2.2.1)
          refine X_ld rfl rfl rfl rfl ?_
          refine X_push (v := .int 59) rfl (by decide +kernel) ?_
          · refine X_mcallv l_X11_X11_wants (c_wantsE hG d (by rw [hJ4.2.2.1]; exact hJ4.2.2.2.1)) rfl rfl rfl rfl (Nat.le_of_ble_eq_true rfl) (Nat.le_of_ble_eq_true rfl) (by omega) (Nat.le_of_ble_eq_true rfl) (Nat.le_of_ble_eq_true rfl) ?_
            refine X_ld rfl rfl rfl rfl ?_
            refine X_get f_X11_63 rfl rfl rfl ?_
            refine X_if_ne rfl (fun c103 => ?_) (fun c103 => absurd (hJ4.2.2.1.symm.trans c103) hJ4.2.2.2.1)
            exact X_vret rfl rfl (x_RL_er ((if_neg hm0).trans ((if_neg hl40).trans (l_bi_er (hR.trans ((show l_vals tx n l (r + 1) c p2 rd2 = l_bi (l_reads tx n p2 (s_most (rd2 (10 + 13 * c + 8)))) (fun x => l_vals tx n l r (c + 1) x.1 (upd rd2 (75 + 5 * l + c) x.2)) from rfl).trans (l_bi_er (by rw [hty]; exact hEJ4))))))) (l_erJ_of (l_er_w hJ4 hJ.1 hp2.1))) (Nat.le_of_ble_eq_true rfl) (Nat.le_of_ble_eq_true rfl)
      · rw [hty, hEJ4] at hRJ4
        obtain ⟨J4, hJ4, rfl, hv⟩ := hRJ4
        cases hv
        have hq4 := l_reads_ok hEJ4 hp2.2
        have hs4 := l_sk_le (tx := tx) hp2.2
        refine X_mRst (75 + 5 * l + c) (m_valueAt hb.2.1 rfl) (by omega) rfl ?_
        refine X_iinc rfl rfl rfl ?_
        refine X_goto rfl ?_
        refine X_loc (L' := [some (.ref 275), some (.int x), some (.int (nI (c + 1)))]) ⟨rfl, rfl, (congrArg Value.int (m_inc rfl)).symm, trivial⟩ ?_
        refine ih (c + 1) q4 _ J4 (by omega) (l_ok_w hJ4 hJ.1 hJ.2.2.2) (by omega) ⟨(updI_ne (by omega)).trans hb.1, (updI_ne (by omega)).trans hb.2.1, fun j hj => (updI_ne (by omega)).trans (hb.2.2 j hj)⟩ (hR.trans ((show l_vals tx n l (r + 1) c p2 rd2 = l_bi (l_reads tx n p2 (s_most (rd2 (10 + 13 * c + 8)))) (fun x => l_vals tx n l r (c + 1) x.1 (upd rd2 (75 + 5 * l + c) x.2)) from rfl).trans (l_bi_ok (x := (q4, vJ4)) (show l_reads tx n p2 (s_most (rd2 (10 + 13 * c + 8))) = _ by rw [hty]; exact hEJ4))))
  refine X_ld rfl rfl rfl rfl ?_
  refine X_get f_X11_13 rfl rfl rfl ?_
  refine X_push (v := .int 0) rfl (by decide +kernel) ?_
  refine X_ildn (n := 2400) 0 (show (0 : Int32) = nI 0 from rfl) (by omega) (by omega) rfl rfl ?_
  refine X_if_ne rfl (fun c6 => ?_) (fun c6 => ?_)
  · have n6 := mt (n_eq (b := 0) hr0 (show (0 : Int32) = nI 0 from rfl) (by omega) (by omega)).mpr c6
    refine X_ld rfl rfl rfl rfl ?_
    refine X_get f_X11_13 rfl rfl rfl ?_
    refine X_push (v := .int 1) rfl (by decide +kernel) ?_
    refine X_ildn (n := 2400) 1 (show (1 : Int32) = nI 1 from rfl) (by omega) (by omega) rfl rfl ?_
    refine X_push (v := .int 40) rfl (by decide +kernel) ?_
    refine X_icmp_ne rfl (fun c24 => ?_) (fun c24 => ?_)
    · have n24 := mt (n_eq (b := 40) hr1 (show (40 : Int32) = nI 40 from rfl) (by omega) (by omega)).mpr c24
      refine X_push (v := .int 0) rfl (by decide +kernel) ?_
      refine X_st rfl rfl rfl ?_
      refine X_loc (L' := [some (.ref 275), some (.int x), some (.int (nI 0))]) ⟨rfl, rfl, rfl, trivial⟩ ?_
      refine loop n6 n24 m 0 p rd I (by omega) ⟨x_kI_rfl, hp, he, rfl⟩ ⟨Nat.le_refl _, hpn⟩ ⟨hr0, hr1, fun _ _ => rfl⟩ rfl
    · have n24 := (n_eq (b := 40) hr1 (show (40 : Int32) = nI 40 from rfl) (by omega) (by omega)).mp c24
      refine X_ld rfl rfl rfl rfl ?_
      refine X_push (v := .int (-7)) rfl (by decide +kernel) ?_
      refine X_ld rfl rfl rfl rfl ?_
      refine X_mcallv l_X11_X11_fails (c_fails hG (d + 2) he) rfl rfl rfl rfl (Nat.le_of_ble_eq_true rfl) (Nat.le_of_ble_eq_true rfl) (by omega) (Nat.le_of_ble_eq_true rfl) (Nat.le_of_ble_eq_true rfl) ?_
      refine X_nameI (fun J5 hJ0 => ?_)
      have hJ5 : l_erJ I J5 n (-7) a0 := by rw [hJ0]; exact l_erJ_of (l_er_mk (p := p) x_kI_rfl ⟨Nat.le_refl _, hpn⟩ hp (by decide) hx)
      refine X_push (v := .int 0) rfl (by decide +kernel) ?_
      refine X_st rfl rfl rfl ?_
      refine X_ld rfl rfl rfl rfl ?_
      refine X_ld rfl rfl rfl rfl ?_
      refine X_get f_X11_13 rfl rfl rfl ?_
      refine X_push (v := .int 0) rfl (by decide +kernel) ?_
      refine X_ildn (n := 2400) 0 (show (0 : Int32) = nI 0 from rfl) (by omega) (by omega) rfl rfl ?_
      refine X_icmp_ge rfl (fun c43 => ?_) (fun c43 => ?_)
      · have n43 := (n_le (b := 0) hr0 (show (0 : Int32) = nI 0 from rfl) (by omega) (by omega)).mp c43
        refine X_ld rfl rfl rfl rfl ?_
        refine X_push (v := .int 59) rfl (by decide +kernel) ?_
        · refine X_mcallv l_X11_X11_wants (c_wantsE hG d (by rw [hJ5.2.2.1]; exact hJ5.2.2.2.1)) rfl rfl rfl rfl (Nat.le_of_ble_eq_true rfl) (Nat.le_of_ble_eq_true rfl) (by omega) (Nat.le_of_ble_eq_true rfl) (Nat.le_of_ble_eq_true rfl) ?_
          refine X_ld rfl rfl rfl rfl ?_
          refine X_get f_X11_63 rfl rfl rfl ?_
          refine X_if_ne rfl (fun c103 => ?_) (fun c103 => absurd (hJ5.2.2.1.symm.trans c103) hJ5.2.2.2.1)
          exact X_vret rfl rfl (x_RL_er ((if_neg n6).trans (if_pos n24)) hJ5) (Nat.le_of_ble_eq_true rfl) (Nat.le_of_ble_eq_true rfl)
      · have n43 := mt (n_le (b := 0) hr0 (show (0 : Int32) = nI 0 from rfl) (by omega) (by omega)).mpr c43
        refine X_ld rfl rfl rfl rfl ?_
        refine X_get f_X11_63 rfl rfl rfl ?_
        refine X_if_ne rfl (fun c50 => ?_) (fun c50 => absurd (hJ5.2.2.1.symm.trans c50) hJ5.2.2.2.1)
        refine X_ld rfl rfl rfl rfl ?_
        refine X_push (v := .int 59) rfl (by decide +kernel) ?_
        · refine X_mcallv l_X11_X11_wants (c_wantsE hG d (by rw [hJ5.2.2.1]; exact hJ5.2.2.2.1)) rfl rfl rfl rfl (Nat.le_of_ble_eq_true rfl) (Nat.le_of_ble_eq_true rfl) (by omega) (Nat.le_of_ble_eq_true rfl) (Nat.le_of_ble_eq_true rfl) ?_
          refine X_ld rfl rfl rfl rfl ?_
          refine X_get f_X11_63 rfl rfl rfl ?_
          refine X_if_ne rfl (fun c103 => ?_) (fun c103 => absurd (hJ5.2.2.1.symm.trans c103) hJ5.2.2.2.1)
          exact X_vret rfl rfl (x_RL_er ((if_neg n6).trans (if_pos n24)) hJ5) (Nat.le_of_ble_eq_true rfl) (Nat.le_of_ble_eq_true rfl)
  · have n6 := (n_eq (b := 0) hr0 (show (0 : Int32) = nI 0 from rfl) (by omega) (by omega)).mp c6
    refine X_ld rfl rfl rfl rfl ?_
    refine X_push (v := .int (-2)) rfl (by decide +kernel) ?_
    refine X_ld rfl rfl rfl rfl ?_
    refine X_mcallv l_X11_X11_fails (c_fails hG (d + 2) he) rfl rfl rfl rfl (Nat.le_of_ble_eq_true rfl) (Nat.le_of_ble_eq_true rfl) (by omega) (Nat.le_of_ble_eq_true rfl) (Nat.le_of_ble_eq_true rfl) ?_
    refine X_nameI (fun J5 hJ0 => ?_)
    have hJ5 : l_erJ I J5 n (-2) a0 := by rw [hJ0]; exact l_erJ_of (l_er_mk (p := p) x_kI_rfl ⟨Nat.le_refl _, hpn⟩ hp (by decide) hx)
    refine X_ld rfl rfl rfl rfl ?_
    refine X_get f_X11_13 rfl rfl rfl ?_
    refine X_push (v := .int 1) rfl (by decide +kernel) ?_
    refine X_ildn (n := 2400) 1 (show (1 : Int32) = nI 1 from rfl) (by omega) (by omega) rfl rfl ?_
    refine X_push (v := .int 40) rfl (by decide +kernel) ?_
    refine X_icmp_ne rfl (fun c24 => ?_) (fun c24 => ?_)
    · have n24 := mt (n_eq (b := 40) hr1 (show (40 : Int32) = nI 40 from rfl) (by omega) (by omega)).mpr c24
      refine X_push (v := .int 0) rfl (by decide +kernel) ?_
      refine X_st rfl rfl rfl ?_
      refine X_ld rfl rfl rfl rfl ?_
      refine X_ld rfl rfl rfl rfl ?_
      refine X_get f_X11_13 rfl rfl rfl ?_
      refine X_push (v := .int 0) rfl (by decide +kernel) ?_
      refine X_ildn (n := 2400) 0 (show (0 : Int32) = nI 0 from rfl) (by omega) (by omega) rfl rfl ?_
      refine X_icmp_ge rfl (fun c43 => ?_) (fun c43 => ?_)
      · have n43 := (n_le (b := 0) hr0 (show (0 : Int32) = nI 0 from rfl) (by omega) (by omega)).mp c43
        refine X_ld rfl rfl rfl rfl ?_
        refine X_push (v := .int 59) rfl (by decide +kernel) ?_
        · refine X_mcallv l_X11_X11_wants (c_wantsE hG d (by rw [hJ5.2.2.1]; exact hJ5.2.2.2.1)) rfl rfl rfl rfl (Nat.le_of_ble_eq_true rfl) (Nat.le_of_ble_eq_true rfl) (by omega) (Nat.le_of_ble_eq_true rfl) (Nat.le_of_ble_eq_true rfl) ?_
          refine X_ld rfl rfl rfl rfl ?_
          refine X_get f_X11_63 rfl rfl rfl ?_
          refine X_if_ne rfl (fun c103 => ?_) (fun c103 => absurd (hJ5.2.2.1.symm.trans c103) hJ5.2.2.2.1)
          exact X_vret rfl rfl (x_RL_er (if_pos n6) hJ5) (Nat.le_of_ble_eq_true rfl) (Nat.le_of_ble_eq_true rfl)
      · have n43 := mt (n_le (b := 0) hr0 (show (0 : Int32) = nI 0 from rfl) (by omega) (by omega)).mpr c43
        refine X_ld rfl rfl rfl rfl ?_
        refine X_get f_X11_63 rfl rfl rfl ?_
        refine X_if_ne rfl (fun c50 => ?_) (fun c50 => absurd (hJ5.2.2.1.symm.trans c50) hJ5.2.2.2.1)
        refine X_ld rfl rfl rfl rfl ?_
        refine X_push (v := .int 59) rfl (by decide +kernel) ?_
        · refine X_mcallv l_X11_X11_wants (c_wantsE hG d (by rw [hJ5.2.2.1]; exact hJ5.2.2.2.1)) rfl rfl rfl rfl (Nat.le_of_ble_eq_true rfl) (Nat.le_of_ble_eq_true rfl) (by omega) (Nat.le_of_ble_eq_true rfl) (Nat.le_of_ble_eq_true rfl) ?_
          refine X_ld rfl rfl rfl rfl ?_
          refine X_get f_X11_63 rfl rfl rfl ?_
          refine X_if_ne rfl (fun c103 => ?_) (fun c103 => absurd (hJ5.2.2.1.symm.trans c103) hJ5.2.2.2.1)
          exact X_vret rfl rfl (x_RL_er (if_pos n6) hJ5) (Nat.le_of_ble_eq_true rfl) (Nat.le_of_ble_eq_true rfl)
    · have n24 := (n_eq (b := 40) hr1 (show (40 : Int32) = nI 40 from rfl) (by omega) (by omega)).mp c24
      refine X_ld rfl rfl rfl rfl ?_
      refine X_push (v := .int (-7)) rfl (by decide +kernel) ?_
      refine X_ld rfl rfl rfl rfl ?_
      refine X_mcallv l_X11_X11_fails (c_failsE hG (d + 2) (by rw [hJ5.2.2.1]; exact hJ5.2.2.2.1)) rfl rfl rfl rfl (Nat.le_of_ble_eq_true rfl) (Nat.le_of_ble_eq_true rfl) (by omega) (Nat.le_of_ble_eq_true rfl) (Nat.le_of_ble_eq_true rfl) ?_
      refine X_push (v := .int 0) rfl (by decide +kernel) ?_
      refine X_st rfl rfl rfl ?_
      refine X_ld rfl rfl rfl rfl ?_
      refine X_ld rfl rfl rfl rfl ?_
      refine X_get f_X11_13 rfl rfl rfl ?_
      refine X_push (v := .int 0) rfl (by decide +kernel) ?_
      refine X_ildn (n := 2400) 0 (show (0 : Int32) = nI 0 from rfl) (by omega) (by omega) rfl rfl ?_
      refine X_icmp_ge rfl (fun c43 => ?_) (fun c43 => ?_)
      · have n43 := (n_le (b := 0) hr0 (show (0 : Int32) = nI 0 from rfl) (by omega) (by omega)).mp c43
        refine X_ld rfl rfl rfl rfl ?_
        refine X_push (v := .int 59) rfl (by decide +kernel) ?_
        · refine X_mcallv l_X11_X11_wants (c_wantsE hG d (by rw [hJ5.2.2.1]; exact hJ5.2.2.2.1)) rfl rfl rfl rfl (Nat.le_of_ble_eq_true rfl) (Nat.le_of_ble_eq_true rfl) (by omega) (Nat.le_of_ble_eq_true rfl) (Nat.le_of_ble_eq_true rfl) ?_
          refine X_ld rfl rfl rfl rfl ?_
          refine X_get f_X11_63 rfl rfl rfl ?_
          refine X_if_ne rfl (fun c103 => ?_) (fun c103 => absurd (hJ5.2.2.1.symm.trans c103) hJ5.2.2.2.1)
          exact X_vret rfl rfl (x_RL_er (if_pos n6) hJ5) (Nat.le_of_ble_eq_true rfl) (Nat.le_of_ble_eq_true rfl)
      · have n43 := mt (n_le (b := 0) hr0 (show (0 : Int32) = nI 0 from rfl) (by omega) (by omega)).mpr c43
        refine X_ld rfl rfl rfl rfl ?_
        refine X_get f_X11_63 rfl rfl rfl ?_
        refine X_if_ne rfl (fun c50 => ?_) (fun c50 => absurd (hJ5.2.2.1.symm.trans c50) hJ5.2.2.2.1)
        refine X_ld rfl rfl rfl rfl ?_
        refine X_push (v := .int 59) rfl (by decide +kernel) ?_
        · refine X_mcallv l_X11_X11_wants (c_wantsE hG d (by rw [hJ5.2.2.1]; exact hJ5.2.2.2.1)) rfl rfl rfl rfl (Nat.le_of_ble_eq_true rfl) (Nat.le_of_ble_eq_true rfl) (by omega) (Nat.le_of_ble_eq_true rfl) (Nat.le_of_ble_eq_true rfl) ?_
          refine X_ld rfl rfl rfl rfl ?_
          refine X_get f_X11_63 rfl rfl rfl ?_
          refine X_if_ne rfl (fun c103 => ?_) (fun c103 => absurd (hJ5.2.2.1.symm.trans c103) hJ5.2.2.2.1)
          exact X_vret rfl rfl (x_RL_er (if_pos n6) hJ5) (Nat.le_of_ble_eq_true rfl) (Nat.le_of_ble_eq_true rfl)
