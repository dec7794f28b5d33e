/-! ===== the reference's reader: conditions, the methods (2) ===== -/
theorem h_con_s {G : XE} (hG : x_Kn G) (hK : x_KS G) {f : Nat} (hter : ∀ f2, f2 ≤ f → h_ter G f2) : h_con G (f + 1) := by
  intro B T S rd tx gv pl I d n m w p k h r z hpre hr hf
  obtain ⟨⟨hp, hn, hpn, hn8⟩, ⟨he, h13, h16, hw6⟩, ⟨hr0, hm5⟩, hk, hk5⟩ := hpre
  have hsk := l_sk_le (tx := tx) hpn
  refine X_M hG okX11_condition rfl (L := [some (.ref 275), some (.int (b2 z)), none, none, none]) rfl (Nat.le_of_ble_eq_true rfl) (fun ad0 nb0 => ?_)
  have loop : ∀ f2, f2 ≤ f → ∀ (one : Bool) (p2 k2 : Nat) (rd2 J : Nat → Int32), l_ok I J p2 → p2 ≤ n → (rd2 0 = nI m ∧ rd2 9 = nI k2 ∧ k ≤ k2 ∧ 5 * k2 + 2 * p + 1 ≤ 5 * k + 2 * p2) → 8 * (n - p2) + 1 ≤ f2 → l_prs tx n m w (f + 1) 3 z h 0 p rd = l_prs tx n m w f2 4 one h k p2 rd2 → x_W G mX11_condition (x_Z G (d + 3 * r + 11) 0 0 ad0 nb0 (x_RC B T S tx gv pl I p n k (l_prs tx n m w (f + 1) 3 z h 0 p rd)) x_noX) (mset B J T S rd2 tx gv pl) 0 0 15 [some (.ref 275), some (.int (b2 z)), some (.int (nI k)), some (.int (b2 one)), none] [] := by
    intro f2
    induction f2 with
    | zero => intro _ one p2 k2 rd2 J _ _ _ h1 _; omega
    | succ f2 ih =>
      intro hle one p2 k2 rd2 J hJ hp2 hb hf2 hR
      refine X_ld rfl rfl rfl rfl ?_
      refine X_get f_X11_63 rfl rfl rfl ?_
      refine X_if_ne rfl (fun c19 => absurd (hJ.2.2.1) c19) (fun c19 => ?_)
      refine X_ld rfl rfl rfl rfl ?_
      refine X_ldcS (i := 2) hK (List.mem_of_getElem? (i := 2) rfl) (by decide) rfl ?_
      refine X_mcall l_X11_X11_takes (c_takes hG hK (d + 3 * r + 5) hJ.2.1 ((hJ.1 8 (by omega)).trans hn) hp2 hn8 2 (by decide) hJ.2.2.1) rfl rfl rfl rfl (Nat.le_of_ble_eq_true rfl) (Nat.le_of_ble_eq_true rfl) (Nat.le_refl _) (Nat.le_of_ble_eq_true rfl) (Nat.le_of_ble_eq_true rfl) ?_
      refine X_if_eq rfl (fun c28 => ?_) (fun c28 => ?_)
      · have h28 : (l_isw tx n p2 (x_w 2)) = false := b2_0 c28
        exact X_vret rfl rfl (x_RC_ok (hR.trans (l_prs_4.trans (if_neg (by rw [h28]; decide)))) ⟨x_kI_upd hJ.1 (by omega), (updI_eq.trans (congrArg nI (l_tk_n h28))), (updI_ne (by decide)).trans hJ.2.2.1, (updI_ne (by decide)).trans hJ.2.2.2⟩) (Nat.le_of_ble_eq_true rfl) (Nat.le_of_ble_eq_true rfl)
      · have h28 : (l_isw tx n p2 (x_w 2)) = true := b2_1 c28
        have htk := l_tk_le (tx := tx) (w := x_w 2) hp2
        have h1 : (l_tk tx n p2 (x_w 2)) = l_sk tx n p2 + 2 := l_tk_y h28
        have hs2 := l_sk_le (tx := tx) hp2
        have K68 : ∀ rd3 : Nat → Int32, rd3 = (bif one then s_clr rd2 k (n_ (rd2 9) - k) else rd2) → rd3 0 = nI m → rd3 9 = nI k2 → x_W G mX11_condition (x_Z G (d + 3 * r + 11) 0 0 ad0 nb0 (x_RC B T S tx gv pl I p n k (l_prs tx n m w (f + 1) 3 z h 0 p rd)) x_noX) (mset B (upd J 9 (nI (l_tk tx n p2 (x_w 2)))) T S rd3 tx gv pl) 0 0 68 [some (.ref 275), some (.int (b2 z)), some (.int (nI k)), none, none] [] := by
          intro rd3 hrd3 h30 h39
          refine X_push (v := .int 0) rfl (by decide +kernel) ?_
          refine X_st rfl rfl rfl ?_
          refine X_ld rfl rfl rfl rfl ?_
          refine X_push (v := .int 0) rfl (by decide +kernel) ?_
          refine X_mcallN l_X11_X11_term (hter f2 (by omega) B T S rd3 tx gv pl _ d n m w (l_tk tx n p2 (x_w 2)) k2 h r false ⟨⟨updI_eq, ((updI_ne (by decide)).trans ((hJ.1 8 (by omega)).trans hn)), htk.2, hn8⟩, ⟨((updI_ne (by decide)).trans hJ.2.2.1), ((updI_ne (by decide)).trans (hJ.2.2.2.trans h13)), ((updI_ne (by decide)).trans ((hJ.1 16 (by omega)).trans h16)), hw6⟩, ⟨h30, hm5⟩, h39, by omega⟩ hr (by omega)) x_RC_n rfl rfl rfl rfl (Nat.le_of_ble_eq_true rfl) (Nat.le_of_ble_eq_true rfl) (Nat.le_refl _) (Nat.le_of_ble_eq_true rfl) (Nat.le_of_ble_eq_true rfl) (fun N1 hRJ5 => ?_)
          rcases hEJ5 : l_prs tx n m w f2 1 false h 0 (l_tk tx n p2 (x_w 2)) rd3 with ⟨e, a⟩ | ⟨q5, rd5⟩
          · rw [hEJ5] at hRJ5
            obtain ⟨J5, rd5, kJ5, qJ5, ⟨hkJ5, h9J5, hqJ5⟩, ⟨h10J5, heJ5, h11J5⟩, ⟨hcJ5, hbJ5⟩, rfl, -⟩ := hRJ5
            refine X_ld rfl rfl rfl rfl ?_
            refine X_push (v := .int 2) rfl (by decide +kernel) ?_
            refine X_push (v := .int 0) rfl (by decide +kernel) ?_
            refine X_mcall l_X11_X11_codes (c_codes hG (d + 3 * r + 9) kJ5 hcJ5 (by omega)) rfl rfl rfl rfl (Nat.le_of_ble_eq_true rfl) (Nat.le_of_ble_eq_true rfl) (Nat.le_refl _) (Nat.le_of_ble_eq_true rfl) (Nat.le_of_ble_eq_true rfl) ?_
            refine X_st rfl rfl rfl ?_
            refine X_goto rfl ?_
            refine X_ld rfl rfl rfl rfl ?_
            refine X_get f_X11_63 rfl rfl rfl ?_
            refine X_if_ne rfl (fun c19 => ?_) (fun c19 => absurd (h10J5.symm.trans c19) heJ5)
            exact X_vret rfl rfl (x_RC_er2 ((hR.trans (l_prs_4.trans (if_pos h28))).trans ((by rw [← hrd3] : _ = _).trans (l_bi_er hEJ5))) (x_kI.trans (x_kI_upd hJ.1 (by omega)) hkJ5) h9J5 hqJ5 h10J5 heJ5 h11J5 s_code_9 (by omega)) (Nat.le_of_ble_eq_true rfl) (Nat.le_of_ble_eq_true rfl)
          · rw [hEJ5] at hRJ5
            obtain ⟨J5, hJ5, rfl, -⟩ := hRJ5
            obtain ⟨kk, hkk, hkk9⟩ : ∃ kk, rd5 9 = nI kk ∧ 5 * kk + 2 * (l_tk tx n p2 (x_w 2)) + 1 ≤ 5 * k2 + 2 * q5 ∧ q5 ≤ n := by
              have g := l_prs_ok hn8 (by omega) f2 1 false h 0 (l_tk tx n p2 (x_w 2)) k2 rd3 rd5 q5 htk.2 h39 (by omega) hEJ5
              obtain ⟨g1, -, k5, g3, -, g5⟩ := g
              exact ⟨k5, g3, g5, g1.2⟩
            refine X_ld rfl rfl rfl rfl ?_
            refine X_push (v := .int 2) rfl (by decide +kernel) ?_
            refine X_push (v := .int 0) rfl (by decide +kernel) ?_
            refine X_mcall l_X11_X11_codes (c_codes hG (d + 3 * r + 9) kk hkk (by omega)) rfl rfl rfl rfl (Nat.le_of_ble_eq_true rfl) (Nat.le_of_ble_eq_true rfl) (Nat.le_refl _) (Nat.le_of_ble_eq_true rfl) (Nat.le_of_ble_eq_true rfl) ?_
            refine X_st rfl rfl rfl ?_
            refine X_goto rfl ?_
            refine X_loc (L' := [some (.ref 275), some (.int (b2 z)), some (.int (nI k)), some (.int (b2 false)), none]) ⟨rfl, rfl, rfl, rfl, trivial⟩ ?_
            have g := l_prs_ok hn8 (by omega) f2 1 false h 0 (l_tk tx n p2 (x_w 2)) k2 rd3 rd5 q5 htk.2 h39 (by omega) hEJ5
            change s_pk 1 _ _ _ _ _ _ at g
            obtain ⟨g1, g2, k5, g3, g4, g5⟩ := g
            obtain e5 : k5 = kk := (nI_eq (by omega) (by omega)).mp (g3.symm.trans hkk)
            subst kk
            exact ih (by omega) false q5 (k5 + 1) _ J5 ⟨x_kI.trans (x_kI_upd hJ.1 (by omega)) hJ5.1, hJ5.2.1, hJ5.2.2.1, hJ5.2.2.2.trans ((updI_ne (by decide)).trans hJ.2.2.2)⟩ g1.2 ⟨(s_code_ne (by omega) (by omega)).trans ((g2 0 (by omega) (by omega)).trans h30), s_code_9, by omega, by omega⟩ (by omega) ((hR.trans (l_prs_4.trans (if_pos h28))).trans ((by rw [← hrd3] : _ = _).trans ((l_bi_ok hEJ5).trans (by show l_prs tx n m w f2 4 false h k q5 (s_code rd5 (n_ (rd5 9)) 2 0) = _; rw [n_of g3 (by omega)]))))
        refine X_ld rfl rfl rfl rfl ?_
        refine X_if_eq rfl (fun c32 => ?_) (fun c32 => ?_)
        · have h32 : (one) = false := b2_0 c32
          refine X_loc (L' := [some (.ref 275), some (.int (b2 z)), some (.int (nI k)), none, none]) ⟨rfl, rfl, rfl, trivial⟩ ?_
          exact K68 _ (by rw [h32]; rfl) hb.1 hb.2.1
        · have h32 : (one) = true := b2_1 c32
          refine X_ld rfl rfl rfl rfl ?_
          refine X_st rfl rfl rfl ?_
          refine X_loc (L' := [some (.ref 275), some (.int (b2 z)), some (.int (nI k)), some (.int 1), some (.int (nI k))]) ⟨rfl, rfl, rfl, congrArg (fun q => Value.int (b2 q)) h32.symm, rfl, trivial⟩ ?_
          have e2 : n_ (rd2 9) - k = k2 - k := by rw [n_of hb.2.1 (by omega)]
          have hcl : ∀ (f9 j : Nat), j + f9 = k2 - k → x_W G mX11_condition (x_Z G (d + 3 * r + 11) 0 0 ad0 nb0 (x_RC B T S tx gv pl I p n k (l_prs tx n m w (f + 1) 3 z h 0 p rd)) x_noX) (mset B (upd J 9 (nI (l_tk tx n p2 (x_w 2)))) T S (s_clr rd2 k j) tx gv pl) 0 0 38 [some (.ref 275), some (.int (b2 z)), some (.int (nI k)), some (.int 1), some (.int (nI (k + j)))] [] := by
            intro f9
            induction f9 with
            | zero =>
              intro j e0
              obtain rfl : j = k2 - k := by omega
              refine X_ld rfl rfl rfl rfl ?_
              refine X_ld rfl rfl rfl rfl ?_
              refine X_get f_X11_13 rfl rfl rfl ?_
              refine X_push (v := .int 9) rfl (by decide +kernel) ?_
              refine X_ildn (n := 2400) 9 (show (9 : Int32) = nI 9 from rfl) (by omega) (by omega) rfl rfl ?_
              refine X_icmp_ge rfl (fun c47 => ?_) (fun c47 => absurd ((n_le ((s_clr_ne (by omega) _).trans hb.2.1) rfl (by omega) (by omega)).mpr (by omega)) c47)
              refine X_loc (L' := [some (.ref 275), some (.int (b2 z)), some (.int (nI k)), none, none]) ⟨rfl, rfl, rfl, trivial⟩ ?_
              exact K68 _ (by rw [h32, e2]; rfl) ((s_clr_ne (by omega) _).trans hb.1) ((s_clr_ne (by omega) _).trans hb.2.1)
            | succ f9 ih9 =>
              intro j e0
              refine X_ld rfl rfl rfl rfl ?_
              refine X_ld rfl rfl rfl rfl ?_
              refine X_get f_X11_13 rfl rfl rfl ?_
              refine X_push (v := .int 9) rfl (by decide +kernel) ?_
              refine X_ildn (n := 2400) 9 (show (9 : Int32) = nI 9 from rfl) (by omega) (by omega) rfl rfl ?_
              refine X_icmp_ge rfl (fun c47 => absurd ((n_le ((s_clr_ne (by omega) _).trans hb.2.1) rfl (by omega) (by omega)).mp c47) (by omega)) (fun c47 => ?_)
              refine X_ld rfl rfl rfl rfl ?_
              refine X_get f_X11_13 rfl rfl rfl ?_
              refine X_ld rfl rfl rfl rfl ?_
              refine X_push (v := .int 5) rfl (by decide +kernel) ?_
              refine X_scall l_X11_X11_codeAt (c_codeAt hG (d + 3 * r + 10) ) rfl rfl rfl (Nat.le_of_ble_eq_true rfl) (Nat.le_of_ble_eq_true rfl) (Nat.le_refl _) (Nat.le_of_ble_eq_true rfl) (Nat.le_of_ble_eq_true rfl) ?_
              refine X_push (v := .int 0) rfl (by decide +kernel) ?_
              refine X_mRst (455 + 6 * (k + j) + 5) (m_codeAt rfl (show (5 : Int32) = nI 5 from rfl)) (by omega) rfl ?_
              refine X_iinc rfl rfl rfl ?_
              refine X_goto rfl ?_
              refine X_heap (N' := mset B (upd J 9 (nI (l_tk tx n p2 (x_w 2)))) T S (s_clr rd2 k (j + 1)) tx gv pl) rfl ?_
              refine X_loc (L' := [some (.ref 275), some (.int (b2 z)), some (.int (nI k)), some (.int 1), some (.int (nI (k + j + 1)))]) ⟨rfl, rfl, rfl, rfl, (congrArg Value.int (m_inc rfl)).symm, trivial⟩ ?_
              exact ih9 (j + 1) (by omega)
          refine X_heap (N' := mset B (upd J 9 (nI (l_tk tx n p2 (x_w 2)))) T S (s_clr rd2 k 0) tx gv pl) rfl ?_
          refine X_loc (L' := [some (.ref 275), some (.int (b2 z)), some (.int (nI k)), some (.int 1), some (.int (nI (k + 0)))]) ⟨rfl, rfl, rfl, rfl, rfl, trivial⟩ ?_
          exact hcl (k2 - k) 0 (by omega)
  refine X_ld rfl rfl rfl rfl ?_
  refine X_get f_X11_13 rfl rfl rfl ?_
  refine X_push (v := .int 9) rfl (by decide +kernel) ?_
  refine X_ildn (n := 2400) 9 (show (9 : Int32) = nI 9 from rfl) (by omega) (by omega) rfl rfl ?_
  refine X_st rfl rfl rfl ?_
  refine X_ld rfl rfl rfl rfl ?_
  refine X_ld rfl rfl rfl rfl ?_
  refine X_mcallN l_X11_X11_term (hter f (Nat.le_refl _) B T S rd tx gv pl _ d n m w p k h r z ⟨⟨hp, hn, hpn, hn8⟩, ⟨he, h13, h16, hw6⟩, ⟨hr0, hm5⟩, hk, hk5⟩ hr (by omega)) x_RC_n rfl rfl rfl rfl (Nat.le_of_ble_eq_true rfl) (Nat.le_of_ble_eq_true rfl) (Nat.le_refl _) (Nat.le_of_ble_eq_true rfl) (Nat.le_of_ble_eq_true rfl) (fun N1 hRJ0 => ?_)
  rcases hEJ0 : l_prs tx n m w f 1 z h 0 p rd with ⟨e, a⟩ | ⟨q0, rd0⟩
  · rw [hEJ0] at hRJ0
    obtain ⟨J0, rd0, kJ0, qJ0, ⟨hkJ0, h9J0, hqJ0⟩, ⟨h10J0, heJ0, h11J0⟩, ⟨hcJ0, hbJ0⟩, rfl, -⟩ := hRJ0
    refine X_push (v := .int 1) rfl (by decide +kernel) ?_
    refine X_st rfl rfl rfl ?_
    refine X_ld rfl rfl rfl rfl ?_
    refine X_get f_X11_63 rfl rfl rfl ?_
    refine X_if_ne rfl (fun c19 => ?_) (fun c19 => absurd (h10J0.symm.trans c19) heJ0)
    exact X_vret rfl rfl (x_RC_er2 (l_prs_3.trans (l_bi_er hEJ0)) hkJ0 h9J0 hqJ0 h10J0 heJ0 h11J0 hcJ0 (by omega)) (Nat.le_of_ble_eq_true rfl) (Nat.le_of_ble_eq_true rfl)
  · rw [hEJ0] at hRJ0
    obtain ⟨J0, hJ0, rfl, -⟩ := hRJ0
    refine X_push (v := .int 1) rfl (by decide +kernel) ?_
    refine X_st rfl rfl rfl ?_
    refine X_loc (L' := [some (.ref 275), some (.int (b2 z)), some (.int (nI k)), some (.int (b2 true)), none]) ⟨rfl, rfl, congrArg Value.int hk.symm, rfl, trivial⟩ ?_
    have g := l_prs_ok hn8 (by omega) f 1 z h 0 p k rd rd0 q0 hpn hk hk5 hEJ0
    obtain ⟨g1, g2, k5, g3, g4, g5⟩ := g
    change 5 * k5 + 2 * p + 1 ≤ 5 * k + 2 * q0 at g5
    exact loop f (Nat.le_refl _) true q0 k5 rd0 J0 hJ0 g1.2 ⟨(g2 0 (by omega) (by omega)).trans hr0, g3, g4, by omega⟩ (by omega) (l_prs_3.trans ((l_bi_ok hEJ0).trans (by show l_prs tx n m w f 4 true h (n_ (rd 9)) q0 rd0 = _; rw [n_of hk (by omega)])))
theorem x_RC_w {B : XH} {T : Int64} {S : Nat → Nat → Int32} {tx gv pl I I1 : Nat → Int32} {p p1 n k : Nat} {R R1 : LR} {N : XH} {r : Option Value} (h : x_RC B T S tx gv pl I1 p1 n k R1 N r) (h1 : x_kI I I1) (h13 : I1 13 = I 13) (hp : p ≤ p1) (hR : R = R1) : x_RC B T S tx gv pl I p n k R N r := by
  subst hR
  rcases R with ⟨e, a⟩ | ⟨q, rd1⟩
  · obtain ⟨I', rd', k', q', ⟨a1, a2, a3⟩, a4, ⟨a5, a6⟩, a7, a8⟩ := h
    exact ⟨I', rd', k', q', ⟨x_kI.trans h1 a1, a2, a3⟩, a4, ⟨a5, by omega⟩, a7, a8⟩
  · obtain ⟨I', a1, a2, a3⟩ := h
    exact ⟨I', l_ok_w a1 h1 h13, a2, a3⟩
theorem h_fac_s {G : XE} (hG : x_Kn G) (hK : x_KS G) {f : Nat} (hfac : h_fac G f) (hcon : h_con G f) : h_fac G (f + 1) := by
  intro B T S rd tx gv pl I d n m w p k h r z hpre hr hf
  obtain ⟨⟨hp, hn, hpn, hn8⟩, ⟨he, h13, h16, hw6⟩, ⟨hr0, hm5⟩, hk, hk5⟩ := hpre
  have hsk := l_sk_le (tx := tx) hpn
  refine X_M hG okX11_factor rfl (L := [some (.ref 275), some (.int (b2 z)), none, none]) rfl (Nat.le_of_ble_eq_true rfl) (fun ad0 nb0 => ?_)
  refine X_ld rfl rfl rfl rfl ?_
  refine X_get f_X11_63 rfl rfl rfl ?_
  refine X_if_eq rfl (fun c4 => ?_) (fun c4 => absurd he c4)
  refine X_ld rfl rfl rfl rfl ?_
  refine X_ldcS (i := 4) hK (List.mem_of_getElem? (i := 4) rfl) (by decide) rfl ?_
  refine X_mcall l_X11_X11_isHere (c_isHere hG hK (d + 3 * r + 4) hp hn hpn hn8 4 (by decide) he) rfl rfl rfl rfl (Nat.le_of_ble_eq_true rfl) (Nat.le_of_ble_eq_true rfl) (Nat.le_refl _) (Nat.le_of_ble_eq_true rfl) (Nat.le_of_ble_eq_true rfl) ?_
  refine X_if_eq rfl (fun c14 => ?_) (fun c14 => ?_)
  · have h14 : (l_isw tx n p (x_w 4)) = false := b2_0 c14
    refine X_ld rfl rfl rfl rfl ?_
    refine X_mcall l_X11_X11_sees (c_seesS hG (d + 3 * r + 8) updI_eq ((updI_ne (by decide)).trans hn) hpn hn8) rfl rfl rfl rfl (Nat.le_of_ble_eq_true rfl) (Nat.le_of_ble_eq_true rfl) (Nat.le_refl _) (Nat.le_of_ble_eq_true rfl) (Nat.le_of_ble_eq_true rfl) ?_
    refine X_push (v := .int 40) rfl (by decide +kernel) ?_
    refine X_icmp_ne rfl (fun c63 => ?_) (fun c63 => ?_)
    · refine X_ld rfl rfl rfl rfl ?_
      refine X_ld rfl rfl rfl rfl ?_
      refine X_mcallN l_X11_X11_comparison (c_comparison hG hK (d + 3 * r) updI_eq ((updI_ne (by decide)).trans hn) hsk.2 hn8 ((updI_ne (by decide)).trans he) m hr0 hm5 w ((updI_ne (by decide)).trans h16) hw6 k hk (by omega) z) x_RC_n rfl rfl rfl rfl (Nat.le_of_ble_eq_true rfl) (Nat.le_of_ble_eq_true rfl) (Nat.le_refl _) (Nat.le_of_ble_eq_true rfl) (Nat.le_of_ble_eq_true rfl) (fun N9 hRJ9 => ?_)
      · exact X_vret rfl rfl (x_RC_w hRJ9 (x_kI_upd x_kI_rfl (by omega)) (updI_ne (by decide)) hsk.1 (l_prs_0.trans ((if_neg (by rw [h14]; decide)).trans ((if_neg c63).trans (by rw [n_of hk (by omega)]))))) (Nat.le_of_ble_eq_true rfl) (Nat.le_of_ble_eq_true rfl)
    · refine X_ld rfl rfl rfl rfl ?_
      by_cases h67 : h = 6
      · refine X_mcall l_X11_X11_deepens (c_deepensT hG (d + 3 * r + 7) (q := l_sk tx n p) (h := h) ((updI_ne (by decide)).trans he) updI_eq ((updI_ne (by decide)).trans h13) (by omega) h67) rfl rfl rfl rfl (Nat.le_of_ble_eq_true rfl) (Nat.le_of_ble_eq_true rfl) (Nat.le_refl _) (Nat.le_of_ble_eq_true rfl) (Nat.le_of_ble_eq_true rfl) ?_
        refine X_nameI (fun J1 hJ0 => ?_)
        have hJ1 : x_kI I J1 ∧ J1 9 = nI (l_sk tx n p) ∧ J1 10 = -8 ∧ J1 11 = nI (l_sk tx n p) := by rw [hJ0]; exact ⟨x_kI_upd (x_kI_upd (x_kI_upd (x_kI_upd x_kI_rfl (by omega)) (by omega)) (by omega)) (by omega), (updI_ne (by decide)).trans ((updI_ne (by decide)).trans ((updI_ne (by decide)).trans updI_eq)), (updI_ne (by decide)).trans ((updI_ne (by decide)).trans updI_eq), (updI_ne (by decide)).trans (updI_eq.trans updI_eq)⟩
        refine X_if_ne rfl (fun c70 => absurd (by decide) c70) (fun c70 => ?_)
        exact X_vret rfl rfl (x_RC_er2 (l_prs_0.trans ((if_neg (by rw [h14]; decide)).trans ((if_pos c63).trans (if_pos h67)))) hJ1.1 hJ1.2.1 hsk.2 hJ1.2.2.1 (by decide) hJ1.2.2.2 hk (by omega)) (Nat.le_of_ble_eq_true rfl) (Nat.le_of_ble_eq_true rfl)
      · refine X_mcall l_X11_X11_deepens (c_deepensF hG (d + 3 * r + 7) (q := l_sk tx n p) (h := h) ((updI_ne (by decide)).trans he) updI_eq ((updI_ne (by decide)).trans h13) (by omega) h67) rfl rfl rfl rfl (Nat.le_of_ble_eq_true rfl) (Nat.le_of_ble_eq_true rfl) (Nat.le_refl _) (Nat.le_of_ble_eq_true rfl) (Nat.le_of_ble_eq_true rfl) ?_
        refine X_nameI (fun J1 hJ0 => ?_)
        have hJ1 : x_kI I J1 ∧ J1 9 = nI (l_sk tx n p) ∧ J1 10 = 0 ∧ J1 13 = nI (h + 1) := by rw [hJ0]; exact ⟨x_kI_upd (x_kI_upd x_kI_rfl (by omega)) (by omega), (updI_ne (by decide)).trans updI_eq, (updI_ne (by decide)).trans ((updI_ne (by decide)).trans he), updI_eq.trans (m_add (b := 1) ((updI_ne (by decide)).trans h13) rfl)⟩
        have h16a : J1 16 = nI w := (hJ1.1 16 (by omega)).trans h16
        refine X_if_ne rfl (fun c70 => ?_) (fun c70 => absurd c70 (by decide))
        refine X_ld rfl rfl rfl rfl ?_
        refine X_dup rfl rfl ?_
        refine X_get f_X11_69 rfl rfl rfl ?_
        refine X_push (v := .int 1) rfl (by decide +kernel) ?_
        refine X_bin rfl rfl ?_
        refine X_mput f_X11_69 rfl rfl ?_
        refine X_heap (N' := mset B (upd J1 9 (nI (l_sk tx n p + 1))) T S rd tx gv pl) (by rw [show J1 9 + 1 = nI (l_sk tx n p + 1) from m_add (b := 1) hJ1.2.1 rfl]) ?_
        have hlt : l_sk tx n p < n := l_see_lt (by rw [c63]; decide)
        refine X_ld rfl rfl rfl rfl ?_
        refine X_ld rfl rfl rfl rfl ?_
        refine X_mcallN l_X11_X11_condition (hcon B T S rd tx gv pl _ d n m w (l_sk tx n p + 1) k (h + 1) (r - 1) z ⟨⟨updI_eq, (updI_ne (by decide)).trans ((hJ1.1 8 (by omega)).trans hn), by omega, hn8⟩, ⟨(updI_ne (by decide)).trans hJ1.2.2.1, (updI_ne (by decide)).trans hJ1.2.2.2, (updI_ne (by decide)).trans h16a, hw6⟩, ⟨hr0, hm5⟩, hk, by omega⟩ (by omega) (by omega)) x_RC_n rfl rfl rfl rfl (Nat.le_of_ble_eq_true rfl) (Nat.le_of_ble_eq_true rfl) (by omega) (Nat.le_of_ble_eq_true rfl) (Nat.le_of_ble_eq_true rfl) (fun N1 hRJ4 => ?_)
        rcases hEJ4 : l_prs tx n m w f 3 z (h + 1) 0 (l_sk tx n p + 1) rd with ⟨e, a⟩ | ⟨q4, rd4⟩
        · rw [hEJ4] at hRJ4
          obtain ⟨J4, rd4, kJ4, qJ4, ⟨hkJ4, h9J4, hqJ4⟩, ⟨h10J4, heJ4, h11J4⟩, ⟨hcJ4, hbJ4⟩, rfl, -⟩ := hRJ4
          refine X_ld rfl rfl rfl rfl ?_
          refine X_push (v := .int 41) rfl (by decide +kernel) ?_
          · refine X_mcallv l_X11_X11_wants (c_wantsE hG d (by rw [h10J4]; exact heJ4)) rfl rfl rfl rfl (Nat.le_of_ble_eq_true rfl) (Nat.le_of_ble_eq_true rfl) (by omega) (Nat.le_of_ble_eq_true rfl) (Nat.le_of_ble_eq_true rfl) ?_
            refine X_ld rfl rfl rfl rfl ?_
            refine X_dup rfl rfl ?_
            refine X_get f_X11_158 rfl rfl rfl ?_
            refine X_push (v := .int 1) rfl (by decide +kernel) ?_
            refine X_bin rfl rfl ?_
            refine X_mput f_X11_158 rfl rfl ?_
            refine X_goto rfl ?_
            exact X_vret rfl rfl (x_RC_er2 (l_prs_0.trans ((if_neg (by rw [h14]; decide)).trans ((if_pos c63).trans ((if_neg h67).trans (l_bi_er hEJ4))))) (x_kI_upd (x_kI.trans (x_kI_upd hJ1.1 (by omega)) hkJ4) (by omega)) ((updI_ne (by decide)).trans h9J4) hqJ4 ((updI_ne (by decide)).trans h10J4) heJ4 ((updI_ne (by decide)).trans h11J4) hcJ4 (by omega)) (Nat.le_of_ble_eq_true rfl) (Nat.le_of_ble_eq_true rfl)
        · rw [hEJ4] at hRJ4
          obtain ⟨J4, hJ4, rfl, -⟩ := hRJ4
          obtain ⟨kk, hkk, hq4⟩ : ∃ kk, rd4 9 = nI kk ∧ ((l_sk tx n p + 1) ≤ q4 ∧ q4 ≤ n ∧ 5 * kk + 2 * (l_sk tx n p + 1) + 1 ≤ 5 * k + 2 * q4) := by
            have g := l_prs_ok hn8 (by omega) f 3 z (h + 1) 0 (l_sk tx n p + 1) k rd rd4 q4 (by omega) hk (by omega) hEJ4
            obtain ⟨g1, -, k5, g3, -, g5⟩ := g
            exact ⟨k5, g3, g1.1, g1.2, g5⟩
          have hs4 := l_sk_le (tx := tx) hq4.2.1
          have hN13 : J4 13 - 1 = I 13 := by rw [hJ4.2.2.2, updI_ne (by decide), hJ1.2.2.2, h13]; exact m_subc (b := 1) (by omega) rfl
          refine X_ld rfl rfl rfl rfl ?_
          refine X_push (v := .int 41) rfl (by decide +kernel) ?_
          by_cases hs41 : l_see tx n q4 = 41
          · refine X_mcallv l_X11_X11_wants (c_wants hG d hJ4.2.1 (((hJ4.1 8 (by omega)).trans ((updI_ne (by decide)).trans ((hJ1.1 8 (by omega)).trans hn)))) hq4.2.1 hn8 hJ4.2.2.1) rfl rfl rfl rfl (Nat.le_of_ble_eq_true rfl) (Nat.le_of_ble_eq_true rfl) (by omega) (Nat.le_of_ble_eq_true rfl) (Nat.le_of_ble_eq_true rfl) ?_
            refine X_heap (N' := mset B (upd J4 9 (nI (l_sk tx n q4 + 1))) T S rd4 tx gv pl) (by rw [if_pos hs41]) ?_
            refine X_ld rfl rfl rfl rfl ?_
            refine X_dup rfl rfl ?_
            refine X_get f_X11_158 rfl rfl rfl ?_
            refine X_push (v := .int 1) rfl (by decide +kernel) ?_
            refine X_bin rfl rfl ?_
            refine X_mput f_X11_158 rfl rfl ?_
            refine X_goto rfl ?_
            exact X_vret rfl rfl (x_RC_ok (l_prs_0.trans ((if_neg (by rw [h14]; decide)).trans ((if_pos c63).trans ((if_neg h67).trans ((l_bi_ok hEJ4).trans (if_pos hs41)))))) ⟨x_kI_upd (x_kI_upd (x_kI.trans (x_kI_upd hJ1.1 (by omega)) hJ4.1) (by omega)) (by omega), (updI_ne (by decide)).trans updI_eq, (updI_ne (by decide)).trans ((updI_ne (by decide)).trans hJ4.2.2.1), updI_eq.trans ((congrArg (· - 1) (updI_ne (by decide))).trans hN13)⟩) (Nat.le_of_ble_eq_true rfl) (Nat.le_of_ble_eq_true rfl)
          · refine X_mcallv l_X11_X11_wants (c_wants hG d hJ4.2.1 (((hJ4.1 8 (by omega)).trans ((updI_ne (by decide)).trans ((hJ1.1 8 (by omega)).trans hn)))) hq4.2.1 hn8 hJ4.2.2.1) rfl rfl rfl rfl (Nat.le_of_ble_eq_true rfl) (Nat.le_of_ble_eq_true rfl) (by omega) (Nat.le_of_ble_eq_true rfl) (Nat.le_of_ble_eq_true rfl) ?_
            refine X_heap (N' := mset B (upd (upd (upd J4 9 (nI (l_sk tx n q4))) 10 (-2)) 11 (nI (l_sk tx n q4))) T S rd4 tx gv pl) (by rw [if_neg hs41]) ?_
            refine X_ld rfl rfl rfl rfl ?_
            refine X_dup rfl rfl ?_
            refine X_get f_X11_158 rfl rfl rfl ?_
            refine X_push (v := .int 1) rfl (by decide +kernel) ?_
            refine X_bin rfl rfl ?_
            refine X_mput f_X11_158 rfl rfl ?_
            refine X_goto rfl ?_
            exact X_vret rfl rfl (x_RC_er2 (l_prs_0.trans ((if_neg (by rw [h14]; decide)).trans ((if_pos c63).trans ((if_neg h67).trans ((l_bi_ok hEJ4).trans (if_neg hs41)))))) (x_kI_upd (x_kI_upd (x_kI_upd (x_kI_upd (x_kI.trans (x_kI_upd hJ1.1 (by omega)) hJ4.1) (by omega)) (by omega)) (by omega)) (by omega)) ((updI_ne (by decide)).trans ((updI_ne (by decide)).trans ((updI_ne (by decide)).trans updI_eq))) (l_sk_le (tx := tx) hq4.2.1).2 ((updI_ne (by decide)).trans ((updI_ne (by decide)).trans updI_eq)) (by decide) ((updI_ne (by decide)).trans updI_eq) hkk (by omega)) (Nat.le_of_ble_eq_true rfl) (Nat.le_of_ble_eq_true rfl)
  · have h14 : (l_isw tx n p (x_w 4)) = true := b2_1 c14
    refine X_ld rfl rfl rfl rfl ?_
    by_cases h18 : h = 6
    · refine X_mcall l_X11_X11_deepens (c_deepensT hG (d + 3 * r + 7) (q := l_sk tx n p) (h := h) ((updI_ne (by decide)).trans he) updI_eq ((updI_ne (by decide)).trans h13) (by omega) h18) rfl rfl rfl rfl (Nat.le_of_ble_eq_true rfl) (Nat.le_of_ble_eq_true rfl) (Nat.le_refl _) (Nat.le_of_ble_eq_true rfl) (Nat.le_of_ble_eq_true rfl) ?_
      refine X_nameI (fun J1 hJ0 => ?_)
      have hJ1 : x_kI I J1 ∧ J1 9 = nI (l_sk tx n p) ∧ J1 10 = -8 ∧ J1 11 = nI (l_sk tx n p) := by rw [hJ0]; exact ⟨x_kI_upd (x_kI_upd (x_kI_upd (x_kI_upd x_kI_rfl (by omega)) (by omega)) (by omega)) (by omega), (updI_ne (by decide)).trans ((updI_ne (by decide)).trans ((updI_ne (by decide)).trans updI_eq)), (updI_ne (by decide)).trans ((updI_ne (by decide)).trans updI_eq), (updI_ne (by decide)).trans (updI_eq.trans updI_eq)⟩
      refine X_if_ne rfl (fun c21 => absurd (by decide) c21) (fun c21 => ?_)
      exact X_vret rfl rfl (x_RC_er2 (l_prs_0.trans ((if_pos h14).trans (if_pos h18))) hJ1.1 hJ1.2.1 hsk.2 hJ1.2.2.1 (by decide) hJ1.2.2.2 hk (by omega)) (Nat.le_of_ble_eq_true rfl) (Nat.le_of_ble_eq_true rfl)
    · refine X_mcall l_X11_X11_deepens (c_deepensF hG (d + 3 * r + 7) (q := l_sk tx n p) (h := h) ((updI_ne (by decide)).trans he) updI_eq ((updI_ne (by decide)).trans h13) (by omega) h18) rfl rfl rfl rfl (Nat.le_of_ble_eq_true rfl) (Nat.le_of_ble_eq_true rfl) (Nat.le_refl _) (Nat.le_of_ble_eq_true rfl) (Nat.le_of_ble_eq_true rfl) ?_
      refine X_nameI (fun J1 hJ0 => ?_)
      have hJ1 : x_kI I J1 ∧ J1 9 = nI (l_sk tx n p) ∧ J1 10 = 0 ∧ J1 13 = nI (h + 1) := by rw [hJ0]; exact ⟨x_kI_upd (x_kI_upd x_kI_rfl (by omega)) (by omega), (updI_ne (by decide)).trans updI_eq, (updI_ne (by decide)).trans ((updI_ne (by decide)).trans he), updI_eq.trans (m_add (b := 1) ((updI_ne (by decide)).trans h13) rfl)⟩
      have h16a : J1 16 = nI w := (hJ1.1 16 (by omega)).trans h16
      refine X_if_ne rfl (fun c21 => ?_) (fun c21 => absurd c21 (by decide))
      refine X_ld rfl rfl rfl rfl ?_
      refine X_ldcS (i := 4) hK (List.mem_of_getElem? (i := 4) rfl) (by decide) rfl ?_
      refine X_mcall l_X11_X11_takes (c_takes hG hK (d + 3 * r + 3) hJ1.2.1 ((hJ1.1 8 (by omega)).trans hn) hsk.2 hn8 4 (by decide) hJ1.2.2.1) rfl rfl rfl rfl (Nat.le_of_ble_eq_true rfl) (Nat.le_of_ble_eq_true rfl) (Nat.le_refl _) (Nat.le_of_ble_eq_true rfl) (Nat.le_of_ble_eq_true rfl) ?_
      refine X_st rfl rfl rfl ?_
      have htk := l_tk_le (tx := tx) (w := x_w 4) hsk.2
      have hP : (l_tk tx n (l_sk tx n p) (x_w 4)) = l_sk tx n p + 3 := (l_tk_sk hpn).trans (l_tk_y h14)
      refine X_ld rfl rfl rfl rfl ?_
      refine X_push (v := .int 0) rfl (by decide +kernel) ?_
      refine X_mcallN l_X11_X11_factor (hfac B T S rd tx gv pl _ d n m w (l_tk tx n (l_sk tx n p) (x_w 4)) k (h + 1) (r - 1) false ⟨⟨updI_eq, (updI_ne (by decide)).trans ((hJ1.1 8 (by omega)).trans hn), by omega, hn8⟩, ⟨(updI_ne (by decide)).trans hJ1.2.2.1, (updI_ne (by decide)).trans hJ1.2.2.2, (updI_ne (by decide)).trans h16a, hw6⟩, ⟨hr0, hm5⟩, hk, by omega⟩ (by omega) (by omega)) x_RC_n rfl rfl rfl rfl (Nat.le_of_ble_eq_true rfl) (Nat.le_of_ble_eq_true rfl) (by omega) (Nat.le_of_ble_eq_true rfl) (Nat.le_of_ble_eq_true rfl) (fun N1 hRJ4 => ?_)
      rcases hEJ4 : l_prs tx n m w f 0 false (h + 1) 0 (l_tk tx n (l_sk tx n p) (x_w 4)) rd with ⟨e, a⟩ | ⟨q4, rd4⟩
      · rw [hEJ4] at hRJ4
        obtain ⟨J4, rd4, kJ4, qJ4, ⟨hkJ4, h9J4, hqJ4⟩, ⟨h10J4, heJ4, h11J4⟩, ⟨hcJ4, hbJ4⟩, rfl, -⟩ := hRJ4
        refine X_ld rfl rfl rfl rfl ?_
        refine X_dup rfl rfl ?_
        refine X_get f_X11_158 rfl rfl rfl ?_
        refine X_push (v := .int 1) rfl (by decide +kernel) ?_
        refine X_bin rfl rfl ?_
        refine X_mput f_X11_158 rfl rfl ?_
        refine X_ld rfl rfl rfl rfl ?_
        refine X_push (v := .int 3) rfl (by decide +kernel) ?_
        refine X_push (v := .int 0) rfl (by decide +kernel) ?_
        refine X_mcall l_X11_X11_codes (c_codes hG (d + 3 * r + 7) kJ4 hcJ4 (by omega)) rfl rfl rfl rfl (Nat.le_of_ble_eq_true rfl) (Nat.le_of_ble_eq_true rfl) (Nat.le_refl _) (Nat.le_of_ble_eq_true rfl) (Nat.le_of_ble_eq_true rfl) ?_
        refine X_st rfl rfl rfl ?_
        refine X_goto rfl ?_
        exact X_vret rfl rfl (x_RC_er2 (l_prs_0.trans ((if_pos h14).trans ((if_neg h18).trans (l_bi_er hEJ4)))) (x_kI_upd (x_kI.trans (x_kI_upd hJ1.1 (by omega)) hkJ4) (by omega)) ((updI_ne (by decide)).trans h9J4) hqJ4 ((updI_ne (by decide)).trans h10J4) heJ4 ((updI_ne (by decide)).trans h11J4) s_code_9 (by omega)) (Nat.le_of_ble_eq_true rfl) (Nat.le_of_ble_eq_true rfl)
      · rw [hEJ4] at hRJ4
        obtain ⟨J4, hJ4, rfl, -⟩ := hRJ4
        obtain ⟨kk, hkk, hq4⟩ : ∃ kk, rd4 9 = nI kk ∧ ((l_tk tx n (l_sk tx n p) (x_w 4)) ≤ q4 ∧ q4 ≤ n ∧ 5 * kk + 2 * (l_tk tx n (l_sk tx n p) (x_w 4)) + 1 ≤ 5 * k + 2 * q4) := by
          have g := l_prs_ok hn8 (by omega) f 0 false (h + 1) 0 (l_tk tx n (l_sk tx n p) (x_w 4)) k rd rd4 q4 (by omega) hk (by omega) hEJ4
          obtain ⟨g1, -, k5, g3, -, g5⟩ := g
          exact ⟨k5, g3, g1.1, g1.2, g5⟩
        have hs4 := l_sk_le (tx := tx) hq4.2.1
        have hN13 : J4 13 - 1 = I 13 := by rw [hJ4.2.2.2, updI_ne (by decide), hJ1.2.2.2, h13]; exact m_subc (b := 1) (by omega) rfl
        refine X_ld rfl rfl rfl rfl ?_
        refine X_dup rfl rfl ?_
        refine X_get f_X11_158 rfl rfl rfl ?_
        refine X_push (v := .int 1) rfl (by decide +kernel) ?_
        refine X_bin rfl rfl ?_
        refine X_mput f_X11_158 rfl rfl ?_
        refine X_ld rfl rfl rfl rfl ?_
        refine X_push (v := .int 3) rfl (by decide +kernel) ?_
        refine X_push (v := .int 0) rfl (by decide +kernel) ?_
        refine X_mcall l_X11_X11_codes (c_codes hG (d + 3 * r + 7) kk hkk (by omega)) rfl rfl rfl rfl (Nat.le_of_ble_eq_true rfl) (Nat.le_of_ble_eq_true rfl) (Nat.le_refl _) (Nat.le_of_ble_eq_true rfl) (Nat.le_of_ble_eq_true rfl) ?_
        refine X_st rfl rfl rfl ?_
        refine X_goto rfl ?_
        exact X_vret rfl rfl (x_RC_ok (l_prs_0.trans ((if_pos h14).trans ((if_neg h18).trans ((l_bi_ok hEJ4).trans (by show (.inr (q4, s_code rd4 (n_ (rd4 9)) 3 0) : LR) = _; rw [n_of hkk (by omega)]))))) ⟨x_kI_upd (x_kI.trans (x_kI_upd hJ1.1 (by omega)) hJ4.1) (by omega), (updI_ne (by decide)).trans hJ4.2.1, (updI_ne (by decide)).trans hJ4.2.2.1, hN13⟩) (Nat.le_of_ble_eq_true rfl) (Nat.le_of_ble_eq_true rfl)
theorem h_all {G : XE} (hG : x_Kn G) (hK : x_KS G) : ∀ g f, f ≤ g → h_fac G f ∧ h_ter G f ∧ h_con G f := by
  intro g
  induction g with
  | zero =>
    intro f hf
    obtain rfl : f = 0 := by omega
    exact ⟨fun _ _ _ _ _ _ _ _ _ _ _ _ _ _ _ _ _ _ _ h => by omega, fun _ _ _ _ _ _ _ _ _ _ _ _ _ _ _ _ _ _ _ h => by omega, fun _ _ _ _ _ _ _ _ _ _ _ _ _ _ _ _ _ _ _ h => by omega⟩
  | succ g ih =>
    intro f hf
    by_cases h : f ≤ g
    · exact ih f h
    · obtain rfl : f = g + 1 := by omega
      have h0 := fun f2 (h2 : f2 ≤ g) => (ih f2 h2).1
      have h1 := fun f2 (h2 : f2 ≤ g) => (ih f2 h2).2.1
      exact ⟨h_fac_s hG hK (ih g (Nat.le_refl _)).1 (ih g (Nat.le_refl _)).2.2, h_ter_s hG hK h0, h_con_s hG hK h1⟩
