/-! ===== the reference's reader: conditions, the methods ===== -/
theorem c_deepensT {G : XE} (hG : x_Kn G) {B : XH} {I : Nat → Int32} {T : Int64} {S : Nat → Nat → Int32} {rd tx gv pl : Nat → Int32} (d : Nat) {q h : Nat} (he : I 10 = 0) (h9 : I 9 = nI q) (h13 : I 13 = nI h) (hh : h ≤ 6) (h6 : h = 6) : x_M G mX11_deepens (d + 1) 0 0 [.ref 275] (mset B I T S rd tx gv pl) (x_Ret (mset B (upd (upd (upd I 10 (-8)) 11 (I 9)) 13 (I 13 + 1)) T S rd tx gv pl) (.int 0)) x_noX := by
  refine X_M hG okX11_deepens rfl (L := [some (.ref 275)]) rfl (Nat.le_of_ble_eq_true rfl) (fun ad0 nb0 => ?_)
  refine X_ld rfl rfl rfl rfl ?_
  refine X_get f_X11_158 rfl rfl rfl ?_
  refine X_push (v := .int 6) rfl (by decide +kernel) ?_
  refine X_icmp_ne rfl (fun c6 => absurd (h13.trans (congrArg nI h6)) c6) (fun c6 => ?_)
  refine X_ld rfl rfl rfl rfl ?_
  refine X_push (v := .int (-8)) rfl (by decide +kernel) ?_
  refine X_ld rfl rfl rfl rfl ?_
  refine X_get f_X11_69 rfl rfl rfl ?_
  refine X_mcallv l_X11_X11_fails (c_fails hG d he) rfl rfl rfl rfl (Nat.le_of_ble_eq_true rfl) (Nat.le_of_ble_eq_true rfl) (Nat.le_refl _) (Nat.le_of_ble_eq_true rfl) (Nat.le_of_ble_eq_true rfl) ?_
  refine X_nameI (fun J hJ => ?_)
  have hJ10 : J 10 = -8 := by rw [hJ, updI_ne (by decide)]; exact updI_eq
  have hJ13 : J 13 = I 13 := by rw [hJ, updI_ne (by decide), updI_ne (by decide)]
  refine X_ld rfl rfl rfl rfl ?_
  refine X_dup rfl rfl ?_
  refine X_get f_X11_158 rfl rfl rfl ?_
  refine X_push (v := .int 1) rfl (by decide +kernel) ?_
  refine X_bin rfl rfl ?_
  refine X_mput f_X11_158 rfl rfl ?_
  refine X_heap (N' := mset B (upd J 13 (I 13 + 1)) T S rd tx gv pl) (by rw [hJ13]) ?_
  refine X_ld rfl rfl rfl rfl ?_
  refine X_get f_X11_63 rfl rfl rfl ?_
  refine X_if_ne rfl (fun c33 => ?_) (fun c33 => absurd (((updI_ne (by decide)).trans hJ10).symm.trans c33) (by decide))
  refine X_push (v := .int 0) rfl (by decide +kernel) ?_
  exact X_zret rfl rfl rfl ⟨by rw [hJ], rfl⟩ (Nat.le_of_ble_eq_true rfl) (Nat.le_of_ble_eq_true rfl)
theorem c_deepensF {G : XE} (hG : x_Kn G) {B : XH} {I : Nat → Int32} {T : Int64} {S : Nat → Nat → Int32} {rd tx gv pl : Nat → Int32} (d : Nat) {q h : Nat} (he : I 10 = 0) (h9 : I 9 = nI q) (h13 : I 13 = nI h) (hh : h ≤ 6) (h6 : ¬ h = 6) : x_M G mX11_deepens (d + 1) 0 0 [.ref 275] (mset B I T S rd tx gv pl) (x_Ret (mset B (upd I 13 (I 13 + 1)) T S rd tx gv pl) (.int 1)) x_noX := by
  refine X_M hG okX11_deepens rfl (L := [some (.ref 275)]) rfl (Nat.le_of_ble_eq_true rfl) (fun ad0 nb0 => ?_)
  refine X_ld rfl rfl rfl rfl ?_
  refine X_get f_X11_158 rfl rfl rfl ?_
  refine X_push (v := .int 6) rfl (by decide +kernel) ?_
  refine X_icmp_ne rfl (fun c6 => ?_) (fun c6 => absurd c6 (fun e => h6 ((nI_eq (by omega) (by omega)).mp (h13.symm.trans e))))
  refine X_ld rfl rfl rfl rfl ?_
  refine X_dup rfl rfl ?_
  refine X_get f_X11_158 rfl rfl rfl ?_
  refine X_push (v := .int 1) rfl (by decide +kernel) ?_
  refine X_bin rfl rfl ?_
  refine X_mput f_X11_158 rfl rfl ?_
  refine X_ld rfl rfl rfl rfl ?_
  refine X_get f_X11_63 rfl rfl rfl ?_
  refine X_if_ne rfl (fun c33 => absurd ((updI_ne (by decide)).trans he) c33) (fun c33 => ?_)
  refine X_push (v := .int 1) rfl (by decide +kernel) ?_
  refine X_goto rfl ?_
  exact X_zret rfl rfl rfl ⟨rfl, rfl⟩ (Nat.le_of_ble_eq_true rfl) (Nat.le_of_ble_eq_true rfl)
def h_pre (I rd : Nat → Int32) (n m w p k h : Nat) : Prop := (I 9 = nI p ∧ I 8 = nI n ∧ p ≤ n ∧ n ≤ 800) ∧ (I 10 = 0 ∧ I 13 = nI h ∧ I 16 = nI w ∧ w < 6) ∧ (rd 0 = nI m ∧ m ≤ 5) ∧ rd 9 = nI k ∧ 5 * k ≤ 2 * p
def h_fac (G : XE) (f : Nat) : Prop := ∀ (B : XH) (T : Int64) (S : Nat → Nat → Int32) (rd tx gv pl I : Nat → Int32) (d n m w p k h r : Nat) (z : Bool), h_pre I rd n m w p k h → h + r = 6 → 8 * (n - p) + 1 ≤ f →
  x_M G mX11_factor (d + 3 * r + 9) 0 0 [.ref 275, .int (b2 z)] (mset B I T S rd tx gv pl) (x_RC B T S tx gv pl I p n k (l_prs tx n m w f 0 z h 0 p rd)) x_noX
def h_ter (G : XE) (f : Nat) : Prop := ∀ (B : XH) (T : Int64) (S : Nat → Nat → Int32) (rd tx gv pl I : Nat → Int32) (d n m w p k h r : Nat) (z : Bool), h_pre I rd n m w p k h → h + r = 6 → 8 * (n - p) + 2 ≤ f →
  x_M G mX11_term (d + 3 * r + 10) 0 0 [.ref 275, .int (b2 z)] (mset B I T S rd tx gv pl) (x_RC B T S tx gv pl I p n k (l_prs tx n m w f 1 z h 0 p rd)) x_noX
def h_con (G : XE) (f : Nat) : Prop := ∀ (B : XH) (T : Int64) (S : Nat → Nat → Int32) (rd tx gv pl I : Nat → Int32) (d n m w p k h r : Nat) (z : Bool), h_pre I rd n m w p k h → h + r = 6 → 8 * (n - p) + 3 ≤ f →
  x_M G mX11_condition (d + 3 * r + 11) 0 0 [.ref 275, .int (b2 z)] (mset B I T S rd tx gv pl) (x_RC B T S tx gv pl I p n k (l_prs tx n m w f 3 z h 0 p rd)) x_noX
section
variable {B : XH} {T : Int64} {S : Nat → Nat → Int32} {rd rd1 tx gv pl I J : Nat → Int32} {p n q a k k' : Nat} {e : Int32}
theorem x_RC_er2 {R : LR} (h : R = .inl (e, a)) (h1 : x_kI I J) (h9 : J 9 = nI q) (hq : q ≤ n) (h10 : J 10 = e) (he : ¬ e = 0) (h11 : J 11 = nI a) (hk : rd1 9 = nI k') (hb : 5 * k' + 2 * p ≤ 5 * k + 2 * q) : x_RC B T S tx gv pl I p n k R (mset B J T S rd1 tx gv pl) none := by
  rw [h]
  exact ⟨J, rd1, k', q, ⟨h1, h9, hq⟩, ⟨h10, he, h11⟩, ⟨hk, hb⟩, rfl, rfl⟩
theorem n_of {x : Int32} {k : Nat} (h : x = nI k) (hk : k < 2147483648) : n_ x = k := by rw [h]; exact nI_clamp hk
end
theorem h_ter_s {G : XE} (hG : x_Kn G) (hK : x_KS G) {f : Nat} (hfac : ∀ f2, f2 ≤ f → h_fac G f2) : h_ter G (f + 1) := by
  intro B T S rd tx gv pl I d n m w p k h r z hpre hr hf
  obtain ⟨⟨hp, hn, hpn, hn8⟩, ⟨he, h13, h16, hw6⟩, ⟨hr0, hm5⟩, hk, hk5⟩ := hpre
  have hsk := l_sk_le (tx := tx) hpn
  refine X_M hG okX11_term rfl (L := [some (.ref 275), some (.int (b2 z)), none]) rfl (Nat.le_of_ble_eq_true rfl) (fun ad0 nb0 => ?_)
  have loop : ∀ f2, f2 ≤ f → ∀ (p2 k2 : Nat) (rd2 J : Nat → Int32), l_ok I J p2 → p2 ≤ n → (rd2 0 = nI m ∧ rd2 9 = nI k2 ∧ 5 * k2 + 2 * p ≤ 5 * k + 2 * p2) → 8 * (n - p2) + 1 ≤ f2 → l_prs tx n m w (f + 1) 1 z h 0 p rd = l_prs tx n m w f2 2 z h 0 p2 rd2 → x_W G mX11_term (x_Z G (d + 3 * r + 10) 0 0 ad0 nb0 (x_RC B T S tx gv pl I p n k (l_prs tx n m w (f + 1) 1 z h 0 p rd)) x_noX) (mset B J T S rd2 tx gv pl) 0 0 5 [some (.ref 275), some (.int (b2 z)), none] [] := by
    intro f2
    induction f2 with
    | zero => intro _ p2 k2 rd2 J _ _ _ h1 _; omega
    | succ f2 ih =>
      intro hle p2 k2 rd2 J hJ hp2 hb hf2 hR
      refine X_ld rfl rfl rfl rfl ?_
      refine X_get f_X11_63 rfl rfl rfl ?_
      refine X_if_ne rfl (fun c9 => absurd (hJ.2.2.1) c9) (fun c9 => ?_)
      refine X_ld rfl rfl rfl rfl ?_
      refine X_ldcS (i := 3) hK (List.mem_of_getElem? (i := 3) rfl) (by decide) rfl ?_
      refine X_mcall l_X11_X11_takes (c_takes hG hK (d + 3 * r + 4) hJ.2.1 ((hJ.1 8 (by omega)).trans hn) hp2 hn8 3 (by decide) hJ.2.2.1) rfl rfl rfl rfl (Nat.le_of_ble_eq_true rfl) (Nat.le_of_ble_eq_true rfl) (Nat.le_refl _) (Nat.le_of_ble_eq_true rfl) (Nat.le_of_ble_eq_true rfl) ?_
      refine X_if_eq rfl (fun c18 => ?_) (fun c18 => ?_)
      · have h18 : (l_isw tx n p2 (x_w 3)) = false := b2_0 c18
        exact X_vret rfl rfl (x_RC_ok (hR.trans (l_prs_2.trans (if_neg (by rw [h18]; decide)))) ⟨x_kI_upd hJ.1 (by omega), (updI_eq.trans (congrArg nI (l_tk_n h18))), (updI_ne (by decide)).trans hJ.2.2.1, (updI_ne (by decide)).trans hJ.2.2.2⟩) (Nat.le_of_ble_eq_true rfl) (Nat.le_of_ble_eq_true rfl)
      · have h18 : (l_isw tx n p2 (x_w 3)) = true := b2_1 c18
        have htk := l_tk_le (tx := tx) (w := x_w 3) hp2
        have h1 : (l_tk tx n p2 (x_w 3)) = l_sk tx n p2 + 3 := l_tk_y h18
        have hs2 := l_sk_le (tx := tx) hp2
        refine X_ld rfl rfl rfl rfl ?_
        refine X_ld rfl rfl rfl rfl ?_
        refine X_mcallN l_X11_X11_factor (hfac f2 (by omega) B T S rd2 tx gv pl _ d n m w (l_tk tx n p2 (x_w 3)) k2 h r z ⟨⟨updI_eq, ((updI_ne (by decide)).trans ((hJ.1 8 (by omega)).trans hn)), htk.2, hn8⟩, ⟨((updI_ne (by decide)).trans hJ.2.2.1), ((updI_ne (by decide)).trans (hJ.2.2.2.trans h13)), ((updI_ne (by decide)).trans ((hJ.1 16 (by omega)).trans h16)), hw6⟩, ⟨hb.1, hm5⟩, hb.2.1, by omega⟩ hr (by omega)) x_RC_n rfl rfl rfl rfl (Nat.le_of_ble_eq_true rfl) (Nat.le_of_ble_eq_true rfl) (Nat.le_refl _) (Nat.le_of_ble_eq_true rfl) (Nat.le_of_ble_eq_true rfl) (fun N1 hRJ5 => ?_)
        rcases hEJ5 : l_prs tx n m w f2 0 z h 0 (l_tk tx n p2 (x_w 3)) rd2 with ⟨e, a⟩ | ⟨q5, rd5⟩
        · rw [hEJ5] at hRJ5
          obtain ⟨J5, rd5, kJ5, qJ5, ⟨hkJ5, h9J5, hqJ5⟩, ⟨h10J5, heJ5, h11J5⟩, ⟨hcJ5, hbJ5⟩, rfl, -⟩ := hRJ5
          refine X_ld rfl rfl rfl rfl ?_
          refine X_push (v := .int 1) rfl (by decide +kernel) ?_
          refine X_push (v := .int 0) rfl (by decide +kernel) ?_
          refine X_mcall l_X11_X11_codes (c_codes hG (d + 3 * r + 8) kJ5 hcJ5 (by omega)) rfl rfl rfl rfl (Nat.le_of_ble_eq_true rfl) (Nat.le_of_ble_eq_true rfl) (Nat.le_refl _) (Nat.le_of_ble_eq_true rfl) (Nat.le_of_ble_eq_true rfl) ?_
          refine X_st rfl rfl rfl ?_
          refine X_goto rfl ?_
          refine X_ld rfl rfl rfl rfl ?_
          refine X_get f_X11_63 rfl rfl rfl ?_
          refine X_if_ne rfl (fun c9 => ?_) (fun c9 => absurd (h10J5.symm.trans c9) heJ5)
          exact X_vret rfl rfl (x_RC_er2 ((hR.trans (l_prs_2.trans (if_pos h18))).trans (l_bi_er hEJ5)) (x_kI.trans (x_kI_upd hJ.1 (by omega)) hkJ5) h9J5 hqJ5 h10J5 heJ5 h11J5 s_code_9 (by omega)) (Nat.le_of_ble_eq_true rfl) (Nat.le_of_ble_eq_true rfl)
        · rw [hEJ5] at hRJ5
          obtain ⟨J5, hJ5, rfl, -⟩ := hRJ5
          obtain ⟨kk, hkk, hkk9⟩ : ∃ kk, rd5 9 = nI kk ∧ 5 * kk + 2 * (l_tk tx n p2 (x_w 3)) + 1 ≤ 5 * k2 + 2 * q5 ∧ q5 ≤ n := by
            have g := l_prs_ok hn8 (by omega) f2 0 z h 0 (l_tk tx n p2 (x_w 3)) k2 rd2 rd5 q5 htk.2 hb.2.1 (by omega) hEJ5
            obtain ⟨g1, -, k5, g3, -, g5⟩ := g
            exact ⟨k5, g3, g5, g1.2⟩
          refine X_ld rfl rfl rfl rfl ?_
          refine X_push (v := .int 1) rfl (by decide +kernel) ?_
          refine X_push (v := .int 0) rfl (by decide +kernel) ?_
          refine X_mcall l_X11_X11_codes (c_codes hG (d + 3 * r + 8) kk hkk (by omega)) rfl rfl rfl rfl (Nat.le_of_ble_eq_true rfl) (Nat.le_of_ble_eq_true rfl) (Nat.le_refl _) (Nat.le_of_ble_eq_true rfl) (Nat.le_of_ble_eq_true rfl) ?_
          refine X_st rfl rfl rfl ?_
          refine X_goto rfl ?_
          refine X_loc (L' := [some (.ref 275), some (.int (b2 z)), none]) ⟨rfl, rfl, trivial⟩ ?_
          have g := l_prs_ok hn8 (by omega) f2 0 z h 0 (l_tk tx n p2 (x_w 3)) k2 rd2 rd5 q5 htk.2 hb.2.1 (by omega) hEJ5
          change s_pk 1 _ _ _ _ _ _ at g
          obtain ⟨g1, g2, k5, g3, g4, g5⟩ := g
          obtain e5 : k5 = kk := (nI_eq (by omega) (by omega)).mp (g3.symm.trans hkk)
          subst kk
          exact ih (by omega) q5 (k5 + 1) _ J5 ⟨x_kI.trans (x_kI_upd hJ.1 (by omega)) hJ5.1, hJ5.2.1, hJ5.2.2.1, hJ5.2.2.2.trans ((updI_ne (by decide)).trans hJ.2.2.2)⟩ g1.2 ⟨(s_code_ne (by omega) (by omega)).trans ((g2 0 (by omega) (by omega)).trans hb.1), s_code_9, by omega⟩ (by omega) ((hR.trans (l_prs_2.trans (if_pos h18))).trans ((l_bi_ok hEJ5).trans (by show l_prs tx n m w f2 2 z h 0 q5 (s_code rd5 (n_ (rd5 9)) 1 0) = _; rw [n_of g3 (by omega)])))
  refine X_ld rfl rfl rfl rfl ?_
  refine X_ld rfl rfl rfl rfl ?_
  refine X_mcallN l_X11_X11_factor (hfac f (Nat.le_refl _) B T S rd tx gv pl _ d n m w p k h r z ⟨⟨hp, hn, hpn, hn8⟩, ⟨he, h13, h16, hw6⟩, ⟨hr0, hm5⟩, hk, hk5⟩ hr (by omega)) x_RC_n rfl rfl rfl rfl (Nat.le_of_ble_eq_true rfl) (Nat.le_of_ble_eq_true rfl) (Nat.le_refl _) (Nat.le_of_ble_eq_true rfl) (Nat.le_of_ble_eq_true rfl) (fun N1 hRJ0 => ?_)
  rcases hEJ0 : l_prs tx n m w f 0 z h 0 p rd with ⟨e, a⟩ | ⟨q0, rd0⟩
  · rw [hEJ0] at hRJ0
    obtain ⟨J0, rd0, kJ0, qJ0, ⟨hkJ0, h9J0, hqJ0⟩, ⟨h10J0, heJ0, h11J0⟩, ⟨hcJ0, hbJ0⟩, rfl, -⟩ := hRJ0
    refine X_ld rfl rfl rfl rfl ?_
    refine X_get f_X11_63 rfl rfl rfl ?_
    refine X_if_ne rfl (fun c9 => ?_) (fun c9 => absurd (h10J0.symm.trans c9) heJ0)
    exact X_vret rfl rfl (x_RC_er2 (l_prs_1.trans (l_bi_er hEJ0)) hkJ0 h9J0 hqJ0 h10J0 heJ0 h11J0 hcJ0 (by omega)) (Nat.le_of_ble_eq_true rfl) (Nat.le_of_ble_eq_true rfl)
  · rw [hEJ0] at hRJ0
    obtain ⟨J0, hJ0, rfl, -⟩ := hRJ0
    have g := l_prs_ok hn8 (by omega) f 0 z h 0 p k rd rd0 q0 hpn hk hk5 hEJ0
    obtain ⟨g1, g2, k5, g3, g4, g5⟩ := g
    change 5 * k5 + 2 * p + 1 ≤ 5 * k + 2 * q0 at g5
    exact loop f (Nat.le_refl _) q0 k5 rd0 J0 hJ0 g1.2 ⟨(g2 0 (by omega) (by omega)).trans hr0, g3, by omega⟩ (by omega) (l_prs_1.trans (l_bi_ok hEJ0))
