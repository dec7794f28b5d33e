/-! ===== the class's reader: a line of a statement ===== -/
theorem y_ST_ps {B0 B : XH} {ρ : Nat → Nat} {hv rd sv ty : Nat → Int32} {nm : Nat → Int64} {s elS i : Nat} {mS er ea : Int32} {pS : Nat → Nat} (hST : y_ST B0 B ρ hv rd s elS mS pS) (hρ : y_ds ρ B) : ∀ j, j < s → s_out (pS j) ∧ ∃ W, rset B ρ i er ea sv nm ty hv (pS j) = some (.inl (4, W)) ∧ W 0 = .long (s_nmn rd (275 + 30 * j) 8) := fun j hj => by
  obtain ⟨a, co, ht, sg, h, psg, l, E, b1, -⟩ := hST.2.2.2 j hj
  exact ⟨a, _, y_B1_rs hρ _ _ (y_dif_le _ _ (y_fz_dif _ _ b1)), rfl⟩
def x_QP (tx bf : Nat → Int32) (n c : Nat) (FP : Int32 → Int32 → (Nat → Int32) → Int64 → (Nat → Int32) → XH → (Nat → Nat) → XH) (ea : Int32) (B0 : XH) (ρ : Nat → Nat) (s : Nat) (R : LR) : XH → Option Value → Prop := fun N r => match R with
  | .inl (e, a) => ¬ e = 0 ∧ ∃ K tl hv' B' ρ', z_er K ∧ y_le B0 B' ∧ y_ds ρ' B' ∧ (B' 0 = none ∧ B' 2 = none) ∧ (∀ a, a ≠ 4 → ρ' a = ρ a) ∧ N = FP e (nI a) K tl hv' B' ρ' ∧ r = none
  | .inr (q, rd1) => ∃ K tl hv' B' ρ' elS' mS' pS', z_at tx bf n c K tl q ∧ y_ds ρ' B' ∧ (B' 0 = none ∧ B' 2 = none) ∧ (∀ a, a ≠ 4 → ρ' a = ρ a) ∧ y_ST B0 B' ρ' hv' rd1 (s + 1) elS' mS' pS' ∧ N = FP 0 ea K tl hv' B' ρ' ∧ r = none
theorem p_readPrepare {G : XE} (hG : x_Kn G) (hK : x_KS G) (hM : x_KM G) {B : XH} {J bf K tk ts : Nat → Int32} {tl : Int64} {tv : Nat → Int64} {su : Nat → Nat} {D : Nat → Nat → Int32} {ρ : Nat → Nat} (hρ : y_ds ρ B) {i : Nat} {ea : Int32} {sv ty hv : Nat → Int32} {nm : Nat → Int64} (d : Nat) {tx : Nat → Int32} {n c p : Nat} (hr : s_rtx tx bf n) (hn8 : n ≤ 800) (hsp : z_split bf tx n tk ts tv c) (hat : z_at tx bf n c K tl p) {rd : Nat → Int32} {m : Nat} (hcol : y_col rd sv ty nm m) {B0 : XH} {s elS k : Nat} {mS : Int32} {pS : Nat → Nat} (hX : B 0 = none ∧ B 2 = none) (hST : y_ST B0 B ρ hv rd s elS mS pS) (h0 : rd 0 = nI m) (hs6 : s ≤ 6) (hk : rd 9 = nI k ∧ 5 * k ≤ 2 * p) (hisw : l_isw tx n p (x_w 10) = true) : x_M G mX6_readPrepare (d + 28) (20 + 9 * (l_en n (l_prepLine tx n m s (l_sk tx n p) (l_tk tx n p (x_w 10)) rd) - p)) (400 + 250 * (l_en n (l_prepLine tx n m s (l_sk tx n p) (l_tk tx n p (x_w 10)) rd) - p)) [.ref (ρ 0)] (cset (rset B ρ i 0 ea sv nm ty hv) J bf K tk ts tl tv su D) (x_QP tx bf n c (fun er ea K tl hv B ρ => cset (rset B ρ i er ea sv nm ty hv) J bf K tk ts tl tv su D) ea B0 ρ s (l_prepLine tx n m s (l_sk tx n p) (l_tk tx n p (x_w 10)) rd)) x_noX := by
  refine X_M hG okX6_readPrepare rfl (L := [some (.ref (ρ 0)), none, none, none, none, none]) rfl (Nat.le_of_ble_eq_true rfl) (fun ad0 nb0 => ?_)
  obtain ⟨hp, j0, hj0, hz, h3, h4, h5, h6, htl⟩ := id hat
  have hwe : l_we tx n p = l_sk tx n p + (x_w 10).length := l_isw_we hisw
  have hwl := l_we_le (tx := tx) hp
  have hq : l_sk tx n p < n := by have := ((z_isw hp 10).mp hisw).2.1; omega
  have hp1n : l_tk tx n p (x_w 10) ≤ n := (l_tk_le hp).2
  have hm5 := hcol.1
  have hslp := l_sk_le (tx := tx) hp
  have hS := hST.2.2.1
  have hg0 : y_gs s ≤ 10 := by
    unfold y_gs
    by_cases e : s = 0
    · rw [if_pos e]; omega
    · rw [if_neg e]; omega
  generalize hR : l_prepLine tx n m s (l_sk tx n p) (l_tk tx n p (x_w 10)) rd = R
  unfold l_prepLine at hR
  refine X_ld rfl rfl rfl rfl ?_
  refine X_get f_X6_12 rfl (c_B (hρ.o 0 (by decide)) rs_r) rfl ?_
  refine X_get f_X6_157 rfl (c_B (hρ.o 1 (by decide)) (rs_st hρ)) rfl ?_
  refine X_vcall (rc_B hρ hS.1 hS.2.1) l_X6_Jx4a65c_size_8abf5 (j_size hG d (l_at_li (y_le.l (fun k c hk => rs_B hρ hk) (y_lb.l hS (by omega))))) rfl rfl rfl rfl (Nat.le_of_ble_eq_true rfl) (Nat.le_of_ble_eq_true rfl) (by omega) (by omega) (by omega) ?_
  refine X_push (v := .int 6) rfl (by decide +kernel) ?_
  refine X_icmp_lt rfl (fun c12 => ?_) (fun c12 => ?_)
  · have hs5 : s < 6 := (n_lt rfl (show (6 : Int32) = nI 6 from rfl) (by omega) (by omega)).mp c12
    rw [if_neg (show ¬ s = 6 by omega)] at hR
    refine X_ld rfl rfl rfl rfl ?_
    refine X_get f_X6_26 rfl (c_B (hρ.o 0 (by decide)) rs_r) rfl ?_
    refine X_vcallv c_T l_X6_X8_advance (p_advance hG (d + 3) h3 h4 (by have := hsp.1.2; omega) (by have := hsp.1.2; omega)) rfl rfl rfl rfl (Nat.le_of_ble_eq_true rfl) (Nat.le_of_ble_eq_true rfl) (by omega) (by omega) (by omega) ?_
    have hA := z_adv (tk := tk) (ts := ts) (tv := tv) (tl := tl) hsp hp hj0 hz h3 hq
    rw [z_wte hp 10 hisw] at hA
    clear htl
    generalize y_adK K tk ts c (j0 + 1) = K1 at hA ⊢
    generalize y_adl tl tv c (j0 + 1) = tl1 at hA ⊢
    generalize hp1e : l_tk tx n p (x_w 10) = p1 at hA hR hp1n
    obtain ⟨-, j1, hj1, hz1, k3, k4, k5, k6, ktl⟩ := id hA
    refine X_ld rfl rfl rfl rfl ?_
    refine X_get f_X6_26 rfl (c_B (hρ.o 0 (by decide)) rs_r) rfl ?_
    refine X_get f_X6_88 rfl c_T (v := .int (nI (l_sk tx n p1))) (congrArg Value.int k6) ?_
    refine X_st rfl rfl rfl ?_
    refine X_ld rfl rfl rfl rfl ?_
    refine X_vcallP (c_B (hρ.o 0 (by decide)) rs_r) l_X6_X6_takeName (p_takeName hG hK hρ (d + 1) hr hn8 hsp hA) rfl rfl rfl rfl (Nat.le_of_ble_eq_true rfl) (Nat.le_of_ble_eq_true rfl) (by omega) (by omega) (by omega) (fun N1 r hq9 => ?_)
    by_cases hnm : l_nm tx n p1
    · rw [show y_tn tx n p1 = _ from if_pos hnm] at hq9
      obtain ⟨K2, tl2, hat2, rfl, rfl⟩ := hq9
      refine X_stk (st' := [.long (s_nmv tx (l_sk tx n p1) (l_we tx n p1 - l_sk tx n p1))]) rfl ?_
      refine X_stl rfl rfl rfl ?_
      refine X_ld rfl rfl rfl rfl ?_
      refine X_get f_X6_12 rfl (c_B (hρ.o 0 (by decide)) rs_r) rfl ?_
      refine X_ld rfl rfl rfl rfl ?_
      refine X_vcall (c_B (hρ.o 1 (by decide)) (rs_st hρ)) l_X6_X5_findStatement (p_findStatement hG d (hρ.o 1 (by decide)) (rs_st hρ) rfl (y_le.l (fun k c hk => rs_B hρ hk) (y_lb.l hST.2.2.1 (by omega))) (y_ST_ps hST hρ)) rfl rfl rfl rfl (Nat.le_of_ble_eq_true rfl) (Nat.le_of_ble_eq_true rfl) (by omega) (by omega) (by omega) ?_
      have hsk := y_skS hST hp1n hnm
      have hwp := l_we_le (tx := tx) hp1n
      have hsp1 := l_sk_le (tx := tx) hp1n
      rcases s_first_ok (P := fun j => decide (s_nmn rd (275 + 30 * j) 8 = s_nmv tx (l_sk tx n p1) (l_we tx n p1 - l_sk tx n p1))) s (by omega) with ⟨g1, -⟩ | ⟨t, g1, g2, -⟩
      · refine X_if_lt rfl (fun c56 => ?_) (fun c56 => absurd (by rw [g1]; decide) c56)
        have hF : l_fresh rd tx n p1 275 30 s = .inr (l_we tx n p1, s_nmi rd tx (l_sk tx n p1) (l_we tx n p1) (275 + 30 * s) 8) := by unfold l_fresh; rw [if_pos hnm, hsk, if_pos g1]
        rw [l_bi_ok hF] at hR
        change l_bi (l_prs tx n m s (8 * (n - l_we tx n p1) + 3) 3 true 0 0 (l_we tx n p1) (s_prep (s_nmi rd tx (l_sk tx n p1) (l_we tx n p1) (275 + 30 * s) 8) s)) (fun y => l_want tx n 59 y.1 (upd (upd y.2 (275 + 30 * s + 27) (y.2 9)) 2 (nI (s + 1)))) = R at hR
        have hA0 : ∀ j, (j < 275 + 30 * s ∨ 455 ≤ j) → s_prep (s_nmi rd tx (l_sk tx n p1) (l_we tx n p1) (275 + 30 * s) 8) s j = rd j := fun j hj => (s_prep_o (by omega)).trans (s_nmi_ne 8 (by omega))
        have hAh : ∀ h, h < 4 → s_prep (s_nmi rd tx (l_sk tx n p1) (l_we tx n p1) (275 + 30 * s) 8) s (275 + 30 * s + (17 + h)) = -1 := fun h hh => s_prep_h hh
        have hA26 : s_prep (s_nmi rd tx (l_sk tx n p1) (l_we tx n p1) (275 + 30 * s) 8) s (275 + 30 * s + 26) = nI k := s_prep_26.trans ((s_nmi_ne 8 (by omega)).trans hk.1)
        have hAn : ∀ j, j < 8 → s_prep (s_nmi rd tx (l_sk tx n p1) (l_we tx n p1) (275 + 30 * s) 8) s (275 + 30 * s + j) = s_nmi rd tx (l_sk tx n p1) (l_we tx n p1) (275 + 30 * s) 8 (275 + 30 * s + j) := fun j hj => s_prep_o (by omega)
        generalize s_prep (s_nmi rd tx (l_sk tx n p1) (l_we tx n p1) (275 + 30 * s) 8) s = rdp at hR hA0 hAh hA26 hAn
        have hpp1 : l_we tx n p ≤ p1 := by rw [← hp1e, l_tk_y hisw]; omega
        generalize hq1 : l_we tx n p1 = q1 at *
        have hcolp := y_col_c75 hcol (fun j _ h2 => hA0 j (by omega))
        have hpk : ∀ q9 rd3, l_prs tx n m s (8 * (n - q1) + 3) 3 true 0 0 q1 rdp = .inr (q9, rd3) → s_pk 1 rdp rd3 q1 q9 k n := fun q9 rd3 h1 => l_prs_ok hn8 (by omega) _ _ _ _ _ _ k _ _ _ (by omega) ((hA0 9 (by omega)).trans hk.1) (by omega) h1
        have hen : q1 ≤ l_en n (l_prs tx n m s (8 * (n - q1) + 3) 3 true 0 0 q1 rdp) ∧ l_en n (l_prs tx n m s (8 * (n - q1) + 3) 3 true 0 0 q1 rdp) ≤ l_en n R := by
          cases hRR : l_prs tx n m s (8 * (n - q1) + 3) 3 true 0 0 q1 rdp with
          | inl e =>
            rw [← hR, hRR]
            exact ⟨by show q1 ≤ n; omega, Nat.le_refl _⟩
          | inr x =>
            obtain ⟨q9, rd3⟩ := x
            have h1 := (hpk q9 rd3 hRR).1
            refine ⟨h1.1, ?_⟩
            rw [← hR, hRR]
            have hs9 := l_sk_le (tx := tx) h1.2
            show q9 ≤ l_en n (l_want tx n 59 q9 _)
            unfold l_want
            by_cases e : l_see tx n q9 = 59
            · rw [if_pos e]; show q9 ≤ l_sk tx n q9 + 1; omega
            · rw [if_neg e]; exact h1.2
        refine w_pr66 hG hK hρ d hX (by omega) (by omega) (fun v po ρ2 ea2 e42 hvf hpf hds2 => ?_)
        have hX2 : (x_set (y_B1 B ρ hv) po (.inl (4, y_dfl tyX4))) 0 = none ∧ (x_set (y_B1 B ρ hv) po (.inl (4, y_dfl tyX4))) 2 = none := y_X2 hρ hX hpf.2.2.1
        have hPC := (w_all (J := J) (su := su) (D := D) (ρ := ρ2) (i := i) (ea := ea) (sv := sv) (ty := ty) (nm := nm) (m := m) (w := s) (d := d) hG hK hM hr hn8 hsp hs5 6).2
        refine X_vcallP (c_B (hds2.o 0 (by decide)) rs_r) l_X6_X6_readCondition (hPC (x_set (y_B1 B ρ hv) po (.inl (4, y_dfl tyX4))) K2 y_hv0 rdp tl2 q1 k (8 * (n - q1) + 3) 0 true rfl hds2 hX2 hat2 hcolp ⟨(hA0 0 (by omega)).trans h0, (hA0 9 (by omega)).trans hk.1, by omega⟩ (fun h hh => (y_hv0_at h hh).trans (hAh h hh).symm) (Nat.le_refl _)) rfl rfl rfl rfl (Nat.le_of_ble_eq_true rfl) (Nat.le_of_ble_eq_true rfl) (by omega) (by omega) (by omega) (fun N1 r9 hq9 => ?_)
        cases hRR : l_prs tx n m s (8 * (n - q1) + 3) 3 true 0 0 q1 rdp with
        | inl e9 =>
          obtain ⟨e9, a9⟩ := e9
          rw [hRR] at hq9 hen
          have hE : R = .inl (e9, a9) := hR.symm.trans (l_bi_er hRR)
          obtain ⟨he9, K3, tl3, hv3, B3, co, l, hek, hgw, ⟨hsg, hlen⟩, rfl, rfl⟩ := hq9
          change q1 ≤ n ∧ n ≤ l_en n R at hen
          refine X_stk (st' := [.ref co, .long (s_nmv tx (l_sk tx n p1) (q1 - l_sk tx n p1)), .ref po, .ref po]) rfl ?_
          refine X_room (cells' := 2 + (8 * (n - q1) + 14)) (slots' := 8 + (160 * (n - q1) + 34)) (by show _ + (8 * (n - q1) + 14) ≤ _; omega) (by show _ + (160 * (n - q1) + 34) ≤ _; omega) ?_
          have hgt := y_gt_le l.length
          have hsq : l.length * l.length ≤ 268 * l.length := Nat.mul_le_mul_right _ (by omega)
          refine w_pr103 hG hK hM hgw.2.1 d hgw.2.2 hpf.1 (hgw.1 _ _ x_set_eq) (by omega) (by omega) (fun sg s1 s2 s3 s4 s5 => ?_)
          have hds4 : y_ds ρ2 (x_set (x_set B3 sg (.inl (0, lV 0 2 0))) po (.inl (4, pV (s_nmv tx (l_sk tx n p1) (q1 - l_sk tx n p1)) co v sg))) := (hgw.2.1.set s4).set (hgw.2.1.nB (hgw.1 _ _ x_set_eq))
          refine X_ld rfl rfl rfl rfl ?_
          refine X_push (v := .int 59) rfl (by decide +kernel) ?_
          refine X_vcallv (c_B (hds4.o 0 (by decide)) rs_r) l_X6_X6_expectByte (p_expectByteX hG hK hds4 d he9 hek (s := 59) (by decide)) rfl rfl rfl rfl (Nat.le_of_ble_eq_true rfl) (Nat.le_of_ble_eq_true rfl) (by omega) (by omega) (by omega) ?_
          refine w_prEX hG hK hM d hρ hST hpf.2.1 hpf.2.2.1 hgw s2 s3 s4 he9 (by omega) (by omega) (fun f1 f2 f3 => ?_)
          rw [hE]
          exact ⟨he9, K3, tl3, hv3, _, ρ2, hek, f1, f2, f3, ea2, rfl, rfl⟩
        | inr x9 =>
          obtain ⟨q9, rd3⟩ := x9
          have hpk3 := hpk q9 rd3 hRR
          obtain ⟨w1, w2, kk, w3, w4, w5⟩ := hpk3
          rw [hRR] at hq9 hen hR
          obtain ⟨K3, tl3, hv3, B3, co, E, l, hat3, hgw, ⟨htr, hlen⟩, hhv2, hcod2, hreg2, rfl, rfl⟩ := hq9
          change q1 ≤ q9 ∧ q9 ≤ l_en n R at hen
          change l_want tx n 59 q9 (upd (upd rd3 (275 + 30 * s + 27) (rd3 9)) 2 (nI (s + 1))) = R at hR
          unfold l_want at hR
          refine X_stk (st' := [.ref co, .long (s_nmv tx (l_sk tx n p1) (q1 - l_sk tx n p1)), .ref po, .ref po]) rfl ?_
          refine X_room (cells' := 2 + (8 * (q9 - q1) + 14)) (slots' := 8 + (160 * (q9 - q1) + 34)) (by show _ + (8 * (q9 - q1) + 14) ≤ _; omega) (by show _ + (160 * (q9 - q1) + 34) ≤ _; omega) ?_
          have hgt := y_gt_le l.length
          have hsq : l.length * l.length ≤ 268 * l.length := Nat.mul_le_mul_right _ (by omega)
          refine w_pr103 hG hK hM hgw.2.1 d hgw.2.2 hpf.1 (hgw.1 _ _ x_set_eq) (by omega) (by omega) (fun sg s1 s2 s3 s4 s5 => ?_)
          have hds4 : y_ds ρ2 (x_set (x_set B3 sg (.inl (0, lV 0 2 0))) po (.inl (4, pV (s_nmv tx (l_sk tx n p1) (q1 - l_sk tx n p1)) co v sg))) := (hgw.2.1.set s4).set (hgw.2.1.nB (hgw.1 _ _ x_set_eq))
          refine X_ld rfl rfl rfl rfl ?_
          refine X_push (v := .int 59) rfl (by decide +kernel) ?_
          refine X_vcallP (c_B (hds4.o 0 (by decide)) rs_r) l_X6_X6_expectByte (p_expectByte hG hK hds4 d hr hn8 hsp hat3 (s := 59) (by decide) (by decide) (by decide)) rfl rfl rfl rfl (Nat.le_of_ble_eq_true rfl) (Nat.le_of_ble_eq_true rfl) (by omega) (by omega) (by omega) (fun N1 r hq => ?_)
          by_cases h59 : l_see tx n q9 = 59
          · rw [show y_wb tx n (nI 59) q9 = _ from if_pos h59] at hq
            obtain ⟨K4, tl4, hat4, rfl, rfl⟩ := hq
            rw [if_pos h59] at hR
            refine X_stk (st' := []) rfl ?_
            refine w_prE hG hK hM d hρ hX hST ea2 hpf.1 hpf.2.1 hpf.2.2.1 hgw s1 s2 s3 s4 s5 htr.2.1 (by decide) (by omega) (by omega) rfl (by omega) (by omega) (fun B5 B6 el5 elS6 m5 f1 f2 f3 t1 t2 t3 u3 u4 u5 u6 => ?_)
            rw [← hR]
            have hnkk : n_ (rd3 9) = kk := by rw [w3]; exact n_nI (by omega)
            rw [hnkk] at htr
            have hrd' : ∀ j, j ≠ 2 → j ≠ 275 + 30 * s + 27 → (upd (upd rd3 (275 + 30 * s + 27) (rd3 9)) 2 (nI (s + 1))) j = rd3 j := fun j h1 h2 => (updI_ne h1).trans (updI_ne h2)
            have hr27 : (upd (upd rd3 (275 + 30 * s + 27) (rd3 9)) 2 (nI (s + 1))) (275 + 30 * s + 27) = nI kk := (updI_ne (by omega)).trans (updI_eq.trans w3)
            generalize (upd (upd rd3 (275 + 30 * s + 27) (rd3 9)) 2 (nI (s + 1))) = rd' at hrd' hr27 ⊢
            obtain ⟨hok, hnz⟩ := y_nm_new (rd := rd) (rd1 := rd') (b := 275 + 30 * s) hp1n hnm (fun j hj => (hrd' _ (by omega) (by omega)).trans ((hreg2 _ (by omega) (by omega) (by omega)).trans ((hAn j hj).trans (by rw [hq1]))))
            rw [hq1] at hnz
            have hn9 : n_ (rd 9) = k := by rw [hk.1]; exact n_nI (by omega)
            have hr9 : n_ (rd' 9) = kk := by rw [hrd' 9 (by omega) (by omega)]; exact hnkk
            have hr26 : n_ (rd' (275 + 30 * s + 26)) = k := by rw [hrd' _ (by omega) (by omega), hreg2 _ (by omega) (by omega) (by omega), hA26]; exact n_nI (by omega)
            have hr0 : rd' 0 = rd 0 := (hrd' 0 (by omega) (by omega)).trans ((w2 0 (by decide) (by decide)).trans (hA0 0 (by omega)))
            exact ⟨K4, tl4, hv3, B6, ρ2, elS6, mS + 1, updF pS s po, hat4, f2, f3, ea2, y_prep_ok hρ hX hST ea2 e42 hvf.1 hvf.2.1 hvf.2.2.1 hvf.2.2.2 hpf.1 hpf.2.1 hpf.2.2.1 hgw s1 s2 s3 s4 s5 htr (by omega) f1 f2 t1 t2 t3 u3 u4 u5 hnz.symm ⟨_, hok⟩ (fun j hj => (hhv2 j hj).trans (hrd' _ (by omega) (by omega)).symm) hr26 (by rw [hr27]; exact n_nI (by omega)) hr9 (by omega) w4 (fun j _ x hx => (hrd' _ (by omega) (by omega)).symm) (hrd' 0 (by omega) (by omega)).symm hr0 (fun t ht x hx => (hrd' _ (by omega) (by omega)).trans ((hreg2 _ (by omega) (by omega) (by omega)).trans (hA0 _ (by omega)))) (fun j hj x hx => ((hrd' _ (by omega) (by omega)).trans ((hcod2 j hj x hx).trans (hA0 _ (by omega)))).symm), rfl, rfl⟩
          · rw [show y_wb tx n (nI 59) q9 = _ from if_neg h59] at hq
            obtain ⟨hx9, K4, tl4, hek, rfl, rfl⟩ := hq
            rw [if_neg h59] at hR
            refine X_stk (st' := []) rfl ?_
            refine w_prEX hG hK hM d hρ hST hpf.2.1 hpf.2.2.1 hgw s2 s3 s4 hx9 (by omega) (by omega) (fun f1 f2 f3 => ?_)
            rw [← hR]
            exact ⟨hx9, K4, tl4, hv3, _, ρ2, hek, f1, f2, f3, ea2, rfl, rfl⟩
      · refine X_if_lt rfl (fun c56 => absurd c56 (by rw [g2]; exact Int32.not_lt.mpr (nI_ge0 (by omega)))) (fun c56 => ?_)
        have hE : R = .inl (-5, l_sk tx n p1) := hR.symm.trans (l_bi_er (by unfold l_fresh; rw [if_pos hnm, hsk, if_neg (fun q => nI_ne_neg (show t < 2147483648 by omega) (g2.symm.trans q))]))
        obtain ⟨-, j2, hj2, hz2, m3, m4, m5, m6, mtl⟩ := id hat2
        have hek : z_er (upd (upd K2 3 0) 5 256) := z_er_mk m4 (by have := hsp.1.2; omega)
        refine X_ld rfl rfl rfl rfl ?_
        refine X_push (v := .int (-5)) rfl (by decide +kernel) ?_
        refine X_ld rfl rfl rfl rfl ?_
        refine X_vcallv (c_B (hρ.o 0 (by decide)) rs_r) l_X6_X6_fail (p_fail hG hK hρ d rfl (x := (-5)) (y := nI (l_sk tx n p1))) rfl rfl rfl rfl (Nat.le_of_ble_eq_true rfl) (Nat.le_of_ble_eq_true rfl) (by omega) (by omega) (by omega) ?_
        exact w_prX66 hG hK hM hρ d hX hST (show ¬ (-5 : Int32) = 0 by decide) hek hcol hs6 (by omega) (by omega) (fun hv2 B6 ρ2 f1 f2 f3 f4 => by rw [hE]; exact ⟨(show ¬ (-5 : Int32) = 0 by decide), _, _, hv2, B6, ρ2, hek, f1, f2, f3, f4, rfl, rfl⟩)
    · rw [show y_tn tx n p1 = _ from if_neg hnm] at hq9
      obtain ⟨hx9, K2, tl2, hek, rfl, rfl⟩ := hq9
      have hE : R = .inl (-2, l_sk tx n p1) := hR.symm.trans (l_bi_er (by unfold l_fresh; rw [if_neg hnm]))
      refine X_stk (st' := [.long 0]) rfl ?_
      refine X_stl rfl rfl rfl ?_
      refine X_ld rfl rfl rfl rfl ?_
      refine X_get f_X6_12 rfl (c_B (hρ.o 0 (by decide)) rs_r) rfl ?_
      refine X_ld rfl rfl rfl rfl ?_
      refine X_vcall (c_B (hρ.o 1 (by decide)) (rs_st hρ)) l_X6_X5_findStatement (p_findStatement hG d (hρ.o 1 (by decide)) (rs_st hρ) rfl (y_le.l (fun k c hk => rs_B hρ hk) (y_lb.l hST.2.2.1 (by omega))) (y_ST_ps hST hρ)) rfl rfl rfl rfl (Nat.le_of_ble_eq_true rfl) (Nat.le_of_ble_eq_true rfl) (by omega) (by omega) (by omega) ?_
      refine X_if_lt rfl (fun _ => ?_) (fun _ => ?_)
      · exact w_prX66 hG hK hM hρ d hX hST hx9 hek hcol hs6 (by omega) (by omega) (fun hv2 B6 ρ2 f1 f2 f3 f4 => by rw [hE]; exact ⟨hx9, _, _, hv2, B6, ρ2, hek, f1, f2, f3, f4, rfl, rfl⟩)
      · refine X_ld rfl rfl rfl rfl ?_
        refine X_push (v := .int (-5)) rfl (by decide +kernel) ?_
        refine X_ld rfl rfl rfl rfl ?_
        refine X_vcallv (c_B (hρ.o 0 (by decide)) rs_r) l_X6_X6_fail (p_failX hG hK hρ d hx9) rfl rfl rfl rfl (Nat.le_of_ble_eq_true rfl) (Nat.le_of_ble_eq_true rfl) (by omega) (by omega) (by omega) ?_
        exact w_prX66 hG hK hM hρ d hX hST hx9 hek hcol hs6 (by omega) (by omega) (fun hv2 B6 ρ2 f1 f2 f3 f4 => by rw [hE]; exact ⟨hx9, _, _, hv2, B6, ρ2, hek, f1, f2, f3, f4, rfl, rfl⟩)
  · obtain rfl : s = 6 := by
      have : ¬ s < 6 := fun q => c12 ((n_lt rfl (show (6 : Int32) = nI 6 from rfl) (by omega) (by omega)).mpr q)
      omega
    rw [if_pos rfl] at hR
    have hE : R = .inl (-7, l_sk tx n p) := hR.symm
    refine X_ld rfl rfl rfl rfl ?_
    refine X_push (v := .int (-7)) rfl (by decide +kernel) ?_
    refine X_ld rfl rfl rfl rfl ?_
    refine X_get f_X6_26 rfl (c_B (hρ.o 0 (by decide)) rs_r) rfl ?_
    refine X_get f_X6_88 rfl c_T (v := .int (nI (l_sk tx n p))) (congrArg Value.int h6) ?_
    refine X_vcallv (c_B (hρ.o 0 (by decide)) rs_r) l_X6_X6_fail (p_fail hG hK hρ (d + 2) rfl (x := (-7)) (y := nI (l_sk tx n p))) rfl rfl rfl rfl (Nat.le_of_ble_eq_true rfl) (Nat.le_of_ble_eq_true rfl) (by omega) (by omega) (by omega) ?_
    refine X_ld rfl rfl rfl rfl ?_
    refine X_get f_X6_26 rfl (c_B (hρ.o 0 (by decide)) rs_r) rfl ?_
    refine X_vcallv c_T l_X6_X8_advance (p_advance hG (d + 2) (c := 0) (K := (upd (upd K 3 0) 5 256)) (by rw [updI_ne (by decide), updI_eq]; rfl) ((updI_ne (by decide)).trans ((updI_ne (by decide)).trans h4)) (by omega) (by have := hsp.1.2; omega)) rfl rfl rfl rfl (Nat.le_of_ble_eq_true rfl) (Nat.le_of_ble_eq_true rfl) (by omega) (by omega) (by omega) ?_
    refine X_heap (N' := cset (rset B ρ i (-7) (nI (l_sk tx n p)) sv nm ty hv) J bf (upd (upd K 3 0) 5 256) tk ts tl tv su D) (by rw [(z_adX (K := (upd (upd K 3 0) 5 256)) (tk := tk) (ts := ts) (tv := tv) (tl := tl) updI_eq).1, (z_adX (K := (upd (upd K 3 0) 5 256)) (tk := tk) (ts := ts) (tv := tv) (tl := tl) updI_eq).2]) ?_
    have hek : z_er (upd (upd K 3 0) 5 256) := (z_er_mk h4 (by have := hsp.1.2; omega))
    generalize upd (upd K 3 0) 5 256 = K1 at hek ⊢
    refine X_ld rfl rfl rfl rfl ?_
    refine X_get f_X6_26 rfl (c_B (hρ.o 0 (by decide)) rs_r) rfl ?_
    refine X_get f_X6_88 rfl c_T rfl ?_
    refine X_st rfl rfl rfl ?_
    refine X_ld rfl rfl rfl rfl ?_
    refine X_vcall (c_B (hρ.o 0 (by decide)) rs_r) l_X6_X6_takeName (p_takeNameX hG hK hρ (d + 1) (by decide) hek) rfl rfl rfl rfl (Nat.le_of_ble_eq_true rfl) (Nat.le_of_ble_eq_true rfl) (by omega) (by omega) (by omega) ?_
    refine X_stl rfl rfl rfl ?_
    refine X_ld rfl rfl rfl rfl ?_
    refine X_get f_X6_12 rfl (c_B (hρ.o 0 (by decide)) rs_r) rfl ?_
    refine X_ld rfl rfl rfl rfl ?_
    refine X_vcall (c_B (hρ.o 1 (by decide)) (rs_st hρ)) l_X6_X5_findStatement (p_findStatement hG d (hρ.o 1 (by decide)) (rs_st hρ) rfl (y_le.l (fun k c hk => rs_B hρ hk) (y_lb.l hST.2.2.1 (by omega))) (y_ST_ps hST hρ)) rfl rfl rfl rfl (Nat.le_of_ble_eq_true rfl) (Nat.le_of_ble_eq_true rfl) (by omega) (by omega) (by omega) ?_
    refine X_if_lt rfl (fun _ => ?_) (fun _ => ?_)
    · exact w_prX66 hG hK hM hρ d hX hST (show ¬ (-7 : Int32) = 0 by decide) hek hcol hs6 (by omega) (by omega) (fun hv2 B6 ρ2 f1 f2 f3 f4 => by rw [hE]; exact ⟨(show ¬ (-7 : Int32) = 0 by decide), _, _, hv2, B6, ρ2, hek, f1, f2, f3, f4, rfl, rfl⟩)
    · refine X_ld rfl rfl rfl rfl ?_
      refine X_push (v := .int (-5)) rfl (by decide +kernel) ?_
      refine X_ld rfl rfl rfl rfl ?_
      refine X_vcallv (c_B (hρ.o 0 (by decide)) rs_r) l_X6_X6_fail (p_failX hG hK hρ d (show ¬ (-7 : Int32) = 0 by decide)) rfl rfl rfl rfl (Nat.le_of_ble_eq_true rfl) (Nat.le_of_ble_eq_true rfl) (by omega) (by omega) (by omega) ?_
      exact w_prX66 hG hK hM hρ d hX hST (show ¬ (-7 : Int32) = 0 by decide) hek hcol hs6 (by omega) (by omega) (fun hv2 B6 ρ2 f1 f2 f3 f4 => by rw [hE]; exact ⟨(show ¬ (-7 : Int32) = 0 by decide), _, _, hv2, B6, ρ2, hek, f1, f2, f3, f4, rfl, rfl⟩)

