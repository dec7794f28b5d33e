/-! ===== the class's reader: a line of a row ===== -/
theorem y_col_c75 {rd rd' sv ty : Nat → Int32} {nm : Nat → Int64} {m : Nat} (h : y_col rd sv ty nm m) (hc : ∀ j, 10 ≤ j → j < 75 → rd' j = rd j) : y_col rd' sv ty nm m := by
  obtain ⟨h1, h2, h3⟩ := h
  refine ⟨h1, h2, fun j hj => ?_⟩
  obtain ⟨a1, a2, ⟨L, a3, a4, a5⟩, a6⟩ := h3 j hj
  have hl := a3.2
  refine ⟨a1.trans (s_nmn_cong 8 (fun k hk => (hc _ (by omega) (by omega)).symm)), a2.trans (hc _ (by omega) (by omega)).symm, ⟨L, a3, fun k hk => by rw [hc _ (by omega) (by omega)]; exact a4 k hk, fun k h1 h2 => by rw [hc _ (by omega) (by omega)]; exact a5 k h1 h2⟩, ?_⟩
  unfold s_col
  rw [hc _ (by omega) (by omega)]
  exact a6
def x_QW (tx bf : Nat → Int32) (n c : Nat) (FI : Int32 → Int32 → (Nat → Int32) → Int64 → (Nat → Int32) → XH) (ea : Int32) (d0 : Nat → Int32) (m l : Nat) (R : LR) : XH → Option Value → Prop := fun N r => match R with
  | .inl (e, a) => ¬ e = 0 ∧ ∃ K tl dd, z_er K ∧ dd 1 = nI l ∧ N = FI e (nI a) K tl dd ∧ r = none
  | .inr (q, rd1) => ∃ K tl dd, z_at tx bf n c K tl q ∧ dd 1 = rd1 1 ∧ (∀ b, b < m → dd (75 + 5 * l + b) = rd1 (75 + 5 * l + b)) ∧ (∀ k, k ≠ 1 → (k < 75 + 5 * l ∨ 75 + 5 * l + 5 ≤ k) → dd k = d0 k) ∧ N = FI 0 ea K tl dd ∧ r = none
theorem w_rowX {G : XE} (hG : x_Kn G) (hK : x_KS G) {B : XH} {J bf K tk ts : Nat → Int32} {tl : Int64} {tv : Nat → Int64} {su : Nat → Nat} {D : Nat → Nat → Int32} {ρ : Nat → Nat} (hρ : y_ds ρ B) {i : Nat} {er ea : Int32} {sv ty hv : Nat → Int32} {nm : Nat → Int64} (d : Nat) (her : ¬ er = 0) (hek : z_er K) {rd : Nat → Int32} {m l : Nat} (hcol : y_col rd sv ty nm m) (hi : i < 10) (hl : l ≤ 40) {nb0 : Nat} {ad0 : Nat → Nat} {Qn : XH → Option Value → Prop} : ∀ (rr cc : Nat) (dd : Nat → Int32), cc + rr = m → dd 1 = nI l → (∀ dd2 : Nat → Int32, dd2 1 = nI l → Qn (cset (rset B ρ i er ea sv nm ty hv) J bf K tk ts tl tv su (updR D i dd2)) none) → x_W G mX6_readRow (x_Z G (d + 7) 0 0 ad0 nb0 Qn x_noX) (cset (rset B ρ i er ea sv nm ty hv) J bf K tk ts tl tv su (updR D i dd)) 0 0 57 [some (.ref (ρ 0)), some (.int (nI cc))] [] := by
  intro rr
  induction rr with
  | zero =>
    intro cc dd hc hdl kk
    have hm5 := hcol.1
    obtain rfl : m = cc := by omega
    refine X_ld rfl rfl rfl rfl ?_
    refine X_ld rfl rfl rfl rfl ?_
    refine X_get f_X6_12 rfl (c_B (hρ.o 0 (by decide)) rs_r) rfl ?_
    refine X_get f_X6_116 rfl (c_B (hρ.o 1 (by decide)) (rs_st hρ)) (v := .int (nI m)) (congrArg Value.int hcol.2.1) ?_
    refine X_icmp_ge rfl (fun c65 => ?_) (fun c65 => absurd ((n_le rfl rfl (by omega) (by omega)).mpr (Nat.le_refl m)) c65)
    refine X_ld rfl rfl rfl rfl ?_
    refine X_push (v := .int 59) rfl (by decide +kernel) ?_
    refine X_vcallv (c_B (hρ.o 0 (by decide)) rs_r) l_X6_X6_expectByte (p_expectByteX hG hK hρ d her hek (s := 59) (by decide)) rfl rfl rfl rfl (Nat.le_of_ble_eq_true rfl) (Nat.le_of_ble_eq_true rfl) (by omega) (by omega) (by omega) ?_
    refine X_ld rfl rfl rfl rfl ?_
    refine X_get f_X6_98 rfl (c_B (hρ.o 0 (by decide)) rs_r) (v := .int er) rfl ?_
    refine X_if_ne rfl (fun c114 => ?_) (fun c114 => absurd c114 her)
    exact X_vret rfl rfl (kk dd hdl) (Nat.le_of_ble_eq_true rfl) (Nat.le_of_ble_eq_true rfl)
  | succ rr ih =>
    intro cc dd hc hdl kk
    refine X_ld rfl rfl rfl rfl ?_
    refine X_ld rfl rfl rfl rfl ?_
    refine X_get f_X6_12 rfl (c_B (hρ.o 0 (by decide)) rs_r) rfl ?_
    refine X_get f_X6_116 rfl (c_B (hρ.o 1 (by decide)) (rs_st hρ)) (v := .int (nI m)) (congrArg Value.int hcol.2.1) ?_
    have hm5 := hcol.1
    refine X_icmp_ge rfl (fun c65 => absurd ((n_le rfl rfl (by omega) (by omega)).mp c65) (by omega)) (fun c65 => ?_)
    refine X_ld rfl rfl rfl rfl ?_
    refine X_get f_X6_30 rfl (c_B (hρ.o 0 (by decide)) rs_r) rfl ?_
    refine X_ld rfl rfl rfl rfl ?_
    refine X_get f_X6_30 rfl (c_B (hρ.o 0 (by decide)) rs_r) rfl ?_
    refine X_get f_X6_140 rfl (r_D hi updR_eq) (v := .int (nI l)) (congrArg Value.int hdl) ?_
    refine X_ld rfl rfl rfl rfl ?_
    refine X_ld rfl rfl rfl rfl ?_
    refine X_ld rfl rfl rfl rfl ?_
    refine X_get f_X6_12 rfl (c_B (hρ.o 0 (by decide)) rs_r) rfl ?_
    refine X_ld rfl rfl rfl rfl ?_
    refine X_vcall (c_B (hρ.o 1 (by decide)) (rs_st hρ)) l_X6_X5_typeOf (p_typeOfG hG d (hρ.o 1 (by decide)) (rs_st hρ) (congrArg Value.int hcol.2.1) rfl (hρ.o 3 (by decide)) (rs_a2 hρ) hcol.1 (show cc < m by omega)) rfl rfl rfl rfl (Nat.le_of_ble_eq_true rfl) (Nat.le_of_ble_eq_true rfl) (by omega) (by omega) (by omega) ?_
    refine X_sncall l_X6_X10_greatestOf (m_greatestOf hG d) rfl rfl rfl (Nat.le_of_ble_eq_true rfl) (Nat.le_of_ble_eq_true rfl) (by omega) (by omega) (by omega) ?_
    refine X_vcall (c_B (hρ.o 0 (by decide)) rs_r) l_X6_X6_takeNumber (p_takeNumberX hG hK hρ d her hek) rfl rfl rfl rfl (Nat.le_of_ble_eq_true rfl) (Nat.le_of_ble_eq_true rfl) (by omega) (by omega) (by omega) ?_
    by_cases hl40 : l < 40
    · refine X_vcallv (r_D hi updR_eq) l_X6_X3_putCell (d_putCell hG d i hi (a := l) (b := cc) rfl rfl (v := 0) (by omega) (by omega)) rfl rfl rfl rfl (Nat.le_of_ble_eq_true rfl) (Nat.le_of_ble_eq_true rfl) (by omega) (by omega) (by omega) ?_
      refine X_iinc rfl rfl rfl ?_
      refine X_goto rfl ?_
      refine X_loc (L' := [some (.ref (ρ 0)), some (.int (nI (cc + 1)))]) ⟨rfl, congrArg Value.int (m_inc rfl).symm, trivial⟩ ?_
      exact ih (cc + 1) _ (by omega) ((updI_ne (by omega)).trans hdl) kk
    · refine X_vcallv (r_D hi updR_eq) l_X6_X3_putCell (d_putCellN hG d i hi (a := l) (b := cc) rfl rfl (by omega) (by omega)) rfl rfl rfl rfl (Nat.le_of_ble_eq_true rfl) (Nat.le_of_ble_eq_true rfl) (by omega) (by omega) (by omega) ?_
      refine X_iinc rfl rfl rfl ?_
      refine X_goto rfl ?_
      refine X_loc (L' := [some (.ref (ρ 0)), some (.int (nI (cc + 1)))]) ⟨rfl, congrArg Value.int (m_inc rfl).symm, trivial⟩ ?_
      exact ih (cc + 1) dd (by omega) hdl kk
theorem w_rowO {G : XE} (hG : x_Kn G) (hK : x_KS G) {B : XH} {J bf tk ts : Nat → Int32} {tv : Nat → Int64} {su : Nat → Nat} {D : Nat → Nat → Int32} {ρ : Nat → Nat} (hρ : y_ds ρ B) {i : Nat} {ea : Int32} {sv ty hv : Nat → Int32} {nm : Nat → Int64} (d : Nat) {tx : Nat → Int32} {n c : Nat} (hr : s_rtx tx bf n) (hn8 : n ≤ 800) (hsp : z_split bf tx n tk ts tv c) {m l : Nat} {R : LR} (hm5 : m ≤ 5) (hi : i < 10) (hl : l < 40) {nb0 : Nat} {ad0 : Nat → Nat} : ∀ (rr cc p : Nat) (K rd : Nat → Int32) (tl : Int64) (dd : Nat → Int32), cc + rr = m → z_at tx bf n c K tl p → dd 1 = nI l → y_col rd sv ty nm m → (∀ b, b < cc → dd (75 + 5 * l + b) = rd (75 + 5 * l + b)) → (∀ k, (k < 75 + 5 * l ∨ 75 + 5 * l + 5 ≤ k) → dd k = D i k) → R = l_bi (l_vals tx n l rr cc p rd) (fun x => l_want tx n 59 x.1 (upd x.2 1 (nI (l + 1)))) → x_W G mX6_readRow (x_Z G (d + 7) 0 0 ad0 nb0 (x_QW tx bf n c (fun er ea K tl dd => cset (rset B ρ i er ea sv nm ty hv) J bf K tk ts tl tv su (updR D i dd)) ea (D i) m l R) x_noX) (cset (rset B ρ i 0 ea sv nm ty hv) J bf K tk ts tl tv su (updR D i dd)) 0 0 57 [some (.ref (ρ 0)), some (.int (nI cc))] [] := by
  intro rr
  induction rr with
  | zero =>
    intro cc p K rd tl dd hc hat hdl hcol hcl hoth hR
    have hm5 := hcol.1
    obtain rfl : m = cc := by omega
    obtain ⟨hp, j0, hj0, hz, h3, h4, h5, h6, htl⟩ := id hat
    change R = l_want tx n 59 p (upd rd 1 (nI (l + 1))) at hR
    unfold l_want at hR
    refine X_ld rfl rfl rfl rfl ?_
    refine X_ld rfl rfl rfl rfl ?_
    refine X_get f_X6_12 rfl (c_B (hρ.o 0 (by decide)) rs_r) rfl ?_
    refine X_get f_X6_116 rfl (c_B (hρ.o 1 (by decide)) (rs_st hρ)) (v := .int (nI m)) (congrArg Value.int hcol.2.1) ?_
    refine X_icmp_ge rfl (fun c65 => ?_) (fun c65 => absurd ((n_le rfl rfl (by omega) (by omega)).mpr (Nat.le_refl m)) c65)
    refine X_ld rfl rfl rfl rfl ?_
    refine X_push (v := .int 59) rfl (by decide +kernel) ?_
    refine X_vcallP (c_B (hρ.o 0 (by decide)) rs_r) l_X6_X6_expectByte (p_expectByte hG hK hρ d hr hn8 hsp hat (s := 59) (by decide) (by decide) (by decide)) rfl rfl rfl rfl (Nat.le_of_ble_eq_true rfl) (Nat.le_of_ble_eq_true rfl) (by omega) (by omega) (by omega) (fun N1 r hq => ?_)
    by_cases h59 : l_see tx n p = 59
    · rw [show y_wb tx n (nI 59) p = _ from if_pos h59] at hq
      obtain ⟨K4, tl4, hat4, rfl, rfl⟩ := hq
      rw [if_pos h59] at hR
      refine X_stk (st' := []) rfl ?_
      refine X_ld rfl rfl rfl rfl ?_
      refine X_get f_X6_98 rfl (c_B (hρ.o 0 (by decide)) rs_r) (v := .int 0) rfl ?_
      refine X_if_ne rfl (fun c114 => absurd rfl c114) (fun c114 => ?_)
      refine X_ld rfl rfl rfl rfl ?_
      refine X_get f_X6_30 rfl (c_B (hρ.o 0 (by decide)) rs_r) rfl ?_
      refine X_dup rfl rfl ?_
      refine X_get f_X6_140 rfl (r_D hi updR_eq) (v := .int (nI l)) (congrArg Value.int hdl) ?_
      refine X_push (v := .int 1) rfl (by decide +kernel) ?_
      refine X_bin rfl rfl ?_
      refine X_stk (st' := [.int (nI (l + 1)), .ref (75 + 20 * i)]) (congrArg (fun q => [Value.int q, .ref (75 + 20 * i)]) (m_add (a := l) (b := 1) rfl rfl)) ?_
      refine X_put f_X6_140 rfl (r_D hi updR_eq) ⟨rfl, rfl⟩ ?_
      refine X_heap (w_D1 hi) ?_
      rw [hR]
      exact X_vret rfl rfl ⟨K4, tl4, _, hat4, updI_eq.trans updI_eq.symm, fun b hb => (updI_ne (by omega)).trans ((hcl b hb).trans (updI_ne (by omega)).symm), fun k h1 h2 => (updI_ne h1).trans (hoth k h2), rfl, rfl⟩ (Nat.le_of_ble_eq_true rfl) (Nat.le_of_ble_eq_true rfl)
    · rw [show y_wb tx n (nI 59) p = _ from if_neg h59] at hq
      obtain ⟨hx9, K4, tl4, hek, rfl, rfl⟩ := hq
      rw [if_neg h59] at hR
      refine X_stk (st' := []) rfl ?_
      refine X_ld rfl rfl rfl rfl ?_
      refine X_get f_X6_98 rfl (c_B (hρ.o 0 (by decide)) rs_r) (v := .int (-2)) rfl ?_
      refine X_if_ne rfl (fun c114 => ?_) (fun c114 => absurd c114 (by decide))
      rw [hR]
      exact X_vret rfl rfl ⟨by decide, K4, tl4, dd, hek, hdl, rfl, rfl⟩ (Nat.le_of_ble_eq_true rfl) (Nat.le_of_ble_eq_true rfl)
  | succ rr ih =>
    intro cc p K rd tl dd hc hat hdl hcol hcl hoth hR
    obtain ⟨-, ejt, -, hjt⟩ := hcol.2.2 cc (by omega)
    obtain ⟨M, hM, hM1, hM2⟩ := y_grt (t := ty cc) (by rw [ejt]; exact hjt)
    have hp := hat.1
    change R = l_bi (l_bi (l_reads tx n p (s_most (s_col rd cc 8))) fun x => l_vals tx n l rr (cc + 1) x.1 (upd rd (75 + 5 * l + cc) x.2)) _ at hR
    rw [← ejt, hM2] at hR
    refine X_ld rfl rfl rfl rfl ?_
    refine X_ld rfl rfl rfl rfl ?_
    refine X_get f_X6_12 rfl (c_B (hρ.o 0 (by decide)) rs_r) rfl ?_
    refine X_get f_X6_116 rfl (c_B (hρ.o 1 (by decide)) (rs_st hρ)) (v := .int (nI m)) (congrArg Value.int hcol.2.1) ?_
    have hm5 := hcol.1
    refine X_icmp_ge rfl (fun c65 => absurd ((n_le rfl rfl (by omega) (by omega)).mp c65) (by omega)) (fun c65 => ?_)
    refine X_ld rfl rfl rfl rfl ?_
    refine X_get f_X6_30 rfl (c_B (hρ.o 0 (by decide)) rs_r) rfl ?_
    refine X_ld rfl rfl rfl rfl ?_
    refine X_get f_X6_30 rfl (c_B (hρ.o 0 (by decide)) rs_r) rfl ?_
    refine X_get f_X6_140 rfl (r_D hi updR_eq) (v := .int (nI l)) (congrArg Value.int hdl) ?_
    refine X_ld rfl rfl rfl rfl ?_
    refine X_ld rfl rfl rfl rfl ?_
    refine X_ld rfl rfl rfl rfl ?_
    refine X_get f_X6_12 rfl (c_B (hρ.o 0 (by decide)) rs_r) rfl ?_
    refine X_ld rfl rfl rfl rfl ?_
    refine X_vcall (c_B (hρ.o 1 (by decide)) (rs_st hρ)) l_X6_X5_typeOf (p_typeOfG hG d (hρ.o 1 (by decide)) (rs_st hρ) (congrArg Value.int hcol.2.1) rfl (hρ.o 3 (by decide)) (rs_a2 hρ) hcol.1 (show cc < m by omega)) rfl rfl rfl rfl (Nat.le_of_ble_eq_true rfl) (Nat.le_of_ble_eq_true rfl) (by omega) (by omega) (by omega) ?_
    refine X_sncall l_X6_X10_greatestOf (m_greatestOf hG d) rfl rfl rfl (Nat.le_of_ble_eq_true rfl) (Nat.le_of_ble_eq_true rfl) (by omega) (by omega) (by omega) ?_
    rw [hM1]
    refine X_vcallP (c_B (hρ.o 0 (by decide)) rs_r) l_X6_X6_takeNumber (p_takeNumber hG hK hρ d hr hn8 hsp hat hM) rfl rfl rfl rfl (Nat.le_of_ble_eq_true rfl) (Nat.le_of_ble_eq_true rfl) (by omega) (by omega) (by omega) (fun N1 r hq9 => ?_)
    cases hN : l_reads tx n p (nI M) with
    | inl e9 =>
      obtain ⟨e9, a9⟩ := e9
      rw [hN] at hq9
      obtain ⟨he9, K2, tl2, hek, rfl, rfl⟩ := hq9
      have hE : R = .inl (e9, a9) := by rw [hR, hN]; rfl
      refine X_stk (st' := [.int 0, .int (nI cc), .int (nI l), .ref (75 + 20 * i)]) rfl ?_
      refine X_vcallv (r_D hi updR_eq) l_X6_X3_putCell (d_putCell hG d i hi (a := l) (b := cc) rfl rfl (v := 0) (by omega) (by omega)) rfl rfl rfl rfl (Nat.le_of_ble_eq_true rfl) (Nat.le_of_ble_eq_true rfl) (by omega) (by omega) (by omega) ?_
      refine X_iinc rfl rfl rfl ?_
      refine X_goto rfl ?_
      refine X_loc (L' := [some (.ref (ρ 0)), some (.int (nI (cc + 1)))]) ⟨rfl, congrArg Value.int (m_inc rfl).symm, trivial⟩ ?_
      refine w_rowX hG hK hρ d he9 hek hcol hi (by omega) rr (cc + 1) _ (by omega) ((updI_ne (by omega)).trans hdl) (fun dd2 h2 => ?_)
      rw [hE]
      exact ⟨he9, K2, tl2, dd2, hek, h2, rfl, rfl⟩
    | inr x9 =>
      obtain ⟨q2, v2⟩ := x9
      rw [hN] at hq9
      obtain ⟨K2, tl2, hat2, rfl, rfl⟩ := hq9
      rw [hN] at hR
      change R = l_bi (l_vals tx n l rr (cc + 1) q2 (upd rd (75 + 5 * l + cc) v2)) _ at hR
      refine X_stk (st' := [.int v2, .int (nI cc), .int (nI l), .ref (75 + 20 * i)]) rfl ?_
      refine X_vcallv (r_D hi updR_eq) l_X6_X3_putCell (d_putCell hG d i hi (a := l) (b := cc) rfl rfl (v := v2) (by omega) (by omega)) rfl rfl rfl rfl (Nat.le_of_ble_eq_true rfl) (Nat.le_of_ble_eq_true rfl) (by omega) (by omega) (by omega) ?_
      refine X_iinc rfl rfl rfl ?_
      refine X_goto rfl ?_
      refine X_loc (L' := [some (.ref (ρ 0)), some (.int (nI (cc + 1)))]) ⟨rfl, congrArg Value.int (m_inc rfl).symm, trivial⟩ ?_
      refine ih (cc + 1) q2 K2 (upd rd (75 + 5 * l + cc) v2) tl2 _ (by omega) hat2 ((updI_ne (by omega)).trans hdl) (y_col_c75 hcol (fun j h1 h2 => updI_ne (by omega))) (fun b hb => ?_) (fun k hk => (updI_ne (by omega)).trans (hoth k hk)) hR
      by_cases e : b = cc
      · rw [e, updI_eq, updI_eq]
      · rw [updI_ne (by omega), updI_ne (by omega)]; exact hcl b (by omega)
theorem p_readRow {G : XE} (hG : x_Kn G) (hK : x_KS G) {B : XH} {J bf K tk ts : Nat → Int32} {tl : Int64} {tv : Nat → Int64} {su : Nat → Nat} {D : Nat → Nat → Int32} {ρ : Nat → Nat} (hρ : y_ds ρ B) {i : Nat} {ea : Int32} {sv ty hv : Nat → Int32} {nm : Nat → Int64} (d : Nat) {tx : Nat → Int32} {n c p : Nat} (hr : s_rtx tx bf n) (hn8 : n ≤ 800) (hsp : z_split bf tx n tk ts tv c) (hat : z_at tx bf n c K tl p) {rd : Nat → Int32} {m : Nat} (hcol : y_col rd sv ty nm m) {l : Nat} (hi : i < 10) (hdl : D i 1 = nI l) (hl : l ≤ 40) (hisw : l_isw tx n p (x_w 9) = true) : x_M G mX6_readRow (d + 7) 0 0 [.ref (ρ 0)] (cset (rset B ρ i 0 ea sv nm ty hv) J bf K tk ts tl tv su D) (x_QW tx bf n c (fun er ea K tl dd => cset (rset B ρ i er ea sv nm ty hv) J bf K tk ts tl tv su (updR D i dd)) ea (D i) m l (l_rowLine tx n m l (l_sk tx n p) (l_tk tx n p (x_w 9)) rd)) x_noX := by
  refine X_M hG okX6_readRow rfl (L := [some (.ref (ρ 0)), none]) rfl (Nat.le_of_ble_eq_true rfl) (fun ad0 nb0 => ?_)
  obtain ⟨hp, j0, hj0, hz, h3, h4, h5, h6, htl⟩ := id hat
  have hwe : l_we tx n p = l_sk tx n p + (x_w 9).length := l_isw_we hisw
  have hwl := l_we_le (tx := tx) hp
  have hq : l_sk tx n p < n := by have := ((z_isw hp 9).mp hisw).2.1; omega
  have hp1n : l_tk tx n p (x_w 9) ≤ n := (l_tk_le hp).2
  have hm5 := hcol.1
  generalize hR : l_rowLine tx n m l (l_sk tx n p) (l_tk tx n p (x_w 9)) rd = R
  unfold l_rowLine at hR
  have hDe : D = updR D i (D i) := updR_self
  refine X_ld rfl rfl rfl rfl ?_
  refine X_get f_X6_12 rfl (c_B (hρ.o 0 (by decide)) rs_r) rfl ?_
  refine X_get f_X6_116 rfl (c_B (hρ.o 1 (by decide)) (rs_st hρ)) (v := .int (nI m)) (congrArg Value.int hcol.2.1) ?_
  refine X_if_ne rfl (fun c7 => ?_) (fun c7 => ?_)
  · have hm0 : ¬ m = 0 := fun q => c7 (by rw [q]; rfl)
    rw [if_neg hm0] at hR
    refine X_ld rfl rfl rfl rfl ?_
    refine X_get f_X6_30 rfl (c_B (hρ.o 0 (by decide)) rs_r) rfl ?_
    refine X_get f_X6_140 rfl (r_D hi rfl) (v := .int (nI l)) (congrArg Value.int hdl) ?_
    refine X_push (v := .int 40) rfl (by decide +kernel) ?_
    refine X_icmp_lt rfl (fun c32 => ?_) (fun c32 => ?_)
    · have hl40 : l < 40 := (n_lt rfl (show (40 : Int32) = nI 40 from rfl) (by omega) (by omega)).mp c32
      rw [if_neg (show ¬ l = 40 by omega)] at hR
      refine X_ld rfl rfl rfl rfl ?_
      refine X_get f_X6_26 rfl (c_B (hρ.o 0 (by decide)) rs_r) rfl ?_
      refine X_vcallv c_T l_X6_X8_advance (p_advance hG (d + 3) h3 h4 (by have := hsp.1.2; omega) (by have := hsp.1.2; omega)) rfl rfl rfl rfl (Nat.le_of_ble_eq_true rfl) (Nat.le_of_ble_eq_true rfl) (by omega) (by omega) (by omega) ?_
      have hA := z_adv (tk := tk) (ts := ts) (tv := tv) (tl := tl) hsp hp hj0 hz h3 hq
      rw [z_wte hp 9 hisw] at hA
      clear htl
      generalize y_adK K tk ts c (j0 + 1) = K1 at hA ⊢
      generalize y_adl tl tv c (j0 + 1) = tl1 at hA ⊢
      generalize l_tk tx n p (x_w 9) = p1 at hA hR hp1n
      obtain ⟨-, j1, hj1, hz1, k3, k4, k5, k6, ktl⟩ := id hA
      refine X_push (v := .int 0) rfl (by decide +kernel) ?_
      refine X_st rfl rfl rfl ?_
      refine X_heap (N' := cset (rset B ρ i 0 ea sv nm ty hv) J bf K1 tk ts tl1 tv su (updR D i (D i))) (by rw [← hDe]) ?_
      exact w_rowO hG hK hρ d hr hn8 hsp hm5 hi hl40 m 0 p1 K1 rd tl1 (D i) (Nat.zero_add m) hA hdl hcol (fun b hb => absurd hb (Nat.not_lt_zero _)) (fun _ _ => rfl) hR.symm
    · obtain rfl : l = 40 := by
        have : ¬ l < 40 := fun q => c32 ((n_lt rfl (show (40 : Int32) = nI 40 from rfl) (by omega) (by omega)).mpr q)
        omega
      rw [if_pos rfl] at hR
      have hE : R = .inl (-7, l_sk tx n p) := hR.symm
      refine X_ld rfl rfl rfl rfl ?_
      refine X_push (v := .int (-7)) rfl (by decide +kernel) ?_
      refine X_ld rfl rfl rfl rfl ?_
      refine X_get f_X6_26 rfl (c_B (hρ.o 0 (by decide)) rs_r) rfl ?_
      refine X_get f_X6_88 rfl c_T (v := .int (nI (l_sk tx n p))) (congrArg Value.int h6) ?_
      refine X_vcallv (c_B (hρ.o 0 (by decide)) rs_r) l_X6_X6_fail (p_fail hG hK hρ (d + 2) rfl (x := (-7)) (y := nI (l_sk tx n p))) rfl rfl rfl rfl (Nat.le_of_ble_eq_true rfl) (Nat.le_of_ble_eq_true rfl) (by omega) (by omega) (by omega) ?_
      refine X_ld rfl rfl rfl rfl ?_
      refine X_get f_X6_26 rfl (c_B (hρ.o 0 (by decide)) rs_r) rfl ?_
      refine X_vcallv c_T l_X6_X8_advance (p_advance hG (d + 3) (c := 0) (K := (upd (upd K 3 0) 5 256)) (by rw [updI_ne (by decide), updI_eq]; rfl) ((updI_ne (by decide)).trans ((updI_ne (by decide)).trans h4)) (by omega) (by have := hsp.1.2; omega)) rfl rfl rfl rfl (Nat.le_of_ble_eq_true rfl) (Nat.le_of_ble_eq_true rfl) (by omega) (by omega) (by omega) ?_
      refine X_heap (N' := cset (rset B ρ i (-7) (nI (l_sk tx n p)) sv nm ty hv) J bf (upd (upd K 3 0) 5 256) tk ts tl tv su D) (by rw [(z_adX (K := (upd (upd K 3 0) 5 256)) (tk := tk) (ts := ts) (tv := tv) (tl := tl) updI_eq).1, (z_adX (K := (upd (upd K 3 0) 5 256)) (tk := tk) (ts := ts) (tv := tv) (tl := tl) updI_eq).2]) ?_
      have hek : z_er (upd (upd K 3 0) 5 256) := (z_er_mk h4 (by have := hsp.1.2; omega))
      generalize upd (upd K 3 0) 5 256 = K1 at hek ⊢
      refine X_push (v := .int 0) rfl (by decide +kernel) ?_
      refine X_st rfl rfl rfl ?_
      refine X_heap (N' := cset (rset B ρ i (-7) (nI (l_sk tx n p)) sv nm ty hv) J bf K1 tk ts tl tv su (updR D i (D i))) (by rw [← hDe]) ?_
      refine w_rowX hG hK hρ d (by decide) hek hcol hi hl _ 0 (D i) (Nat.zero_add _) hdl (fun dd2 h2 => ?_)
      rw [hE]
      exact ⟨by decide, K1, tl, dd2, hek, h2, rfl, rfl⟩
  · obtain rfl : m = 0 := (nI_eq (by omega) (by omega)).mp (c7.trans (show (0 : Int32) = nI 0 from rfl))
    rw [if_pos rfl] at hR
    have hE : R = .inl (-2, l_sk tx n p) := hR.symm
    refine X_ld rfl rfl rfl rfl ?_
    refine X_push (v := .int (-2)) rfl (by decide +kernel) ?_
    refine X_ld rfl rfl rfl rfl ?_
    refine X_get f_X6_26 rfl (c_B (hρ.o 0 (by decide)) rs_r) rfl ?_
    refine X_get f_X6_88 rfl c_T (v := .int (nI (l_sk tx n p))) (congrArg Value.int h6) ?_
    refine X_vcallv (c_B (hρ.o 0 (by decide)) rs_r) l_X6_X6_fail (p_fail hG hK hρ (d + 2) rfl (x := (-2)) (y := nI (l_sk tx n p))) rfl rfl rfl rfl (Nat.le_of_ble_eq_true rfl) (Nat.le_of_ble_eq_true rfl) (by omega) (by omega) (by omega) ?_
    refine X_ld rfl rfl rfl rfl ?_
    refine X_get f_X6_30 rfl (c_B (hρ.o 0 (by decide)) rs_r) rfl ?_
    refine X_get f_X6_140 rfl (r_D hi rfl) (v := .int (nI l)) (congrArg Value.int hdl) ?_
    refine X_push (v := .int 40) rfl (by decide +kernel) ?_
    refine X_icmp_lt rfl (fun c32 => ?_) (fun c32 => ?_)
    · refine X_ld rfl rfl rfl rfl ?_
      refine X_get f_X6_26 rfl (c_B (hρ.o 0 (by decide)) rs_r) rfl ?_
      refine X_vcallv c_T l_X6_X8_advance (p_advance hG (d + 3) (c := 0) (K := (upd (upd K 3 0) 5 256)) (by rw [updI_ne (by decide), updI_eq]; rfl) ((updI_ne (by decide)).trans ((updI_ne (by decide)).trans h4)) (by omega) (by have := hsp.1.2; omega)) rfl rfl rfl rfl (Nat.le_of_ble_eq_true rfl) (Nat.le_of_ble_eq_true rfl) (by omega) (by omega) (by omega) ?_
      refine X_heap (N' := cset (rset B ρ i (-2) (nI (l_sk tx n p)) sv nm ty hv) J bf (upd (upd K 3 0) 5 256) tk ts tl tv su D) (by rw [(z_adX (K := (upd (upd K 3 0) 5 256)) (tk := tk) (ts := ts) (tv := tv) (tl := tl) updI_eq).1, (z_adX (K := (upd (upd K 3 0) 5 256)) (tk := tk) (ts := ts) (tv := tv) (tl := tl) updI_eq).2]) ?_
      have hek : z_er (upd (upd K 3 0) 5 256) := (z_er_mk h4 (by have := hsp.1.2; omega))
      generalize upd (upd K 3 0) 5 256 = K1 at hek ⊢
      refine X_push (v := .int 0) rfl (by decide +kernel) ?_
      refine X_st rfl rfl rfl ?_
      refine X_heap (N' := cset (rset B ρ i (-2) (nI (l_sk tx n p)) sv nm ty hv) J bf K1 tk ts tl tv su (updR D i (D i))) (by rw [← hDe]) ?_
      refine w_rowX hG hK hρ d (by decide) hek hcol hi hl _ 0 (D i) (Nat.zero_add _) hdl (fun dd2 h2 => ?_)
      rw [hE]
      exact ⟨by decide, K1, tl, dd2, hek, h2, rfl, rfl⟩
    · refine X_ld rfl rfl rfl rfl ?_
      refine X_push (v := .int (-7)) rfl (by decide +kernel) ?_
      refine X_ld rfl rfl rfl rfl ?_
      refine X_get f_X6_26 rfl (c_B (hρ.o 0 (by decide)) rs_r) rfl ?_
      refine X_get f_X6_88 rfl c_T rfl ?_
      refine X_vcallv (c_B (hρ.o 0 (by decide)) rs_r) l_X6_X6_fail (p_failX hG hK hρ (d + 2) (by decide)) rfl rfl rfl rfl (Nat.le_of_ble_eq_true rfl) (Nat.le_of_ble_eq_true rfl) (by omega) (by omega) (by omega) ?_
      refine X_ld rfl rfl rfl rfl ?_
      refine X_get f_X6_26 rfl (c_B (hρ.o 0 (by decide)) rs_r) rfl ?_
      refine X_vcallv c_T l_X6_X8_advance (p_advance hG (d + 3) (c := 0) (K := (upd (upd K 3 0) 5 256)) (by rw [updI_ne (by decide), updI_eq]; rfl) ((updI_ne (by decide)).trans ((updI_ne (by decide)).trans h4)) (by omega) (by have := hsp.1.2; omega)) rfl rfl rfl rfl (Nat.le_of_ble_eq_true rfl) (Nat.le_of_ble_eq_true rfl) (by omega) (by omega) (by omega) ?_
      refine X_heap (N' := cset (rset B ρ i (-2) (nI (l_sk tx n p)) sv nm ty hv) J bf (upd (upd K 3 0) 5 256) tk ts tl tv su D) (by rw [(z_adX (K := (upd (upd K 3 0) 5 256)) (tk := tk) (ts := ts) (tv := tv) (tl := tl) updI_eq).1, (z_adX (K := (upd (upd K 3 0) 5 256)) (tk := tk) (ts := ts) (tv := tv) (tl := tl) updI_eq).2]) ?_
      have hek : z_er (upd (upd K 3 0) 5 256) := (z_er_mk h4 (by have := hsp.1.2; omega))
      generalize upd (upd K 3 0) 5 256 = K1 at hek ⊢
      refine X_push (v := .int 0) rfl (by decide +kernel) ?_
      refine X_st rfl rfl rfl ?_
      refine X_heap (N' := cset (rset B ρ i (-2) (nI (l_sk tx n p)) sv nm ty hv) J bf K1 tk ts tl tv su (updR D i (D i))) (by rw [← hDe]) ?_
      refine w_rowX hG hK hρ d (by decide) hek hcol hi hl _ 0 (D i) (Nat.zero_add _) hdl (fun dd2 h2 => ?_)
      rw [hE]
      exact ⟨by decide, K1, tl, dd2, hek, h2, rfl, rfl⟩

