/-! ===== the class's reader: lines of indexes, of costs, of tries ===== -/
def x_QI (tx bf : Nat → Int32) (n c : Nat) (FI : Int32 → Int32 → (Nat → Int32) → Int64 → (Nat → Int32) → XH) (ea : Int32) (d0 rd : Nat → Int32) (R : LR) : XH → Option Value → Prop := fun N r => match R with
  | .inl (e, a) => ¬ e = 0 ∧ ∃ K tl dd, z_er K ∧ dd 1 = d0 1 ∧ N = FI e (nI a) K tl dd ∧ r = none
  | .inr (q, rd1) => ∃ K tl j, z_at tx bf n c K tl q ∧ j < 5 ∧ rd1 = upd rd (10 + 13 * j + 9) 1 ∧ N = FI 0 ea K tl (upd d0 (10 + 13 * j + 9) 1) ∧ r = none
theorem p_readIndex {G : XE} (hG : x_Kn G) (hK : x_KS G) {B : XH} {J bf K tk ts : Nat → Int32} {tl : Int64} {tv : Nat → Int64} {su : Nat → Nat} {D : Nat → Nat → Int32} {ρ : Nat → Nat} (hρ : y_ds ρ B) {i : Nat} {ea : Int32} {sv ty hv : Nat → Int32} {nm : Nat → Int64} (d : Nat) {tx : Nat → Int32} {n c p : Nat} (hr : s_rtx tx bf n) (hn8 : n ≤ 800) (hsp : z_split bf tx n tk ts tv c) (hat : z_at tx bf n c K tl p) {rd : Nat → Int32} {m : Nat} (hcol : y_col rd sv ty nm m) (hi : i < 10) (hdd : ∀ j, j < 5 → D i (10 + 13 * j + 9) = rd (10 + 13 * j + 9) ∧ (rd (10 + 13 * j + 9) = 0 ∨ rd (10 + 13 * j + 9) = 1)) (hisw : l_isw tx n p (x_w 8) = true) : x_M G mX6_readIndex (d + 4) 0 0 [.ref (ρ 0)] (cset (rset B ρ i 0 ea sv nm ty hv) J bf K tk ts tl tv su D) (x_QI tx bf n c (fun er ea K tl dd => cset (rset B ρ i er ea sv nm ty hv) J bf K tk ts tl tv su (updR D i dd)) ea (D i) rd (l_idxLine tx n m (l_tk tx n p (x_w 8)) rd)) x_noX := by
  refine X_M hG okX6_readIndex rfl (L := [some (.ref (ρ 0)), none, none]) rfl (Nat.le_of_ble_eq_true rfl) (fun ad0 nb0 => ?_)
  obtain ⟨hp, j0, hj0, hz, h3, h4, h5, h6, htl⟩ := id hat
  have hwe : l_we tx n p = l_sk tx n p + (x_w 8).length := l_isw_we hisw
  have hwl := l_we_le (tx := tx) hp
  have hq : l_sk tx n p < n := by have := ((z_isw hp 8).mp hisw).2.1; omega
  have hp1n : l_tk tx n p (x_w 8) ≤ n := (l_tk_le hp).2
  have hm5 := hcol.1
  generalize hR : l_idxLine tx n m (l_tk tx n p (x_w 8)) rd = R
  unfold l_idxLine at hR
  refine X_ld rfl rfl rfl rfl ?_
  refine X_get f_X6_26 rfl (c_B (hρ.o 0 (by decide)) rs_r) rfl ?_
  refine X_vcallv c_T l_X6_X8_advance (p_advance hG (d + 3) h3 h4 (by have := hsp.1.2; omega) (by have := hsp.1.2; omega)) rfl rfl rfl rfl (Nat.le_of_ble_eq_true rfl) (Nat.le_of_ble_eq_true rfl) (by omega) (by omega) (by omega) ?_
  have hA := z_adv (tk := tk) (ts := ts) (tv := tv) (tl := tl) hsp hp hj0 hz h3 hq
  rw [z_wte hp 8 hisw] at hA
  clear htl
  generalize y_adK K tk ts c (j0 + 1) = K1 at hA ⊢
  generalize y_adl tl tv c (j0 + 1) = tl1 at hA ⊢
  generalize l_tk tx n p (x_w 8) = p1 at hA hR hp1n
  obtain ⟨-, j1, hj1, hz1, k3, k4, k5, k6, ktl⟩ := id hA
  refine X_ld rfl rfl rfl rfl ?_
  refine X_get f_X6_26 rfl (c_B (hρ.o 0 (by decide)) rs_r) rfl ?_
  refine X_get f_X6_88 rfl c_T (v := .int (nI (l_sk tx n p1))) (congrArg Value.int k6) ?_
  refine X_st rfl rfl rfl ?_
  refine X_ld rfl rfl rfl rfl ?_
  refine X_vcallP (c_B (hρ.o 0 (by decide)) rs_r) l_X6_X6_takeColumn (p_takeColumn hG hK hρ d hr hn8 hsp hA hcol) rfl rfl rfl rfl (Nat.le_of_ble_eq_true rfl) (Nat.le_of_ble_eq_true rfl) (by omega) (by omega) (by omega) (fun N1 r hq9 => ?_)
  cases hC : l_known rd tx n p1 m with
  | inl e9 =>
    obtain ⟨e9, a9⟩ := e9
    rw [hC] at hq9
    obtain ⟨he9, K2, tl2, hek, rfl, rfl⟩ := hq9
    have hE : R = .inl (e9, a9) := hR.symm.trans (l_bi_er hC)
    refine X_stk (st' := [.int (-1)]) rfl ?_
    refine X_st rfl rfl rfl ?_
    refine X_ld rfl rfl rfl rfl ?_
    refine X_if_lt rfl (fun c21 => ?_) (fun c21 => absurd (by decide) c21)
    refine X_ld rfl rfl rfl rfl ?_
    refine X_push (v := .int 59) rfl (by decide +kernel) ?_
    refine X_vcallv (c_B (hρ.o 0 (by decide)) rs_r) l_X6_X6_expectByte (p_expectByteX hG hK hρ d he9 hek (s := 59) (by decide)) rfl rfl rfl rfl (Nat.le_of_ble_eq_true rfl) (Nat.le_of_ble_eq_true rfl) (by omega) (by omega) (by omega) ?_
    rw [hE]
    exact X_vret rfl rfl ⟨he9, K2, tl2, D i, hek, rfl, by show _ = cset _ _ _ _ _ _ _ _ _ (updR D i (D i)); rw [← updR_self], rfl⟩ (Nat.le_of_ble_eq_true rfl) (Nat.le_of_ble_eq_true rfl)
  | inr x9 =>
    obtain ⟨q2, v2⟩ := x9
    rw [hC] at hq9
    obtain ⟨K2, tl2, hat2, rfl, rfl⟩ := hq9
    obtain ⟨hq2, j, hj, rfl⟩ := l_known_ok hC hp1n (by omega)
    have hnj : n_ (nI j) = j := n_nI (by omega)
    rw [l_bi_ok hC] at hR
    change (if rd (10 + 13 * n_ (nI j) + 9) = 1 then .inl (-5, l_sk tx n p1) else l_want tx n 59 q2 (upd rd (10 + 13 * n_ (nI j) + 9) 1)) = R at hR
    rw [hnj] at hR
    obtain ⟨x1, x2⟩ := hdd j (by omega)
    refine X_stk (st' := [.int (nI j)]) rfl ?_
    refine X_st rfl rfl rfl ?_
    refine X_ld rfl rfl rfl rfl ?_
    refine X_if_lt rfl (fun c21 => absurd c21 (Int32.not_lt.mpr (nI_ge0 (by omega)))) (fun c21 => ?_)
    refine X_ld rfl rfl rfl rfl ?_
    refine X_push (v := .int 5) rfl (by decide +kernel) ?_
    refine X_icmp_ge rfl (fun c26 => absurd ((n_le (show (5 : Int32) = nI 5 from rfl) rfl (by omega) (by omega)).mp c26) (by omega)) (fun c26 => ?_)
    refine X_ld rfl rfl rfl rfl ?_
    refine X_get f_X6_30 rfl (c_B (hρ.o 0 (by decide)) rs_r) rfl ?_
    refine X_get f_X6_136 rfl (r_D hi rfl) rfl ?_
    refine X_ld rfl rfl rfl rfl ?_
    refine X_Xald hi rfl rfl (show j < 5 by omega) rfl ?_
    refine X_if_eq rfl (fun c38 => ?_) (fun c38 => ?_)
    · have hn1 : ¬ rd (10 + 13 * j + 9) = 1 := fun q => by rw [x1, q] at c38; exact absurd c38 (by decide)
      rw [if_neg hn1] at hR
      unfold l_want at hR
      refine X_ld rfl rfl rfl rfl ?_
      refine X_get f_X6_30 rfl (c_B (hρ.o 0 (by decide)) rs_r) rfl ?_
      refine X_get f_X6_136 rfl (r_D hi rfl) rfl ?_
      refine X_ld rfl rfl rfl rfl ?_
      refine X_push (v := .int 1) rfl (by decide +kernel) ?_
      refine X_Xast hi rfl rfl (show j < 5 by omega) rfl rfl ?_
      refine X_ld rfl rfl rfl rfl ?_
      refine X_push (v := .int 59) rfl (by decide +kernel) ?_
      refine X_vcallP (c_B (hρ.o 0 (by decide)) rs_r) l_X6_X6_expectByte (p_expectByte hG hK hρ d hr hn8 hsp hat2 (s := 59) (by decide) (by decide) (by decide)) rfl rfl rfl rfl (Nat.le_of_ble_eq_true rfl) (Nat.le_of_ble_eq_true rfl) (by omega) (by omega) (by omega) (fun N1 r hq => ?_)
      by_cases h59 : l_see tx n q2 = 59
      · rw [show y_wb tx n (nI 59) q2 = _ from if_pos h59] at hq
        obtain ⟨K4, tl4, hat4, rfl, rfl⟩ := hq
        rw [if_pos h59] at hR
        refine X_stk (st' := []) rfl ?_
        rw [← hR]
        exact X_vret rfl rfl ⟨K4, tl4, j, hat4, by omega, rfl, rfl, rfl⟩ (Nat.le_of_ble_eq_true rfl) (Nat.le_of_ble_eq_true rfl)
      · rw [show y_wb tx n (nI 59) q2 = _ from if_neg h59] at hq
        obtain ⟨hx9, K4, tl4, hek, rfl, rfl⟩ := hq
        rw [if_neg h59] at hR
        refine X_stk (st' := []) rfl ?_
        rw [← hR]
        exact X_vret rfl rfl ⟨hx9, K4, tl4, _, hek, updI_ne (by omega), rfl, rfl⟩ (Nat.le_of_ble_eq_true rfl) (Nat.le_of_ble_eq_true rfl)
    · have h1 : rd (10 + 13 * j + 9) = 1 := by
        rcases x2 with q | q
        · exact absurd (x1.trans q) c38
        · exact q
      rw [if_pos h1] at hR
      obtain ⟨-, j2, hj2, hz2, m3, m4, m5, m6, mtl⟩ := id hat2
      have hek : z_er (upd (upd K2 3 0) 5 256) := z_er_mk m4 (by have := hsp.1.2; omega)
      refine X_ld rfl rfl rfl rfl ?_
      refine X_push (v := .int (-5)) rfl (by decide +kernel) ?_
      refine X_ld rfl rfl rfl rfl ?_
      refine X_vcallv (c_B (hρ.o 0 (by decide)) rs_r) l_X6_X6_fail (p_fail hG hK hρ d rfl (x := (-5)) (y := nI (l_sk tx n p1))) rfl rfl rfl rfl (Nat.le_of_ble_eq_true rfl) (Nat.le_of_ble_eq_true rfl) (by omega) (by omega) (by omega) ?_
      refine X_ld rfl rfl rfl rfl ?_
      refine X_get f_X6_30 rfl (c_B (hρ.o 0 (by decide)) rs_r) rfl ?_
      refine X_get f_X6_136 rfl (r_D hi rfl) rfl ?_
      refine X_ld rfl rfl rfl rfl ?_
      refine X_push (v := .int 1) rfl (by decide +kernel) ?_
      refine X_Xast hi rfl rfl (show j < 5 by omega) rfl rfl ?_
      refine X_ld rfl rfl rfl rfl ?_
      refine X_push (v := .int 59) rfl (by decide +kernel) ?_
      refine X_vcallv (c_B (hρ.o 0 (by decide)) rs_r) l_X6_X6_expectByte (p_expectByteX hG hK hρ d (show ¬ (-5 : Int32) = 0 by decide) hek (s := 59) (by decide)) rfl rfl rfl rfl (Nat.le_of_ble_eq_true rfl) (Nat.le_of_ble_eq_true rfl) (by omega) (by omega) (by omega) ?_
      rw [← hR]
      exact X_vret rfl rfl ⟨by decide, _, _, _, hek, updI_ne (by omega), rfl, rfl⟩ (Nat.le_of_ble_eq_true rfl) (Nat.le_of_ble_eq_true rfl)

