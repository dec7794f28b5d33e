/-! ===== the class's reader: readSetup ===== -/
theorem s_ucl_o {e : Nat → Int32} {s j : Nat} (hj : j < 275) : ∀ k, s_ucl e s k j = e j
  | 0 => by
    show s_uc0 e s j = e j
    unfold s_uc0
    rw [updI_ne (by omega), updI_ne (by omega), updI_ne (by omega), updI_ne (by omega), updI_ne (by omega), updI_ne (by omega), updI_ne (by omega), updI_ne (by omega)]
  | k + 1 => by
    show upd (s_ucl e s k) (275 + 30 * s + (21 + k)) 100 j = e j
    rw [updI_ne (by omega)]
    exact s_ucl_o hj k
theorem s_clu_o {e : Nat → Int32} {j : Nat} (hj : j < 275) : ∀ k, s_clu e k j = e j
  | 0 => rfl
  | k + 1 => by
    show s_ucl (s_clu e k) k 5 j = e j
    rw [s_ucl_o hj 5]
    exact s_clu_o hj k
theorem s_cld_1 {e : Nat → Int32} : s_cld e 1 = 0 := by
  unfold s_cld
  rw [s_clu_o (by decide), s_clx_ne 5 (fun x hx => by omega)]
  exact s_cl1_1
theorem s_cld_x {e : Nat → Int32} {x : Nat} (hx : x < 5) : s_cld e (10 + 13 * x + 9) = 0 := by
  unfold s_cld
  rw [s_clu_o (by omega)]
  exact s_clx_at 5 hx
theorem s_pl_0 {j : Nat} (h : j < 4 ∨ 8 ≤ j) : s_pl j = 0 := by
  unfold s_pl
  rw [updI_ne (by omega), updI_ne (by omega), updI_ne (by omega), updI_ne (by omega)]
def x_QT (FT : Int32 → Int32 → (Nat → Int32) → Int64 → (Nat → Int32) → (Nat → Int64) → (Nat → Int32) → (Nat → Int32) → XH → (Nat → Nat) → (Nat → Int32) → XH) (ea : Int32) (B0 : XH) (ρ : Nat → Nat) (c0 : Nat → Int32) (R : LR) : XH → Option Value → Prop := fun N r => match R with
  | .inl (e, a) => ¬ e = 0 ∧ ∃ K tl sv nm ty hv B' ρ' dd, y_le B0 B' ∧ y_ds ρ' B' ∧ (B' 0 = none ∧ B' 2 = none) ∧ (∀ a, a ≠ 4 → ρ' a = ρ a) ∧ N = FT e (nI a) K tl sv nm ty hv B' ρ' dd ∧ r = none
  | .inr (_, rd1) => ∃ K tl sv nm ty hv B' ρ' dd rdS s elS mS pS m l, (y_ds ρ' B' ∧ (B' 0 = none ∧ B' 2 = none) ∧ ∀ a, a ≠ 4 → ρ' a = ρ a) ∧ y_ST B0 B' ρ' hv rdS s elS mS pS ∧ (∀ j, (j < 4 ∨ 8 ≤ j) → rd1 j = rdS j) ∧ (rd1 0 = nI m ∧ rd1 1 = nI l ∧ rd1 2 = nI s ∧ l ≤ 40 ∧ s ≤ 6) ∧ y_col rd1 sv ty nm m ∧ (∀ k, 4 ≤ k → k ≤ 7 → sv k = rd1 k) ∧ dd 1 = nI l ∧ (∀ j, j < 5 → dd (10 + 13 * j + 9) = rd1 (10 + 13 * j + 9) ∧ (rd1 (10 + 13 * j + 9) = 0 ∨ rd1 (10 + 13 * j + 9) = 1)) ∧ (∀ a, a < l → ∀ b, b < m → dd (75 + 5 * a + b) = rd1 (75 + 5 * a + b)) ∧ (∀ k, k ≠ 1 → (k < 10 ∨ 275 ≤ k) → dd k = c0 k) ∧ N = FT 0 ea K tl sv nm ty hv B' ρ' (s_look dd l m) ∧ r = none
theorem p_readSetup {G : XE} (hG : x_Kn G) (hK : x_KS G) (hM : x_KM G) {B : XH} {J bf K tk ts : Nat → Int32} {tl : Int64} {tv : Nat → Int64} {su : Nat → Nat} {D : Nat → Nat → Int32} {ρ : Nat → Nat} (hρ : y_ds ρ B) {i : Nat} {ea : Int32} {sv ty hv : Nat → Int32} {nm : Nat → Int64} (d : Nat) {tx : Nat → Int32} {n c : Nat} (hr : s_rtx tx bf n) (hn8 : n ≤ 800) (hsp : z_split bf tx n tk ts tv c) (h3 : K 3 = nI c) (h4 : K 4 = nI 0) {B0 : XH} {elS : Nat} {mS : Int32} {pS : Nat → Nat} (hX : B 0 = none ∧ B 2 = none) (hST : y_ST B0 B ρ hv s_pl 0 elS mS pS) (hi : i < 10) (hsv : sv 0 = nI 0) (hs4 : ∀ k, 4 ≤ k → k ≤ 7 → sv k = s_pl k) : x_M G mX6_readSetup (d + 30) (12 * n) (292 * n + 400) [.ref (ρ 0)] (cset (rset B ρ i 0 ea sv nm ty hv) J bf K tk ts tl tv su D) (x_QT (fun er ea K tl sv nm ty hv B ρ2 dd => cset (rset B ρ2 i er ea sv nm ty hv) J bf K tk ts tl tv (updN su i (ρ 1)) (updR D i dd)) ea B0 ρ (s_cld (D i)) (l_txt tx n)) x_noX := by
  refine X_M hG okX6_readSetup rfl (L := [some (.ref (ρ 0)), none]) rfl (Nat.le_of_ble_eq_true rfl) (fun ad0 nb0 => ?_)
  refine X_ld rfl rfl rfl rfl ?_
  refine X_get f_X6_30 rfl (c_B (hρ.o 0 (by decide)) rs_r) rfl ?_
  refine X_ld rfl rfl rfl rfl ?_
  refine X_get f_X6_12 rfl (c_B (hρ.o 0 (by decide)) rs_r) rfl ?_
  refine X_heap (N' := cset (rset B ρ i 0 ea sv nm ty hv) J bf K tk ts tl tv su (updR D i (D i))) (congrArg (cset _ _ _ _ _ _ _ _ _) updR_self) ?_
  refine X_vcallv (r_D hi updR_eq) l_X6_X3_clear (d_clear hG d i hi (c := D i) (o := ρ 1)) rfl rfl rfl rfl (Nat.le_of_ble_eq_true rfl) (Nat.le_of_ble_eq_true rfl) (by omega) (by omega) (by omega) ?_
  have hsu : (updN su i (ρ 1)) i = ρ 1 := updN_eq
  generalize updN su i (ρ 1) = su1 at hsu ⊢
  have hd1 : s_cld (D i) 1 = nI 0 := s_cld_1
  have hdx : ∀ j, j < 5 → s_cld (D i) (10 + 13 * j + 9) = 0 := fun j hj => s_cld_x hj
  generalize s_cld (D i) = d0 at hd1 hdx ⊢
  refine X_ld rfl rfl rfl rfl ?_
  refine X_get f_X6_26 rfl (c_B (hρ.o 0 (by decide)) rs_r) rfl ?_
  refine X_vcallv c_T l_X6_X8_advance (p_advance hG d h3 h4 (by have := hsp.1.2; omega) (by omega)) rfl rfl rfl rfl (Nat.le_of_ble_eq_true rfl) (Nat.le_of_ble_eq_true rfl) (by omega) (by omega) (by omega) ?_
  have hA := z_at0 (tl := tl) hsp h3
  generalize y_adK K tk ts c 0 = K1 at hA ⊢
  generalize y_adl tl tv c 0 = tl1 at hA ⊢
  refine X_ld rfl rfl rfl rfl ?_
  refine X_ldcS (i := 13) hK (List.mem_of_getElem? (i := 13) rfl) (by decide) rfl ?_
  refine X_vcallP (c_B (hρ.o 0 (by decide)) rs_r) l_X6_X6_expectWord (p_expectWord hG hK hρ d hr hn8 hsp hA 13 (by decide) (by decide) (by decide) (by decide)) rfl rfl rfl rfl (Nat.le_of_ble_eq_true rfl) (Nat.le_of_ble_eq_true rfl) (by omega) (by omega) (by omega) (fun N1 r hq => ?_)
  by_cases hisw : l_isw tx n 0 (x_w 0) = true
  · rw [show y_ww tx n 13 0 = _ from if_pos hisw] at hq
    obtain ⟨K2, tl2, hat2, rfl, rfl⟩ := hq
    refine X_stk (st' := []) rfl ?_
    have htn : l_tk tx n 0 (x_w 13) ≤ n := (l_tk_le (Nat.zero_le n)).2
    refine X_ld rfl rfl rfl rfl ?_
    refine X_push (v := .int 59) rfl (by decide +kernel) ?_
    refine X_vcallP (c_B (hρ.o 0 (by decide)) rs_r) l_X6_X6_expectByte (p_expectByte hG hK hρ d hr hn8 hsp hat2 (s := 59) (by decide) (by decide) (by decide)) rfl rfl rfl rfl (Nat.le_of_ble_eq_true rfl) (Nat.le_of_ble_eq_true rfl) (by omega) (by omega) (by omega) (fun N1 r hq => ?_)
    by_cases h59 : l_see tx n (l_tk tx n 0 (x_w 13)) = 59
    · rw [show y_wb tx n (nI 59) (l_tk tx n 0 (x_w 13)) = _ from if_pos h59] at hq
      obtain ⟨K3, tl3, hat3, rfl, rfl⟩ := hq
      refine X_stk (st' := []) rfl ?_
      have hR0 : l_txt tx n = l_t0 tx n (l_sk tx n (l_tk tx n 0 (x_w 13)) + 1, s_pl) := (if_pos hisw).trans (l_bi_ok (if_pos h59))
      generalize l_sk tx n (l_tk tx n 0 (x_w 13)) + 1 = q1 at hat3 hR0
      generalize l_txt tx n = R at hR0 ⊢
      refine X_push (v := .int 0) rfl (by decide +kernel) ?_
      refine X_st rfl rfl rfl ?_
      refine X_loc (L' := [some (.ref (ρ 0)), some (.int (nI 0))]) ⟨rfl, rfl, trivial⟩ ?_
      refine w_rs32 hG hK hρ d hr hn8 hsp (dd := d0) (q9 := 0) hi hsu hd1 (by omega) (by omega) (by omega) (n + 1 - q1) q1 0 K3 s_pl sv ty nm tl3 (Nat.le_refl _) hat3 (s_pl_0 (by omega)) ⟨by omega, hsv, fun j hj => absurd hj (Nat.not_lt_zero _)⟩ (fun e a K4 sv4 ty4 dd4 nm4 tl4 w1 w2 => ?_) (fun q2 m K4 rd2 sv2 ty2 nm2 tl4 x4 w1 hat4 w3 g0 gcol gsv grd gidx => ?_)
      · rw [hR0.trans (l_bi_er w1)]
        exact ⟨w2, K4, tl4, sv4, nm4, ty4, hv, B, ρ, dd4, hST.1, hρ, hX, fun _ _ => rfl, rfl, rfl⟩
      · have hR1 : R = l_t1 tx n (q2, rd2) := hR0.trans (l_bi_ok w1)
        have hm5 := gcol.1
        have hr9 : ∀ j, j < 5 → rd2 (10 + 13 * j + 9) = 0 := fun j hj => (gidx j hj).trans (s_pl_0 (by omega))
        have hic : s_ic rd2 5 = 0 := s_ic_0 5 hr9
        refine X_push (v := .int 0) rfl (by decide +kernel) ?_
        refine X_st rfl rfl rfl ?_
        refine X_loc (L' := [some (.ref (ρ 0)), some (.int (nI (s_ic rd2 5)))]) ⟨rfl, by rw [hic]; rfl, trivial⟩ ?_
        refine w_rs61 hG hK hρ d hr hn8 hsp (d0 := d0) (q9 := 0) hi hsu hm5 (by omega) (by omega) hd1 (by omega) (n + 1 - q2) q2 K4 rd2 d0 tl4 (Nat.le_refl _) hat4 g0 gcol (fun j hj => ⟨(hdx j hj).trans (hr9 j hj).symm, Or.inl (hr9 j hj)⟩) (fun _ _ => rfl) (fun e a K5 dd5 tl5 v1 v2 => ?_) (fun q3 K5 rd3 dd3 tl5 x5 v1 hat5 v3 gidx3 grst3 grd3 gcol3 => ?_)
        · rw [hR1.trans (l_bi_er v1)]
          exact ⟨v2, K5, tl5, sv2, nm2, ty2, hv, B, ρ, dd5, hST.1, hρ, hX, fun _ _ => rfl, rfl, rfl⟩
        · have hR2 : R = l_t2 tx n (q3, rd3) := hR1.trans (l_bi_ok v1)
          refine X_push (v := .int 0) rfl (by decide +kernel) ?_
          refine X_st rfl rfl rfl ?_
          refine X_loc (L' := [some (.ref (ρ 0)), some (.int (nI 0))]) ⟨rfl, rfl, trivial⟩ ?_
          refine w_rs90 hG hK hρ d hr hn8 hsp (d0 := dd3) hi hsu hm5 (by omega) (by omega) (n + 1 - q3) q3 0 K5 rd3 dd3 tl5 (Nat.le_refl _) hat5 ⟨(grd3 1 (by omega)).trans ((grd 1 (by omega) (by omega)).trans (s_pl_0 (by omega))), by omega, (grst3 1 (by omega)).trans hd1⟩ ((grd3 0 (by omega)).trans g0) gcol3 (fun a ha => absurd ha (Nat.not_lt_zero _)) (fun _ _ _ => rfl) (fun e a K6 dd6 tl6 v1 v2 => ?_) (fun q4 l K6 rd4 dd4 tl6 u1 hat6 u3 gl gcel grst4 grd4 => ?_)
          · rw [hR2.trans (l_bi_er v1)]
            exact ⟨v2, K6, tl6, sv2, nm2, ty2, hv, B, ρ, dd6, hST.1, hρ, hX, fun _ _ => rfl, rfl, rfl⟩
          · have hR3 : R = l_t3 tx n (q4, rd4) := hR2.trans (l_bi_ok u1)
            have hq4 := hat6.1
            have hlow : ∀ j, j ≠ 0 → j ≠ 1 → j < 10 → rd4 j = s_pl j := fun j h0 h1 h10 => (grd4 j h1 (by omega)).trans ((grd3 j (by omega)).trans (grd j h0 (by omega)))
            have g04 : rd4 0 = nI m := (grd4 0 (by omega) (by omega)).trans ((grd3 0 (by omega)).trans g0)
            have hcol4 := y_col_c75 gcol3 (fun j h1 h2 => grd4 j (by omega) (by omega))
            refine X_push (v := .int 0) rfl (by decide +kernel) ?_
            refine X_st rfl rfl rfl ?_
            refine X_loc (L' := [some (.ref (ρ 0)), some (.int (nI 0))]) ⟨rfl, rfl, trivial⟩ ?_
            refine w_rs120 hG hK hM d hr hn8 hsp (B0 := B0) (dd := dd4) (q9 := l) hi hm5 gl.2.2 gl.2.1 (n + 1 - q4) q4 0 elS 0 _ _ K6 rd4 hv tl6 B ρ mS pS (Nat.le_refl _) (by omega) (by omega) hat6 hρ hX hsu ⟨hST.1, hST.2.1, hST.2.2.1, fun t ht => absurd ht (Nat.not_lt_zero _)⟩ ⟨(hlow 2 (by omega) (by omega) (by omega)).trans (s_pl_0 (by omega)), by omega⟩ g04 hcol4 ⟨(hlow 9 (by omega) (by omega) (by omega)).trans (s_pl_0 (by omega)), by omega⟩ (fun e a K7 hv7 dd7 tl7 B7 ρ7 v1 v2 v3 v4 v5 v6 => ?_) (fun q5 s elS5 cells5 slots5 K7 rd5 hv5 tl7 B5 ρ5 mS5 pS5 u1 hat7 gds gX gρ gST gs grd5 hc5 hs5 => ?_)
            · rw [hR3.trans (l_bi_er v1)]
              exact ⟨v2, K7, tl7, sv2, nm2, ty2, hv7, B7, ρ7, dd7, v3, v4, v5, v6, rfl, rfl⟩
            · have hR4 : R = l_t4 tx n (q5, rd5) := hR3.trans (l_bi_ok u1)
              refine w_rs148 hG hK gds d hr hn8 hsp hat7 (rd := rd5) (fun k h1 h2 => ?_) (m := m) (q9 := l) (dd := dd4) hi (hsu.trans (gρ 1 (by decide)).symm) gcol.2.1 hm5 gl.2.2 gl.2.1 hc5 hs5 (fun N rr hq => ?_)
              · exact (gsv k (by omega)).trans ((hs4 k h1 h2).trans ((hlow k (by omega) (by omega) (by omega)).symm.trans (grd5 k (by omega) (by omega) (by omega)).symm))
              · rw [hR4]
                cases hRR : l_t4 tx n (q5, rd5) with
                | inl e9 =>
                  obtain ⟨e9, a9⟩ := e9
                  rw [hRR] at hq
                  obtain ⟨he9, K8, tl8, sv8, dd8, rfl, rfl⟩ := hq
                  exact ⟨he9, K8, tl8, sv8, nm2, ty2, hv5, B5, ρ5, dd8, gST.1, gds, gX, gρ, rfl, rfl⟩
                | inr x9 =>
                  obtain ⟨q6, rd6⟩ := x9
                  rw [hRR] at hq
                  obtain ⟨K8, tl8, sv8, h80, h84, rfl, rfl⟩ := hq
                  have hin := l_t4_inv hRR
                  have h16 : ∀ j, 10 ≤ j → j < 275 → rd6 j = rd4 j := fun j h1 h2 => (hin j (by omega)).trans (grd5 j (by omega) (by omega) (by omega))
                  have hcol8 : y_col rd6 sv8 ty2 nm2 m := ⟨hm5, h80.trans gcol.2.1, (y_col_c75 hcol4 (fun j h1 h2 => h16 j h1 (by omega))).2.2⟩
                  refine ⟨K8, tl8, sv8, nm2, ty2, hv5, B5, ρ5, dd4, rd5, s, elS5, mS5, pS5, m, l, ⟨gds, gX, gρ⟩, gST, hin, ⟨(hin 0 (by omega)).trans ((grd5 0 (by omega) (by omega) (by omega)).trans g04), (hin 1 (by omega)).trans ((grd5 1 (by omega) (by omega) (by omega)).trans gl.1), (hin 2 (by omega)).trans gs.1, gl.2.1, gs.2⟩, hcol8, h84, gl.2.2, fun j hj => ?_, fun a ha b hb => ?_, fun k h1 h2 => ?_, rfl, rfl⟩
                  · have e1 : rd6 (10 + 13 * j + 9) = rd3 (10 + 13 * j + 9) := (h16 _ (by omega) (by omega)).trans (grd4 _ (by omega) (by omega))
                    rw [e1, grst4 _ (by omega) (by omega)]
                    exact gidx3 j hj
                  · exact (gcel a ha b hb).trans (h16 _ (by omega) (by have := gl.2.1; omega)).symm
                  · exact (grst4 k h1 (by omega)).trans (grst3 k (by omega))
    · rw [show y_wb tx n (nI 59) (l_tk tx n 0 (x_w 13)) = _ from if_neg h59] at hq
      obtain ⟨hx9, K3, tl3, hek, rfl, rfl⟩ := hq
      have hE : l_txt tx n = .inl (-2, l_sk tx n (l_tk tx n 0 (x_w 13))) := (if_pos hisw).trans (l_bi_er (if_neg h59))
      refine X_stk (st' := []) rfl ?_
      refine X_push (v := .int 0) rfl (by decide +kernel) ?_
      refine X_st rfl rfl rfl ?_
      exact w_rsE32 hG hK hρ d hx9 hek hi hsu hsv (by omega) hd1 (by omega) (by omega) (by omega) (fun dd2 => by rw [hE]; exact ⟨hx9, _, _, sv, nm, ty, hv, B, ρ, dd2, hST.1, hρ, hX, fun _ _ => rfl, rfl, rfl⟩)
  · rw [show y_ww tx n 13 0 = _ from if_neg hisw] at hq
    obtain ⟨hx9, K2, tl2, hek, rfl, rfl⟩ := hq
    have hE : l_txt tx n = .inl (-2, l_sk tx n 0) := if_neg hisw
    refine X_stk (st' := []) rfl ?_
    refine X_ld rfl rfl rfl rfl ?_
    refine X_push (v := .int 59) rfl (by decide +kernel) ?_
    refine X_vcallv (c_B (hρ.o 0 (by decide)) rs_r) l_X6_X6_expectByte (p_expectByteX hG hK hρ d hx9 hek (s := 59) (by decide)) rfl rfl rfl rfl (Nat.le_of_ble_eq_true rfl) (Nat.le_of_ble_eq_true rfl) (by omega) (by omega) (by omega) ?_
    refine X_push (v := .int 0) rfl (by decide +kernel) ?_
    refine X_st rfl rfl rfl ?_
    exact w_rsE32 hG hK hρ d hx9 hek hi hsu hsv (by omega) hd1 (by omega) (by omega) (by omega) (fun dd2 => by rw [hE]; exact ⟨hx9, _, _, sv, nm, ty, hv, B, ρ, dd2, hST.1, hρ, hX, fun _ _ => rfl, rfl, rfl⟩)

