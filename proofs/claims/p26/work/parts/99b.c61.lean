/-! ===== the class's reader: a line of a column ===== -/
theorem s_nmi_at {rd tx : Nat → Int32} {a e b k : Nat} : ∀ n, k < n → s_nmi rd tx a e b n (b + k) = s_ltr tx a e k
  | 0, h => absurd h (Nat.not_lt_zero _)
  | n + 1, h => by
    show upd (s_nmi rd tx a e b n) (b + n) (s_ltr tx a e n) (b + k) = _
    by_cases e1 : k = n
    · rw [e1, updI_eq]
    · rw [updI_ne (by omega)]
      exact s_nmi_at n (by omega)
/-- the name that stands at b now -/
theorem y_nm_new {rd tx rd1 : Nat → Int32} {n p b : Nat} (hp : p ≤ n) (hnm : l_nm tx n p) (hrd : ∀ k, k < 8 → rd1 (b + k) = s_nmi rd tx (l_sk tx n p) (l_we tx n p) b 8 (b + k)) : y_nmok rd1 b (l_we tx n p - l_sk tx n p) ∧ s_nmn rd1 b 8 = s_nmv tx (l_sk tx n p) (l_we tx n p - l_sk tx n p) := by
  have hL : 1 ≤ l_we tx n p - l_sk tx n p ∧ l_we tx n p - l_sk tx n p ≤ 8 := by have := hnm.1; have := hnm.2.1; omega
  have hlet := z_wl (tx := tx) hp
  have hv : ∀ k, k < 8 → rd1 (b + k) = s_ltr tx (l_sk tx n p) (l_we tx n p) k := fun k hk => (hrd k hk).trans (s_nmi_at 8 hk)
  have h1 : ∀ k, k < l_we tx n p - l_sk tx n p → rd1 (b + k) = tx (l_sk tx n p + k) := fun k hk => (hv k (by omega)).trans (if_pos (by omega))
  have hok : y_nmok rd1 b (l_we tx n p - l_sk tx n p) := ⟨hL, fun k hk => by rw [h1 k hk]; exact hlet k hk, fun k a c => (hv k c).trans (if_neg (by omega))⟩
  exact ⟨hok, (y_nmn hok).trans ((y_nmv_inj hL.2 hL.2 hok.2.1 hlet).mpr ⟨rfl, h1⟩)⟩
theorem y_col_new {rd tx sv ty : Nat → Int32} {nm : Nat → Int64} {m n p : Nat} {t : Int32} (hcol : y_col rd sv ty nm m) (hp : p ≤ n) (hnm : l_nm tx n p) (hm : m < 5) (ht : t = 0 ∨ t = 1 ∨ t = 2) : y_col (upd (upd (s_nmi rd tx (l_sk tx n p) (l_we tx n p) (10 + 13 * m) 8) (10 + 13 * m + 8) t) 0 (nI (m + 1))) (upd sv 0 (nI (m + 1))) (upd ty m t) (updL nm m (s_nmv tx (l_sk tx n p) (l_we tx n p - l_sk tx n p))) (m + 1) := by
  refine ⟨by omega, updI_eq, fun j hj => ?_⟩
  by_cases e : j = m
  · subst e
    obtain ⟨h1, h2⟩ := y_nm_new (rd1 := upd (upd (s_nmi rd tx (l_sk tx n p) (l_we tx n p) (10 + 13 * j) 8) (10 + 13 * j + 8) t) 0 (nI (j + 1))) (b := 10 + 13 * j) (rd := rd) hp hnm (fun k hk => by rw [updI_ne (by omega), updI_ne (by omega)])
    have h8 : s_col (upd (upd (s_nmi rd tx (l_sk tx n p) (l_we tx n p) (10 + 13 * j) 8) (10 + 13 * j + 8) t) 0 (nI (j + 1))) j 8 = t := by unfold s_col; rw [updI_ne (by omega), updI_eq]
    exact ⟨(if_pos rfl).trans h2.symm, updI_eq.trans h8.symm, ⟨_, h1⟩, by rw [h8]; exact ht⟩
  · have hc : ∀ k, k < 9 → (upd (upd (s_nmi rd tx (l_sk tx n p) (l_we tx n p) (10 + 13 * m) 8) (10 + 13 * m + 8) t) 0 (nI (m + 1))) (10 + 13 * j + k) = rd (10 + 13 * j + k) := fun k hk => by
      rw [updI_ne (by omega), updI_ne (by omega)]
      exact s_nmi_ne 8 (by omega)
    obtain ⟨a1, a2, ⟨L, a3, a4, a5⟩, a6⟩ := hcol.2.2 j (by omega)
    have hl := a3.2
    refine ⟨(if_neg e).trans (a1.trans (s_nmn_cong 8 (fun k hk => (hc k (by omega)).symm))), (updI_ne e).trans (a2.trans (hc 8 (by decide)).symm), ⟨L, a3, fun k hk => by rw [hc k (by omega)]; exact a4 k hk, fun k x y => by rw [hc k (by omega)]; exact a5 k x y⟩, ?_⟩
    unfold s_col
    rw [hc 8 (by decide)]
    exact a6
def x_QC (tx bf : Nat → Int32) (n c : Nat) (FC : Int32 → Int32 → (Nat → Int32) → Int64 → (Nat → Int32) → (Nat → Int64) → (Nat → Int32) → XH) (ea : Int32) (sv : Nat → Int32) (R : LR) : XH → Option Value → Prop := fun N r => match R with
  | .inl (e, a) => ¬ e = 0 ∧ ∃ K tl sv' nm' ty', z_er K ∧ (∃ m', m' ≤ 5 ∧ sv' 0 = nI m') ∧ N = FC e (nI a) K tl sv' nm' ty' ∧ r = none
  | .inr (q, rd1) => ∃ K tl sv' nm' ty', z_at tx bf n c K tl q ∧ (∃ m', rd1 0 = nI m' ∧ y_col rd1 sv' ty' nm' m') ∧ (∀ k, 1 ≤ k → sv' k = sv k) ∧ N = FC 0 ea K tl sv' nm' ty' ∧ r = none
theorem p_readColumn {G : XE} (hG : x_Kn G) (hK : x_KS G) {B : XH} {J bf K tk ts : Nat → Int32} {tl : Int64} {tv : Nat → Int64} {su : Nat → Nat} {D : Nat → Nat → Int32} {ρ : Nat → Nat} (hρ : y_ds ρ B) {i : Nat} {ea : Int32} {sv ty hv : Nat → Int32} {nm : Nat → Int64} (d : Nat) {tx : Nat → Int32} {n c p : Nat} (hr : s_rtx tx bf n) (hn8 : n ≤ 800) (hsp : z_split bf tx n tk ts tv c) (hat : z_at tx bf n c K tl p) {rd : Nat → Int32} {m : Nat} (hcol : y_col rd sv ty nm m) (hisw : l_isw tx n p (x_w 1) = true) : x_M G mX6_readColumn (d + 7) 0 0 [.ref (ρ 0)] (cset (rset B ρ i 0 ea sv nm ty hv) J bf K tk ts tl tv su D) (x_QC tx bf n c (fun er ea K tl sv nm ty => cset (rset B ρ i er ea sv nm ty hv) J bf K tk ts tl tv su D) ea sv (l_colLine tx n m (l_sk tx n p) (l_tk tx n p (x_w 1)) rd)) x_noX := by
  refine X_M hG okX6_readColumn rfl (L := [some (.ref (ρ 0)), none, none, none, none]) rfl (Nat.le_of_ble_eq_true rfl) (fun ad0 nb0 => ?_)
  obtain ⟨hp, j, hj, hz, h3, h4, h5, h6, htl⟩ := id hat
  have hsv := hcol.2.1
  have hm5 := hcol.1
  have hwe : l_we tx n p = l_sk tx n p + (x_w 1).length := l_isw_we hisw
  have hwl := l_we_le (tx := tx) hp
  have hq : l_sk tx n p < n := by have := ((z_isw hp 1).mp hisw).2.1; omega
  have hp1n : l_tk tx n p (x_w 1) ≤ n := (l_tk_le hp).2
  generalize hR : l_colLine tx n m (l_sk tx n p) (l_tk tx n p (x_w 1)) rd = R
  unfold l_colLine at hR
  refine X_ld rfl rfl rfl rfl ?_
  refine X_get f_X6_12 rfl (c_B (hρ.o 0 (by decide)) rs_r) rfl ?_
  refine X_get f_X6_116 rfl (c_B (hρ.o 1 (by decide)) (rs_st hρ)) (v := .int (nI m)) (congrArg Value.int hsv) ?_
  refine X_push (v := .int 5) rfl (by decide +kernel) ?_
  refine X_icmp_lt rfl (fun c8 => ?_) (fun c8 => ?_)
  · have hm : m < 5 := (n_lt rfl (show (5 : Int32) = nI 5 from rfl) (by omega) (by omega)).mp c8
    rw [if_neg (show ¬ m = 5 by omega)] at hR
    refine X_ld rfl rfl rfl rfl ?_
    refine X_get f_X6_26 rfl (c_B (hρ.o 0 (by decide)) rs_r) rfl ?_
    refine X_vcallv c_T l_X6_X8_advance (p_advance hG (d + 2) h3 h4 (by have := hsp.1.2; omega) (by have := hsp.1.2; omega)) rfl rfl rfl rfl (Nat.le_of_ble_eq_true rfl) (Nat.le_of_ble_eq_true rfl) (by omega) (by omega) (by omega) ?_
    have hA := z_adv (tk := tk) (ts := ts) (tv := tv) (tl := tl) hsp hp hj hz h3 hq
    rw [z_wte hp 1 hisw] at hA
    clear htl
    generalize y_adK K tk ts c (j + 1) = K1 at hA ⊢
    generalize y_adl tl tv c (j + 1) = tl1 at hA ⊢
    generalize l_tk tx n p (x_w 1) = p1 at hA hR hp1n
    obtain ⟨-, j1, hj1, hz1, k3, k4, k5, k6, ktl⟩ := id hA
    refine X_ld rfl rfl rfl rfl ?_
    refine X_get f_X6_26 rfl (c_B (hρ.o 0 (by decide)) rs_r) rfl ?_
    refine X_get f_X6_88 rfl c_T (v := .int (nI (l_sk tx n p1))) (congrArg Value.int k6) ?_
    refine X_st rfl rfl rfl ?_
    refine X_ld rfl rfl rfl rfl ?_
    refine X_vcallP (c_B (hρ.o 0 (by decide)) rs_r) l_X6_X6_takeName (p_takeName hG hK hρ (d + 1) hr hn8 hsp hA) rfl rfl rfl rfl (Nat.le_of_ble_eq_true rfl) (Nat.le_of_ble_eq_true rfl) (by omega) (by omega) (by omega) (fun N1 r hq9 => ?_)
    by_cases hnm : l_nm tx n p1
    · rw [show y_tn tx n p1 = _ from if_pos hnm] at hq9
      obtain ⟨K2, tl2, hat2, rfl, rfl⟩ := hq9
      refine X_stk (st' := [.long (s_nmv tx (l_sk tx n p1) (l_we tx n p1 - l_sk tx n p1))]) rfl ?_
      refine X_stl rfl rfl rfl ?_
      refine X_ld rfl rfl rfl rfl ?_
      refine X_get f_X6_12 rfl (c_B (hρ.o 0 (by decide)) rs_r) rfl ?_
      refine X_ld rfl rfl rfl rfl ?_
      refine X_vcall (c_B (hρ.o 1 (by decide)) (rs_st hρ)) l_X6_X5_findColumn (p_findColumn hG (d + 2) (hρ.o 1 (by decide)) (rs_st hρ) (congrArg Value.int hsv) rfl (hρ.o 2 (by decide)) (rs_a1 hρ) hcol.1) rfl rfl rfl rfl (Nat.le_of_ble_eq_true rfl) (Nat.le_of_ble_eq_true rfl) (by omega) (by omega) (by omega) ?_
      have hsk := y_sk hcol hp1n hnm
      have hwp := l_we_le (tx := tx) hp1n
      rcases s_first_ok (P := fun j => decide (nm j = s_nmv tx (l_sk tx n p1) (l_we tx n p1 - l_sk tx n p1))) m (by omega) with ⟨g1, -⟩ | ⟨s, g1, g2, -⟩
      · refine X_if_lt rfl (fun c52 => ?_) (fun c52 => absurd (by rw [g1]; decide) c52)
        have hF : l_fresh rd tx n p1 10 13 m = .inr (l_we tx n p1, s_nmi rd tx (l_sk tx n p1) (l_we tx n p1) (10 + 13 * m) 8) := by unfold l_fresh; rw [if_pos hnm, hsk, if_pos g1]
        rw [l_bi_ok hF] at hR
        refine X_ld rfl rfl rfl rfl ?_
        refine X_vcallP (c_B (hρ.o 0 (by decide)) rs_r) l_X6_X6_takeType (p_takeType hG hK hρ d hr hn8 hsp hat2) rfl rfl rfl rfl (Nat.le_of_ble_eq_true rfl) (Nat.le_of_ble_eq_true rfl) (by omega) (by omega) (by omega) (fun N1 r hq9 => ?_)
        cases hT : l_type tx n (l_we tx n p1) with
        | inl e9 =>
          obtain ⟨e9, a9⟩ := e9
          rw [hT] at hq9
          obtain ⟨he9, K3, tl3, hek, rfl, rfl⟩ := hq9
          have hE : R = .inl (e9, a9) := hR.symm.trans (l_bi_er hT)
          refine X_stk (st' := [.int (-1)]) rfl ?_
          refine X_st rfl rfl rfl ?_
          refine w_col68X hG hK hρ d he9 hek hsv hm5 (fun N rr hq => by obtain ⟨sv2, nm2, ty2, hm2, rfl, rfl⟩ := hq; rw [hE]; exact ⟨he9, _, _, sv2, nm2, ty2, hek, hm2, rfl, rfl⟩)
        | inr x9 =>
          obtain ⟨q3, t⟩ := x9
          rw [hT] at hq9
          obtain ⟨K3, tl3, hat3, rfl, rfl⟩ := hq9
          obtain ⟨hq3, ht⟩ := l_type_ok hT hwp.2
          rw [l_bi_ok hT] at hR
          change l_want tx n 59 q3 (upd (upd (s_nmi rd tx (l_sk tx n p1) (l_we tx n p1) (10 + 13 * m) 8) (10 + 13 * m + 8) t) 0 (nI (m + 1))) = R at hR
          unfold l_want at hR
          refine X_stk (st' := [.int t]) rfl ?_
          refine X_st rfl rfl rfl ?_
          refine X_ld rfl rfl rfl rfl ?_
          refine X_push (v := .int 59) rfl (by decide +kernel) ?_
          refine X_vcallP (c_B (hρ.o 0 (by decide)) rs_r) l_X6_X6_expectByte (p_expectByte hG hK hρ d hr hn8 hsp hat3 (s := 59) (by decide) (by decide) (by decide)) rfl rfl rfl rfl (Nat.le_of_ble_eq_true rfl) (Nat.le_of_ble_eq_true rfl) (by omega) (by omega) (by omega) (fun N1 r hq => ?_)
          by_cases h59 : l_see tx n q3 = 59
          · rw [show y_wb tx n (nI 59) q3 = _ from if_pos h59] at hq
            obtain ⟨K4, tl4, hat4, rfl, rfl⟩ := hq
            rw [if_pos h59] at hR
            refine X_stk (st' := []) rfl ?_
            refine X_ld rfl rfl rfl rfl ?_
            refine X_get f_X6_12 rfl (c_B (hρ.o 0 (by decide)) rs_r) rfl ?_
            refine X_ld rfl rfl rfl rfl ?_
            refine X_ld rfl rfl rfl rfl ?_
            refine X_vcallv (c_B (hρ.o 1 (by decide)) (rs_st hρ)) l_X6_X5_addColumn (p_addColumn hG hK hρ d hsv hm) rfl rfl rfl rfl (Nat.le_of_ble_eq_true rfl) (Nat.le_of_ble_eq_true rfl) (by omega) (by omega) (by omega) ?_
            rw [← hR]
            exact X_vret rfl rfl ⟨K4, tl4, _, _, _, hat4, ⟨m + 1, updI_eq, y_col_new hcol hp1n hnm hm ht⟩, fun k hk => updI_ne (by omega), rfl, rfl⟩ (Nat.le_of_ble_eq_true rfl) (Nat.le_of_ble_eq_true rfl)
          · rw [show y_wb tx n (nI 59) q3 = _ from if_neg h59] at hq
            obtain ⟨hx9, K4, tl4, hek, rfl, rfl⟩ := hq
            rw [if_neg h59] at hR
            have hE : R = .inl (-2, l_sk tx n q3) := hR.symm
            refine X_stk (st' := []) rfl ?_
            exact w_col74 hG hK hρ d hsv hm5 (fun N rr hq => by obtain ⟨sv2, nm2, ty2, hm2, rfl, rfl⟩ := hq; rw [hE]; exact ⟨hx9, _, _, sv2, nm2, ty2, hek, hm2, rfl, rfl⟩)
      · refine X_if_lt rfl (fun c52 => absurd c52 (by rw [g2]; exact Int32.not_lt.mpr (nI_ge0 (by omega)))) (fun c52 => ?_)
        have hE : R = .inl (-5, l_sk tx n p1) := hR.symm.trans (l_bi_er (by unfold l_fresh; rw [if_pos hnm, hsk, if_neg (fun q => nI_ne_neg (show s < 2147483648 by omega) (g2.symm.trans q))]))
        obtain ⟨-, j2, hj2, hz2, m3, m4, m5, m6, mtl⟩ := id hat2
        have hek : z_er (upd (upd K2 3 0) 5 256) := z_er_mk m4 (by have := hsp.1.2; omega)
        refine X_ld rfl rfl rfl rfl ?_
        refine X_push (v := .int (-5)) rfl (by decide +kernel) ?_
        refine X_ld rfl rfl rfl rfl ?_
        refine X_vcallv (c_B (hρ.o 0 (by decide)) rs_r) l_X6_X6_fail (p_fail hG hK hρ (d + 2) rfl (x := (-5)) (y := nI (l_sk tx n p1))) rfl rfl rfl rfl (Nat.le_of_ble_eq_true rfl) (Nat.le_of_ble_eq_true rfl) (by omega) (by omega) (by omega) ?_
        exact w_col62X hG hK hρ d (by decide) hek hsv hm5 (fun N rr hq => by obtain ⟨sv2, nm2, ty2, hm2, rfl, rfl⟩ := hq; rw [hE]; exact ⟨(by decide), _, _, sv2, nm2, ty2, hek, hm2, rfl, rfl⟩)
    · rw [show y_tn tx n p1 = _ from if_neg hnm] at hq9
      obtain ⟨hx9, K2, tl2, hek, rfl, rfl⟩ := hq9
      have hE : R = .inl (-2, l_sk tx n p1) := hR.symm.trans (l_bi_er (by unfold l_fresh; rw [if_neg hnm]))
      refine X_stk (st' := [.long 0]) rfl ?_
      refine X_stl rfl rfl rfl ?_
      refine X_ld rfl rfl rfl rfl ?_
      refine X_get f_X6_12 rfl (c_B (hρ.o 0 (by decide)) rs_r) rfl ?_
      refine X_ld rfl rfl rfl rfl ?_
      refine X_vcall (c_B (hρ.o 1 (by decide)) (rs_st hρ)) l_X6_X5_findColumn (p_findColumn hG (d + 2) (hρ.o 1 (by decide)) (rs_st hρ) (congrArg Value.int hsv) rfl (hρ.o 2 (by decide)) (rs_a1 hρ) hcol.1) rfl rfl rfl rfl (Nat.le_of_ble_eq_true rfl) (Nat.le_of_ble_eq_true rfl) (by omega) (by omega) (by omega) ?_
      refine X_stk (st' := [.int (-1)]) (congrArg (fun q => [Value.int q]) (s_first_no m (y_col0 hcol))) ?_
      refine X_if_lt rfl (fun c52 => ?_) (fun c52 => absurd (by decide) c52)
      exact w_col62X hG hK hρ d hx9 hek hsv hm5 (fun N rr hq => by obtain ⟨sv2, nm2, ty2, hm2, rfl, rfl⟩ := hq; rw [hE]; exact ⟨hx9, _, _, sv2, nm2, ty2, hek, hm2, rfl, rfl⟩)
  · obtain rfl : m = 5 := by
      have : ¬ m < 5 := fun q => c8 ((n_lt rfl (show (5 : Int32) = nI 5 from rfl) (by omega) (by omega)).mpr q)
      omega
    rw [if_pos rfl] at hR
    have hE : R = .inl (-7, l_sk tx n p) := hR.symm
    refine X_ld rfl rfl rfl rfl ?_
    refine X_push (v := .int (-7)) rfl (by decide +kernel) ?_
    refine X_ld rfl rfl rfl rfl ?_
    refine X_get f_X6_26 rfl (c_B (hρ.o 0 (by decide)) rs_r) rfl ?_
    refine X_get f_X6_88 rfl c_T (v := .int (nI (l_sk tx n p))) (congrArg Value.int h6) ?_
    refine X_vcallv (c_B (hρ.o 0 (by decide)) rs_r) l_X6_X6_fail (p_fail hG hK hρ (d + 2) rfl (x := (-7)) (y := nI (l_sk tx n p))) rfl rfl rfl rfl (Nat.le_of_ble_eq_true rfl) (Nat.le_of_ble_eq_true rfl) (by omega) (by omega) (by omega) ?_
    refine X_ld rfl rfl rfl rfl ?_
    refine X_get f_X6_26 rfl (c_B (hρ.o 0 (by decide)) rs_r) rfl ?_
    refine X_vcallv c_T l_X6_X8_advance (p_advance hG (d + 2) (c := 0) (K := (upd (upd K 3 0) 5 256)) (by rw [updI_ne (by decide), updI_eq]; rfl) ((updI_ne (by decide)).trans ((updI_ne (by decide)).trans h4)) (by omega) (by have := hsp.1.2; omega)) rfl rfl rfl rfl (Nat.le_of_ble_eq_true rfl) (Nat.le_of_ble_eq_true rfl) (by omega) (by omega) (by omega) ?_
    refine X_heap (N' := cset (rset B ρ i (-7) (nI (l_sk tx n p)) sv nm ty hv) J bf (upd (upd K 3 0) 5 256) tk ts tl tv su D) (by rw [(z_adX (K := (upd (upd K 3 0) 5 256)) (tk := tk) (ts := ts) (tv := tv) (tl := tl) updI_eq).1, (z_adX (K := (upd (upd K 3 0) 5 256)) (tk := tk) (ts := ts) (tv := tv) (tl := tl) updI_eq).2]) ?_
    have hek : z_er (upd (upd K 3 0) 5 256) := (z_er_mk h4 (by have := hsp.1.2; omega))
    generalize upd (upd K 3 0) 5 256 = K1 at hek ⊢
    refine X_ld rfl rfl rfl rfl ?_
    refine X_get f_X6_26 rfl (c_B (hρ.o 0 (by decide)) rs_r) rfl ?_
    refine X_get f_X6_88 rfl c_T rfl ?_
    refine X_st rfl rfl rfl ?_
    refine X_ld rfl rfl rfl rfl ?_
    refine X_vcall (c_B (hρ.o 0 (by decide)) rs_r) l_X6_X6_takeName (p_takeNameX hG hK hρ (d + 1) (by decide) hek) rfl rfl rfl rfl (Nat.le_of_ble_eq_true rfl) (Nat.le_of_ble_eq_true rfl) (by omega) (by omega) (by omega) ?_
    refine X_stl rfl rfl rfl ?_
    refine X_ld rfl rfl rfl rfl ?_
    refine X_get f_X6_12 rfl (c_B (hρ.o 0 (by decide)) rs_r) rfl ?_
    refine X_ld rfl rfl rfl rfl ?_
    refine X_vcall (c_B (hρ.o 1 (by decide)) (rs_st hρ)) l_X6_X5_findColumn (p_findColumn hG (d + 2) (hρ.o 1 (by decide)) (rs_st hρ) (congrArg Value.int hsv) rfl (hρ.o 2 (by decide)) (rs_a1 hρ) hcol.1) rfl rfl rfl rfl (Nat.le_of_ble_eq_true rfl) (Nat.le_of_ble_eq_true rfl) (by omega) (by omega) (by omega) ?_
    refine X_stk (st' := [.int (-1)]) (congrArg (fun q => [Value.int q]) (s_first_no 5 (y_col0 hcol))) ?_
    refine X_if_lt rfl (fun c52 => ?_) (fun c52 => absurd (by decide) c52)
    exact w_col62X hG hK hρ d (by decide) hek hsv (by omega) (fun N rr hq => by obtain ⟨sv2, nm2, ty2, hm2, rfl, rfl⟩ := hq; rw [hE]; exact ⟨(by decide), _, _, sv2, nm2, ty2, hek, hm2, rfl, rfl⟩)

