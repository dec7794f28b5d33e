/-! ===== the class's reader: all indexes, all columns ===== -/
theorem y_col_g {rd rd' sv ty : Nat → Int32} {nm : Nat → Int64} {m : Nat} (h : y_col rd sv ty nm m) (hc : ∀ j, j < m → ∀ k, k < 9 → rd' (10 + 13 * j + k) = rd (10 + 13 * j + k)) : y_col rd' sv ty nm m := by
  obtain ⟨h1, h2, h3⟩ := h
  refine ⟨h1, h2, fun j hj => ?_⟩
  obtain ⟨a1, a2, ⟨L, a3, a4, a5⟩, a6⟩ := h3 j hj
  have hl := a3.2
  refine ⟨a1.trans (s_nmn_cong 8 (fun k hk => (hc j hj k (by omega)).symm)), a2.trans (hc j hj 8 (by decide)).symm, ⟨L, a3, fun k hk => by rw [hc j hj k (by omega)]; exact a4 k hk, fun k h1 h2 => by rw [hc j hj k (by omega)]; exact a5 k h1 h2⟩, ?_⟩
  unfold s_col
  rw [hc j hj 8 (by decide)]
  exact a6
/-- how many of the first columns are indexed -/
def s_ic (rd : Nat → Int32) : Nat → Nat
  | 0 => 0
  | j + 1 => s_ic rd j + (if rd (10 + 13 * j + 9) = 1 then 1 else 0)
theorem s_ic_le {rd : Nat → Int32} : ∀ n, s_ic rd n ≤ n
  | 0 => Nat.le_refl _
  | n + 1 => by
    have := s_ic_le (rd := rd) n
    show s_ic rd n + (if rd (10 + 13 * n + 9) = 1 then 1 else 0) ≤ n + 1
    by_cases e : rd (10 + 13 * n + 9) = 1
    · rw [if_pos e]; omega
    · rw [if_neg e]; omega
theorem s_ic_o {rd : Nat → Int32} {j : Nat} : ∀ n, n ≤ j → s_ic (upd rd (10 + 13 * j + 9) 1) n = s_ic rd n
  | 0, _ => rfl
  | n + 1, h => by
    show s_ic (upd rd (10 + 13 * j + 9) 1) n + (if upd rd (10 + 13 * j + 9) 1 (10 + 13 * n + 9) = 1 then 1 else 0) = s_ic rd n + (if rd (10 + 13 * n + 9) = 1 then 1 else 0)
    rw [s_ic_o n (by omega), updI_ne (by omega)]
theorem s_ic_upd {rd : Nat → Int32} {j : Nat} (hj : ¬ rd (10 + 13 * j + 9) = 1) : ∀ n, j < n → s_ic (upd rd (10 + 13 * j + 9) 1) n = s_ic rd n + 1
  | 0, h => absurd h (Nat.not_lt_zero _)
  | n + 1, h => by
    show s_ic (upd rd (10 + 13 * j + 9) 1) n + (if upd rd (10 + 13 * j + 9) 1 (10 + 13 * n + 9) = 1 then 1 else 0) = s_ic rd n + (if rd (10 + 13 * n + 9) = 1 then 1 else 0) + 1
    by_cases e : j = n
    · rw [← e, s_ic_o j (Nat.le_refl _), updI_eq, if_pos rfl, if_neg hj]
    · rw [s_ic_upd hj n (by omega), updI_ne (by omega)]
      omega
theorem l_idx_inv {tx rd rd1 : Nat → Int32} {n m p q : Nat} (hm : m ≤ 5) (hp : p ≤ n) (h : l_idxLine tx n m p rd = .inr (q, rd1)) : ∃ j, j < m ∧ ¬ rd (10 + 13 * j + 9) = 1 ∧ rd1 = upd rd (10 + 13 * j + 9) 1 ∧ p < q ∧ q ≤ n := by
  unfold l_idxLine at h
  obtain ⟨x, h1, h2⟩ := l_bi_inr h
  obtain ⟨q0, v0⟩ := x
  obtain ⟨g1, j, hj, rfl⟩ := l_known_ok h1 hp (by omega)
  have hsl := l_sk_le (tx := tx) hp
  have hnj : n_ (nI j) = j := n_nI (by omega)
  change (if rd (10 + 13 * n_ (nI j) + 9) = 1 then .inl (-5, l_sk tx n p) else l_want tx n 59 q0 (upd rd (10 + 13 * n_ (nI j) + 9) 1)) = .inr (q, rd1) at h2
  rw [hnj] at h2
  by_cases e : rd (10 + 13 * j + 9) = 1
  · rw [if_pos e] at h2; cases h2
  · rw [if_neg e] at h2
    obtain ⟨w1, w2⟩ := l_want_ok h2 (by decide) g1.2
    exact ⟨j, hj, e, w2, by omega, w1.2⟩
theorem l_col_inv {tx rd rd1 : Nat → Int32} {n m a p q : Nat} (hm : m ≤ 5) (hp : p ≤ n) (h : l_colLine tx n m a p rd = .inr (q, rd1)) : m < 5 ∧ rd1 0 = nI (m + 1) ∧ (∀ j, j ≠ 0 → (j < 10 + 13 * m ∨ 10 + 13 * m + 9 ≤ j) → rd1 j = rd j) ∧ p < q ∧ q ≤ n := by
  unfold l_colLine at h
  by_cases e : m = 5
  · rw [if_pos e] at h; cases h
  · rw [if_neg e] at h
    obtain ⟨x, h1, h2⟩ := l_bi_inr h
    obtain ⟨y, h3, h4⟩ := l_bi_inr h2
    obtain ⟨g1, g2⟩ := l_fresh_ok h1 hp
    have hsl := l_sk_le (tx := tx) hp
    obtain ⟨v1, -⟩ := l_type_ok (y := y.1) (ty := y.2) h3 g1.2
    obtain ⟨w1, w2⟩ := l_want_ok h4 (by decide) v1.2
    rw [w2]
    exact ⟨by omega, updI_eq, fun j h1 h2 => (updI_ne h1).trans ((updI_ne (by omega)).trans (g2 j (by omega))), by omega, w1.2⟩
theorem w_rs61 {G : XE} (hG : x_Kn G) (hK : x_KS G) {B : XH} {J bf tk ts : Nat → Int32} {tv : Nat → Int64} {su : Nat → Nat} {D : Nat → Nat → Int32} {ρ : Nat → Nat} (hρ : y_ds ρ B) {i : Nat} {ea : Int32} {sv ty hv : Nat → Int32} {nm : Nat → Int64} (d : Nat) {tx : Nat → Int32} {n c : Nat} (hr : s_rtx tx bf n) (hn8 : n ≤ 800) (hsp : z_split bf tx n tk ts tv c) {m : Nat} {d0 : Nat → Int32} (hi : i < 10) (hsu : su i = ρ 1) (hm5 : m ≤ 5) {mc ms nb0 cells slots : Nat} {ad0 : Nat → Nat} {Qn : XH → Option Value → Prop} (hc : cells ≤ mc) (hs : slots ≤ ms) {q9 : Nat} (hq9 : d0 1 = nI q9) (hq40 : q9 ≤ 40) : ∀ (f : Nat) (p : Nat) (K rd dd : Nat → Int32) (tl : Int64), n + 1 - p ≤ f → z_at tx bf n c K tl p → rd 0 = nI m → y_col rd sv ty nm m → (∀ j, j < 5 → dd (10 + 13 * j + 9) = rd (10 + 13 * j + 9) ∧ (rd (10 + 13 * j + 9) = 0 ∨ rd (10 + 13 * j + 9) = 1)) → (∀ k, (k < 10 ∨ 75 ≤ k) → dd k = d0 k) → (∀ (e : Int32) (a : Nat) (K2 dd2 : Nat → Int32) (tl2 : Int64), l_rep tx n 8 (g_idx tx n) f p rd = .inl (e, a) → ¬ e = 0 → Qn (cset (rset B ρ i e (nI a) sv nm ty hv) J bf K2 tk ts tl2 tv su (updR D i dd2)) none) → (∀ (q : Nat) (K2 rd2 dd2 : Nat → Int32) (tl2 : Int64) (x2 : Int32), l_rep tx n 8 (g_idx tx n) f p rd = .inr (q, rd2) → z_at tx bf n c K2 tl2 q → p ≤ q → (∀ j, j < 5 → dd2 (10 + 13 * j + 9) = rd2 (10 + 13 * j + 9) ∧ (rd2 (10 + 13 * j + 9) = 0 ∨ rd2 (10 + 13 * j + 9) = 1)) → (∀ k, (k < 10 ∨ 75 ≤ k) → dd2 k = d0 k) → (∀ k, (k < 10 ∨ 75 ≤ k) → rd2 k = rd k) → y_col rd2 sv ty nm m → x_W G mX6_readSetup (x_Z G (d + 30) mc ms ad0 nb0 Qn x_noX) (cset (rset B ρ i 0 ea sv nm ty hv) J bf K2 tk ts tl2 tv su (updR D i dd2)) cells slots 88 [some (.ref (ρ 0)), some (.int x2)] []) → x_W G mX6_readSetup (x_Z G (d + 30) mc ms ad0 nb0 Qn x_noX) (cset (rset B ρ i 0 ea sv nm ty hv) J bf K tk ts tl tv su (updR D i dd)) cells slots 61 [some (.ref (ρ 0)), some (.int (nI (s_ic rd 5)))] [] := by
  intro f
  induction f with
  | zero =>
    intro p K rd dd tl hf hat h0 hcol hdd hrst kE kS
    have := hat.1
    omega
  | succ f ih =>
    intro p K rd dd tl hf hat h0 hcol hdd hrst kE kS
    obtain ⟨hp, j0, hj0, hz, h3, h4, h5, h6, htl⟩ := id hat
    have hsl := l_sk_le (tx := tx) hp
    have hic := s_ic_le (rd := rd) 5
    refine X_ld rfl rfl rfl rfl ?_
    refine X_push (v := .int 5) rfl (by decide +kernel) ?_
    refine X_icmp_gt rfl (fun c63 => absurd ((n_lt (show (5 : Int32) = nI 5 from rfl) rfl (by omega) (by omega)).mp c63) (by omega)) (fun c63 => ?_)
    refine X_ld rfl rfl rfl rfl ?_
    refine X_get f_X6_26 rfl (c_B (hρ.o 0 (by decide)) rs_r) rfl ?_
    refine X_ldcS (i := 21) hK (List.mem_of_getElem? (i := 21) rfl) (by decide) rfl ?_
    refine X_vcall c_T l_X6_X8_isWord (p_isWord hG hK d 21 (by decide)) rfl rfl rfl rfl (Nat.le_of_ble_eq_true rfl) (Nat.le_of_ble_eq_true rfl) (by omega) (by omega) (by omega) ?_
    refine X_if_eq rfl (fun c75 => ?_) (fun c75 => ?_)
    · have hn : ¬ l_isw tx n p (x_w 8) = true := fun q => bI_ne.mpr ⟨h5.trans ((z_word hr hp 21 (by decide) (by decide) (by decide) (by decide)).mpr q).1, htl.trans ((z_word hr hp 21 (by decide) (by decide) (by decide) (by decide)).mpr q).2⟩ c75
      exact kS (l_sk tx n p) K rd dd tl _ (if_neg hn) (z_at_sk hat) hsl.1 hdd hrst (fun _ _ => rfl) hcol
    · have hb := bI_ne.mp c75
      have hisw : l_isw tx n p (x_w 8) = true := (z_word hr hp 21 (by decide) (by decide) (by decide) (by decide)).mp ⟨h5.symm.trans hb.1, htl.symm.trans hb.2⟩
      have htk : l_tk tx n p (x_w 8) = l_sk tx n p + 5 := l_tk_y hisw
      have hwe : l_we tx n p = l_sk tx n p + 5 := l_isw_we hisw
      have hwl := l_we_le (tx := tx) hp
      have hnm : n_ (rd 0) = m := by rw [h0]; exact n_nI (by omega)
      have hrep : l_rep tx n 8 (g_idx tx n) (f + 1) p rd = l_bi (l_idxLine tx n m (l_tk tx n p (x_w 8)) rd) (fun x => l_rep tx n 8 (g_idx tx n) f x.1 x.2) := (if_pos hisw).trans (by unfold g_idx; rw [hnm])
      refine X_ld rfl rfl rfl rfl ?_
      refine X_vcallP (c_B (hρ.o 0 (by decide)) rs_r) l_X6_X6_readIndex (p_readIndex hG hK hρ d hr hn8 hsp hat hcol hi (D := updR D i dd) (fun j hj => by rw [updR_eq]; exact hdd j hj) hisw) rfl rfl rfl rfl (Nat.le_of_ble_eq_true rfl) (Nat.le_of_ble_eq_true rfl) (by omega) (by omega) (by omega) (fun N1 r hq => ?_)
      cases hL : l_idxLine tx n m (l_tk tx n p (x_w 8)) rd with
      | inl e9 =>
        obtain ⟨e9, a9⟩ := e9
        rw [hL] at hq
        obtain ⟨he9, K2, tl2, dd2, hek, hd2, rfl, rfl⟩ := hq
        rw [updR_eq] at hd2
        refine X_stk (st' := []) rfl ?_
        refine X_iinc rfl rfl rfl ?_
        refine X_goto rfl ?_
        refine X_heap (N' := cset (rset B ρ i e9 (nI a9) sv nm ty hv) J bf K2 tk ts tl2 tv su (updR D i dd2)) (congrArg (cset _ _ _ _ _ _ _ _ _) updR_updR) ?_
        exact w_rsE61 hG hK hρ d he9 hek hi hsu hcol.2.1 hm5 (hd2.trans ((hrst 1 (Or.inl (by decide))).trans hq9)) hq40 (by omega) (by omega) (fun dd3 => kE e9 a9 K2 dd3 tl2 (hrep.trans (l_bi_er hL)) he9)
      | inr x9 =>
        obtain ⟨q1, rd1⟩ := x9
        rw [hL] at hq
        obtain ⟨j1, i1, i2, i3, i4, i5⟩ := l_idx_inv hm5 (show l_tk tx n p (x_w 8) ≤ n by omega) hL
        obtain ⟨K2, tl2, j, hat2, g1, g2, rfl, rfl⟩ := hq
        have hrep2 := hrep.trans (l_bi_ok hL)
        have hnj : ¬ rd (10 + 13 * j + 9) = 1 := fun e => i2 (by
          have e1 : upd rd (10 + 13 * j + 9) 1 = rd := y_upd_self e
          have e2 := congrFun (e1.symm.trans (g2.symm.trans i3)) (10 + 13 * j1 + 9)
          rw [updI_eq] at e2
          exact e2)
        have hic2 := s_ic_upd hnj 5 g1
        rw [← g2] at hic2
        refine X_stk (st' := []) rfl ?_
        refine X_iinc rfl rfl rfl ?_
        refine X_goto rfl ?_
        refine X_loc (L' := [some (.ref (ρ 0)), some (.int (nI (s_ic rd1 5)))]) ⟨rfl, by rw [hic2]; exact congrArg Value.int (m_inc rfl).symm, trivial⟩ ?_
        rw [updR_eq]
        refine X_heap (N' := cset (rset B ρ i 0 ea sv nm ty hv) J bf K2 tk ts tl2 tv su (updR D i (upd dd (10 + 13 * j + 9) 1))) (congrArg (cset _ _ _ _ _ _ _ _ _) updR_updR) ?_
        refine ih q1 K2 rd1 (upd dd (10 + 13 * j + 9) 1) tl2 (by omega) hat2 (by rw [g2, updI_ne (by omega)]; exact h0) (y_col_g hcol (fun a ha k hk => by rw [g2, updI_ne (by omega)])) (fun a ha => ?_) (fun k hk => (updI_ne (by omega)).trans (hrst k hk)) (fun e a K3 dd3 tl3 w1 w2 => kE e a K3 dd3 tl3 (hrep2.trans w1) w2) (fun q K3 rd3 dd3 tl3 x3 w1 w2 w3 w4 w5 w6 w7 => kS q K3 rd3 dd3 tl3 x3 (hrep2.trans w1) w2 (by omega) w4 w5 (fun k hk => (w6 k hk).trans (by rw [g2, updI_ne (by omega)])) w7)
        by_cases e : a = j
        · rw [e, g2, updI_eq, updI_eq]; exact ⟨rfl, Or.inr rfl⟩
        · rw [g2, updI_ne (by omega), updI_ne (by omega)]; exact hdd a ha

