/-! ===== the class's reader: all rows ===== -/
theorem l_vals_o {tx : Nat → Int32} {n l : Nat} : ∀ (r c p : Nat) (rd rd1 : Nat → Int32) (q : Nat), c + r ≤ 5 → l_vals tx n l r c p rd = .inr (q, rd1) → ∀ j, (j < 75 + 5 * l ∨ 75 + 5 * l + 5 ≤ j) → rd1 j = rd j
  | 0, c, p, rd, rd1, q, _, h => by cases h; exact fun _ _ => rfl
  | r + 1, c, p, rd, rd1, q, hc, h => fun j hj => by
    obtain ⟨x, h1, h2⟩ := l_bi_inr h
    rw [l_vals_o r (c + 1) _ _ _ _ (by omega) h2 j hj]
    exact updI_ne (by omega)
theorem l_row_inv {tx rd rd1 : Nat → Int32} {n m l a p q : Nat} (hm : m ≤ 5) (hl : l ≤ 40) (hp : p ≤ n) (h : l_rowLine tx n m l a p rd = .inr (q, rd1)) : l < 40 ∧ rd1 1 = nI (l + 1) ∧ (∀ j, j ≠ 1 → (j < 75 + 5 * l ∨ 75 + 5 * l + 5 ≤ j) → rd1 j = rd j) ∧ p < q ∧ q ≤ n := by
  unfold l_rowLine at h
  by_cases e0 : m = 0
  · rw [if_pos e0] at h; cases h
  · rw [if_neg e0] at h
    by_cases e1 : l = 40
    · rw [if_pos e1] at h; cases h
    · rw [if_neg e1] at h
      obtain ⟨x, h1, h2⟩ := l_bi_inr h
      obtain ⟨⟨v0, v1⟩, -⟩ := l_vals_ok m 0 p rd x.2 x.1 hp (by omega) (by omega) h1
      have ho := l_vals_o m 0 p rd x.2 x.1 (by omega) h1
      obtain ⟨w1, w2⟩ := l_want_ok h2 (by decide) v1
      rw [w2]
      exact ⟨by omega, updI_eq, fun j h1 h2 => (updI_ne h1).trans (ho j h2), by omega, w1.2⟩
theorem w_rs90 {G : XE} (hG : x_Kn G) (hK : x_KS G) {B : XH} {J bf tk ts : Nat → Int32} {tv : Nat → Int64} {su : Nat → Nat} {D : Nat → Nat → Int32} {ρ : Nat → Nat} (hρ : y_ds ρ B) {i : Nat} {ea : Int32} {sv ty hv : Nat → Int32} {nm : Nat → Int64} (d : Nat) {tx : Nat → Int32} {n c : Nat} (hr : s_rtx tx bf n) (hn8 : n ≤ 800) (hsp : z_split bf tx n tk ts tv c) {m : Nat} {d0 : Nat → Int32} (hi : i < 10) (hsu : su i = ρ 1) (hm5 : m ≤ 5) {mc ms nb0 cells slots : Nat} {ad0 : Nat → Nat} {Qn : XH → Option Value → Prop} (hc : cells ≤ mc) (hs : slots ≤ ms) : ∀ (f : Nat) (p l : Nat) (K rd dd : Nat → Int32) (tl : Int64), n + 1 - p ≤ f → z_at tx bf n c K tl p → (rd 1 = nI l ∧ l ≤ 40 ∧ dd 1 = nI l) → rd 0 = nI m → y_col rd sv ty nm m → (∀ a, a < l → ∀ b, b < m → dd (75 + 5 * a + b) = rd (75 + 5 * a + b)) → (∀ k, k ≠ 1 → (k < 75 ∨ 275 ≤ k) → dd k = d0 k) → (∀ (e : Int32) (a : Nat) (K2 dd2 : Nat → Int32) (tl2 : Int64), l_rep tx n 9 (g_row tx n) f p rd = .inl (e, a) → ¬ e = 0 → Qn (cset (rset B ρ i e (nI a) sv nm ty hv) J bf K2 tk ts tl2 tv su (updR D i dd2)) none) → (∀ (q l2 : Nat) (K2 rd2 dd2 : Nat → Int32) (tl2 : Int64), l_rep tx n 9 (g_row tx n) f p rd = .inr (q, rd2) → z_at tx bf n c K2 tl2 q → p ≤ q → (rd2 1 = nI l2 ∧ l2 ≤ 40 ∧ dd2 1 = nI l2) → (∀ a, a < l2 → ∀ b, b < m → dd2 (75 + 5 * a + b) = rd2 (75 + 5 * a + b)) → (∀ k, k ≠ 1 → (k < 75 ∨ 275 ≤ k) → dd2 k = d0 k) → (∀ j, j ≠ 1 → (j < 75 ∨ 275 ≤ j) → rd2 j = rd j) → x_W G mX6_readSetup (x_Z G (d + 30) mc ms ad0 nb0 Qn x_noX) (cset (rset B ρ i 0 ea sv nm ty hv) J bf K2 tk ts tl2 tv su (updR D i dd2)) cells slots 118 [some (.ref (ρ 0)), some (.int (nI l2))] []) → x_W G mX6_readSetup (x_Z G (d + 30) mc ms ad0 nb0 Qn x_noX) (cset (rset B ρ i 0 ea sv nm ty hv) J bf K tk ts tl tv su (updR D i dd)) cells slots 90 [some (.ref (ρ 0)), some (.int (nI l))] [] := by
  intro f
  induction f with
  | zero =>
    intro p l K rd dd tl hf hat hl h0 hcol hcel hrst kE kS
    have := hat.1
    omega
  | succ f ih =>
    intro p l K rd dd tl hf hat hl h0 hcol hcel hrst kE kS
    obtain ⟨hp, j0, hj0, hz, h3, h4, h5, h6, htl⟩ := id hat
    have hsl := l_sk_le (tx := tx) hp
    refine X_ld rfl rfl rfl rfl ?_
    refine X_push (v := .int 40) rfl (by decide +kernel) ?_
    refine X_icmp_gt rfl (fun c93 => absurd ((n_lt (show (40 : Int32) = nI 40 from rfl) rfl (by omega) (by omega)).mp c93) (by omega)) (fun c93 => ?_)
    refine X_ld rfl rfl rfl rfl ?_
    refine X_get f_X6_26 rfl (c_B (hρ.o 0 (by decide)) rs_r) rfl ?_
    refine X_ldcS (i := 22) hK (List.mem_of_getElem? (i := 22) rfl) (by decide) rfl ?_
    refine X_vcall c_T l_X6_X8_isWord (p_isWord hG hK d 22 (by decide)) rfl rfl rfl rfl (Nat.le_of_ble_eq_true rfl) (Nat.le_of_ble_eq_true rfl) (by omega) (by omega) (by omega) ?_
    refine X_if_eq rfl (fun c105 => ?_) (fun c105 => ?_)
    · have hn : ¬ l_isw tx n p (x_w 9) = true := fun q => bI_ne.mpr ⟨h5.trans ((z_word hr hp 22 (by decide) (by decide) (by decide) (by decide)).mpr q).1, htl.trans ((z_word hr hp 22 (by decide) (by decide) (by decide) (by decide)).mpr q).2⟩ c105
      exact kS (l_sk tx n p) l K rd dd tl (if_neg hn) (z_at_sk hat) hsl.1 hl hcel hrst (fun _ _ _ => rfl)
    · have hb := bI_ne.mp c105
      have hisw : l_isw tx n p (x_w 9) = true := (z_word hr hp 22 (by decide) (by decide) (by decide) (by decide)).mp ⟨h5.symm.trans hb.1, htl.symm.trans hb.2⟩
      have htk : l_tk tx n p (x_w 9) = l_sk tx n p + 3 := l_tk_y hisw
      have hwe : l_we tx n p = l_sk tx n p + 3 := l_isw_we hisw
      have hwl := l_we_le (tx := tx) hp
      have hnl : n_ (rd 1) = l := by rw [hl.1]; exact n_nI (by omega)
      have hnm : n_ (rd 0) = m := by rw [h0]; exact n_nI (by omega)
      have hrep : l_rep tx n 9 (g_row tx n) (f + 1) p rd = l_bi (l_rowLine tx n m l (l_sk tx n p) (l_tk tx n p (x_w 9)) rd) (fun x => l_rep tx n 9 (g_row tx n) f x.1 x.2) := (if_pos hisw).trans (by unfold g_row; rw [hnl, hnm])
      refine X_ld rfl rfl rfl rfl ?_
      refine X_vcallP (c_B (hρ.o 0 (by decide)) rs_r) l_X6_X6_readRow (p_readRow hG hK hρ d hr hn8 hsp hat hcol hi (show (updR D i dd) i 1 = nI l by rw [updR_eq]; exact hl.2.2) hl.2.1 hisw) rfl rfl rfl rfl (Nat.le_of_ble_eq_true rfl) (Nat.le_of_ble_eq_true rfl) (by omega) (by omega) (by omega) (fun N1 r hq => ?_)
      cases hL : l_rowLine tx n m l (l_sk tx n p) (l_tk tx n p (x_w 9)) rd with
      | inl e9 =>
        obtain ⟨e9, a9⟩ := e9
        rw [hL] at hq
        obtain ⟨he9, K2, tl2, dd2, hek, hd2, rfl, rfl⟩ := hq
        refine X_stk (st' := []) rfl ?_
        refine X_iinc rfl rfl rfl ?_
        refine X_goto rfl ?_
        refine X_heap (N' := cset (rset B ρ i e9 (nI a9) sv nm ty hv) J bf K2 tk ts tl2 tv su (updR D i dd2)) (congrArg (cset _ _ _ _ _ _ _ _ _) updR_updR) ?_
        exact w_rsE90 hG hK hρ d he9 hek hi hsu hcol.2.1 hm5 hd2 hl.2.1 (by omega) (by omega) (fun dd3 => kE e9 a9 K2 dd3 tl2 (hrep.trans (l_bi_er hL)) he9)
      | inr x9 =>
        obtain ⟨q1, rd1⟩ := x9
        rw [hL] at hq
        obtain ⟨i1, i2, i3, i4, i5⟩ := l_row_inv hm5 hl.2.1 (show l_tk tx n p (x_w 9) ≤ n by omega) hL
        obtain ⟨K2, tl2, dd2, hat2, g1, g2, g3, rfl, rfl⟩ := hq
        rw [updR_eq] at g3
        have hrep2 := hrep.trans (l_bi_ok hL)
        refine X_stk (st' := []) rfl ?_
        refine X_iinc rfl rfl rfl ?_
        refine X_goto rfl ?_
        refine X_loc (L' := [some (.ref (ρ 0)), some (.int (nI (l + 1)))]) ⟨rfl, congrArg Value.int (m_inc rfl).symm, trivial⟩ ?_
        refine X_heap (N' := cset (rset B ρ i 0 ea sv nm ty hv) J bf K2 tk ts tl2 tv su (updR D i dd2)) (congrArg (cset _ _ _ _ _ _ _ _ _) updR_updR) ?_
        refine ih q1 (l + 1) K2 rd1 dd2 tl2 (by omega) hat2 ⟨i2, by omega, g1.trans i2⟩ ((i3 0 (by decide) (Or.inl (by omega))).trans h0) (y_col_c75 hcol (fun j h1 h2 => i3 j (by omega) (Or.inl (by omega)))) (fun a ha b hb => ?_) (fun k h1 h2 => (g3 k h1 (by omega)).trans (hrst k h1 h2)) (fun e a K3 dd3 tl3 w1 w2 => kE e a K3 dd3 tl3 (hrep2.trans w1) w2) (fun q l3 K3 rd3 dd3 tl3 w1 w2 w3 w4 w5 w6 w7 => kS q l3 K3 rd3 dd3 tl3 (hrep2.trans w1) w2 (by omega) w4 w5 w6 (fun j h1 h2 => (w7 j h1 h2).trans (i3 j h1 (by omega))))
        by_cases e : a = l
        · rw [e]; exact g2 b hb
        · exact (g3 _ (by omega) (Or.inl (by omega))).trans ((hcel a (by omega) b hb).trans (i3 _ (by omega) (Or.inl (by omega))).symm)

