/-! ===== the class's reader: all columns ===== -/
theorem w_rs32 {G : XE} (hG : x_Kn G) (hK : x_KS G) {B : XH} {J bf tk ts : Nat → Int32} {tv : Nat → Int64} {su : Nat → Nat} {D : Nat → Nat → Int32} {ρ : Nat → Nat} (hρ : y_ds ρ B) {i : Nat} {ea : Int32} {hv : Nat → Int32} (d : Nat) {tx : Nat → Int32} {n c : Nat} (hr : s_rtx tx bf n) (hn8 : n ≤ 800) (hsp : z_split bf tx n tk ts tv c) {dd : Nat → Int32} {q9 : Nat} (hi : i < 10) (hsu : su i = ρ 1) (hdq : dd 1 = nI q9) (hq40 : q9 ≤ 40) {mc ms nb0 cells slots : Nat} {ad0 : Nat → Nat} {Qn : XH → Option Value → Prop} (hc : cells ≤ mc) (hs : slots ≤ ms) : ∀ (f : Nat) (p m : Nat) (K rd sv ty : Nat → Int32) (nm : Nat → Int64) (tl : Int64), n + 1 - p ≤ f → z_at tx bf n c K tl p → rd 0 = nI m → y_col rd sv ty nm m → (∀ (e : Int32) (a : Nat) (K2 sv2 ty2 dd2 : Nat → Int32) (nm2 : Nat → Int64) (tl2 : Int64), l_rep tx n 1 (g_col tx n) f p rd = .inl (e, a) → ¬ e = 0 → Qn (cset (rset B ρ i e (nI a) sv2 nm2 ty2 hv) J bf K2 tk ts tl2 tv su (updR D i dd2)) none) → (∀ (q m2 : Nat) (K2 rd2 sv2 ty2 : Nat → Int32) (nm2 : Nat → Int64) (tl2 : Int64) (x2 : Int32), l_rep tx n 1 (g_col tx n) f p rd = .inr (q, rd2) → z_at tx bf n c K2 tl2 q → p ≤ q → rd2 0 = nI m2 → y_col rd2 sv2 ty2 nm2 m2 → (∀ k, 1 ≤ k → sv2 k = sv k) → (∀ j, j ≠ 0 → (j < 10 ∨ 75 ≤ j) → rd2 j = rd j) → (∀ j, j < 5 → rd2 (10 + 13 * j + 9) = rd (10 + 13 * j + 9)) → x_W G mX6_readSetup (x_Z G (d + 30) mc ms ad0 nb0 Qn x_noX) (cset (rset B ρ i 0 ea sv2 nm2 ty2 hv) J bf K2 tk ts tl2 tv su (updR D i dd)) cells slots 59 [some (.ref (ρ 0)), some (.int x2)] []) → x_W G mX6_readSetup (x_Z G (d + 30) mc ms ad0 nb0 Qn x_noX) (cset (rset B ρ i 0 ea sv nm ty hv) J bf K tk ts tl tv su (updR D i dd)) cells slots 32 [some (.ref (ρ 0)), some (.int (nI m))] [] := by
  intro f
  induction f with
  | zero =>
    intro p m K rd sv ty nm tl hf hat h0 hcol kE kS
    have := hat.1
    omega
  | succ f ih =>
    intro p m K rd sv ty nm tl hf hat h0 hcol kE kS
    obtain ⟨hp, j0, hj0, hz, h3, h4, h5, h6, htl⟩ := id hat
    have hsl := l_sk_le (tx := tx) hp
    have hm5 := hcol.1
    refine X_ld rfl rfl rfl rfl ?_
    refine X_push (v := .int 5) rfl (by decide +kernel) ?_
    refine X_icmp_gt rfl (fun c34 => absurd ((n_lt (show (5 : Int32) = nI 5 from rfl) rfl (by omega) (by omega)).mp c34) (by omega)) (fun c34 => ?_)
    refine X_ld rfl rfl rfl rfl ?_
    refine X_get f_X6_26 rfl (c_B (hρ.o 0 (by decide)) rs_r) rfl ?_
    refine X_ldcS (i := 14) hK (List.mem_of_getElem? (i := 14) rfl) (by decide) rfl ?_
    refine X_vcall c_T l_X6_X8_isWord (p_isWord hG hK d 14 (by decide)) rfl rfl rfl rfl (Nat.le_of_ble_eq_true rfl) (Nat.le_of_ble_eq_true rfl) (by omega) (by omega) (by omega) ?_
    refine X_if_eq rfl (fun c46 => ?_) (fun c46 => ?_)
    · have hn : ¬ l_isw tx n p (x_w 1) = true := fun q => bI_ne.mpr ⟨h5.trans ((z_word hr hp 14 (by decide) (by decide) (by decide) (by decide)).mpr q).1, htl.trans ((z_word hr hp 14 (by decide) (by decide) (by decide) (by decide)).mpr q).2⟩ c46
      exact kS (l_sk tx n p) m K rd sv ty nm tl _ (if_neg hn) (z_at_sk hat) hsl.1 h0 hcol (fun _ _ => rfl) (fun _ _ _ => rfl) (fun _ _ => rfl)
    · have hb := bI_ne.mp c46
      have hisw : l_isw tx n p (x_w 1) = true := (z_word hr hp 14 (by decide) (by decide) (by decide) (by decide)).mp ⟨h5.symm.trans hb.1, htl.symm.trans hb.2⟩
      have htk : l_tk tx n p (x_w 1) = l_sk tx n p + 6 := l_tk_y hisw
      have hwe : l_we tx n p = l_sk tx n p + 6 := l_isw_we hisw
      have hwl := l_we_le (tx := tx) hp
      have hnm : n_ (rd 0) = m := by rw [h0]; exact n_nI (by omega)
      have hrep : l_rep tx n 1 (g_col tx n) (f + 1) p rd = l_bi (l_colLine tx n m (l_sk tx n p) (l_tk tx n p (x_w 1)) rd) (fun x => l_rep tx n 1 (g_col tx n) f x.1 x.2) := (if_pos hisw).trans (by unfold g_col; rw [hnm])
      refine X_ld rfl rfl rfl rfl ?_
      refine X_vcallP (c_B (hρ.o 0 (by decide)) rs_r) l_X6_X6_readColumn (p_readColumn hG hK hρ d hr hn8 hsp hat hcol hisw) rfl rfl rfl rfl (Nat.le_of_ble_eq_true rfl) (Nat.le_of_ble_eq_true rfl) (by omega) (by omega) (by omega) (fun N1 r hq => ?_)
      cases hL : l_colLine tx n m (l_sk tx n p) (l_tk tx n p (x_w 1)) rd with
      | inl e9 =>
        obtain ⟨e9, a9⟩ := e9
        rw [hL] at hq
        obtain ⟨he9, K2, tl2, sv2, nm2, ty2, hek, ⟨m2, hm2, hsv2⟩, rfl, rfl⟩ := hq
        refine X_stk (st' := []) rfl ?_
        refine X_iinc rfl rfl rfl ?_
        refine X_goto rfl ?_
        exact w_rsE32 hG hK hρ d he9 hek hi hsu hsv2 hm2 hdq hq40 (by omega) (by omega) (fun dd3 => kE e9 a9 K2 sv2 ty2 dd3 nm2 tl2 (hrep.trans (l_bi_er hL)) he9)
      | inr x9 =>
        obtain ⟨q1, rd1⟩ := x9
        rw [hL] at hq
        obtain ⟨i1, i2, i3, i4, i5⟩ := l_col_inv hm5 (show l_tk tx n p (x_w 1) ≤ n by omega) hL
        obtain ⟨K2, tl2, sv2, nm2, ty2, hat2, ⟨m2, g1, g2⟩, g3, rfl, rfl⟩ := hq
        have hrep2 := hrep.trans (l_bi_ok hL)
        obtain rfl : m2 = m + 1 := (nI_eq (by have := g2.1; omega) (by omega)).mp (g1.symm.trans i2)
        refine X_stk (st' := []) rfl ?_
        refine X_iinc rfl rfl rfl ?_
        refine X_goto rfl ?_
        refine X_loc (L' := [some (.ref (ρ 0)), some (.int (nI (m + 1)))]) ⟨rfl, congrArg Value.int (m_inc rfl).symm, trivial⟩ ?_
        exact ih q1 (m + 1) K2 rd1 sv2 ty2 nm2 tl2 (by omega) hat2 i2 g2 (fun e a K3 sv3 ty3 dd3 nm3 tl3 w1 w2 => kE e a K3 sv3 ty3 dd3 nm3 tl3 (hrep2.trans w1) w2) (fun q m3 K3 rd3 sv3 ty3 nm3 tl3 x3 w1 w2 w3 w4 w5 w6 w7 w8 => kS q m3 K3 rd3 sv3 ty3 nm3 tl3 x3 (hrep2.trans w1) w2 (by omega) w4 w5 (fun k hk => (w6 k hk).trans (g3 k hk)) (fun j h1 h2 => (w7 j h1 h2).trans (i3 j h1 (by omega))) (fun j hj => (w8 j hj).trans (i3 _ (by omega) (by omega))))

