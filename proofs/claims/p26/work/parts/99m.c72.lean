/-! ===== the class's reader: all statements ===== -/
theorem l_prep_inv {tx rd rd1 : Nat → Int32} {n m s a p q k : Nat} (hn8 : n ≤ 800) (hm : m ≤ 5) (hs6 : s ≤ 6) (hp : p ≤ n) (hk : rd 9 = nI k) (hk5 : 5 * k ≤ 2 * p) (h : l_prepLine tx n m s a p rd = .inr (q, rd1)) : rd1 2 = nI (s + 1) ∧ s < 6 ∧ (∀ j, j < 275 → j ≠ 2 → j ≠ 9 → rd1 j = rd j) ∧ (p + 3 ≤ q ∧ q ≤ n) ∧ ∃ k1, rd1 9 = nI k1 ∧ 5 * k1 ≤ 2 * q := by
  unfold l_prepLine at h
  by_cases e : s = 6
  · rw [if_pos e] at h; cases h
  · rw [if_neg e] at h
    obtain ⟨x, h1, h2⟩ := l_bi_inr h
    obtain ⟨y, h3, h4⟩ := l_bi_inr h2
    obtain ⟨g1, g2⟩ := l_fresh_ok h1 hp
    have hsl := l_sk_le (tx := tx) hp
    have hpr : ∀ j, j < 275 → s_prep x.2 s j = rd j := fun j hj => (s_prep_o (by omega)).trans (g2 j (by omega))
    obtain ⟨w1, w2, k1, w3, w4, w5⟩ := l_prs_ok hn8 (by omega) _ _ _ _ _ _ k _ _ _ g1.2 ((hpr 9 (by decide)).trans hk) (by omega) h3
    change 5 * k1 + 2 * x.1 + 1 ≤ 5 * k + 2 * y.1 at w5
    obtain ⟨v1, v2⟩ := l_want_ok h4 (by decide) w1.2
    rw [v2]
    exact ⟨updI_eq, by omega, fun j hj h2 h9 => (updI_ne h2).trans ((updI_ne (by omega)).trans ((w2 j hj h9).trans (hpr j hj))), by omega, k1, (updI_ne (by omega)).trans ((updI_ne (by omega)).trans w3), by omega⟩
theorem w_rs120 {G : XE} (hG : x_Kn G) (hK : x_KS G) (hM : x_KM G) {J bf tk ts : Nat → Int32} {tv : Nat → Int64} {su : Nat → Nat} {D : Nat → Nat → Int32} {i : Nat} {ea : Int32} {sv ty : Nat → Int32} {nm : Nat → Int64} (d : Nat) {tx : Nat → Int32} {n c : Nat} (hr : s_rtx tx bf n) (hn8 : n ≤ 800) (hsp : z_split bf tx n tk ts tv c) {B0 : XH} {m q9 : Nat} {dd : Nat → Int32} (hi : i < 10) (hm5 : m ≤ 5) (hdq : dd 1 = nI q9) (hq40 : q9 ≤ 40) {mc ms nb0 : Nat} {ad0 : Nat → Nat} {Qn : XH → Option Value → Prop} : ∀ (f : Nat) (p s elS k cells slots : Nat) (K rd hv : Nat → Int32) (tl : Int64) (B : XH) (ρ : Nat → Nat) (mS : Int32) (pS : Nat → Nat), n + 1 - p ≤ f → cells + 12 * (n - p) ≤ mc → slots + 292 * (n - p) + 400 ≤ ms → z_at tx bf n c K tl p → y_ds ρ B → (B 0 = none ∧ B 2 = none) → su i = ρ 1 → y_ST B0 B ρ hv rd s elS mS pS → (rd 2 = nI s ∧ s ≤ 6) → rd 0 = nI m → y_col rd sv ty nm m → (rd 9 = nI k ∧ 5 * k ≤ 2 * p) → (∀ (e : Int32) (a : Nat) (K2 hv2 dd2 : Nat → Int32) (tl2 : Int64) (B2 : XH) (ρ2 : Nat → Nat), l_rep tx n 10 (g_prep tx n) f p rd = .inl (e, a) → ¬ e = 0 → y_le B0 B2 → y_ds ρ2 B2 → (B2 0 = none ∧ B2 2 = none) → (∀ a, a ≠ 4 → ρ2 a = ρ a) → Qn (cset (rset B2 ρ2 i e (nI a) sv nm ty hv2) J bf K2 tk ts tl2 tv su (updR D i dd2)) none) → (∀ (q s2 elS2 cells2 slots2 : Nat) (K2 rd2 hv2 : Nat → Int32) (tl2 : Int64) (B2 : XH) (ρ2 : Nat → Nat) (mS2 : Int32) (pS2 : Nat → Nat), l_rep tx n 10 (g_prep tx n) f p rd = .inr (q, rd2) → z_at tx bf n c K2 tl2 q → y_ds ρ2 B2 → (B2 0 = none ∧ B2 2 = none) → (∀ a, a ≠ 4 → ρ2 a = ρ a) → y_ST B0 B2 ρ2 hv2 rd2 s2 elS2 mS2 pS2 → (rd2 2 = nI s2 ∧ s2 ≤ 6) → (∀ j, j < 275 → j ≠ 2 → j ≠ 9 → rd2 j = rd j) → cells2 ≤ mc → slots2 ≤ ms → x_W G mX6_readSetup (x_Z G (d + 30) mc ms ad0 nb0 Qn x_noX) (cset (rset B2 ρ2 i 0 ea sv nm ty hv2) J bf K2 tk ts tl2 tv su (updR D i dd)) cells2 slots2 148 [some (.ref (ρ2 0)), some (.int (nI s2))] []) → x_W G mX6_readSetup (x_Z G (d + 30) mc ms ad0 nb0 Qn x_noX) (cset (rset B ρ i 0 ea sv nm ty hv) J bf K tk ts tl tv su (updR D i dd)) cells slots 120 [some (.ref (ρ 0)), some (.int (nI s))] [] := by
  intro f
  induction f with
  | zero =>
    intro p s elS k cells slots K rd hv tl B ρ mS pS hf hc hs hat hρ hX hsu hST hs6 h0 hcol hk kE kS
    have := hat.1
    omega
  | succ f ih =>
    intro p s elS k cells slots K rd hv tl B ρ mS pS hf hc hs hat hρ hX hsu hST hs6 h0 hcol hk kE kS
    obtain ⟨hp, j0, hj0, hz, h3, h4, h5, h6, htl⟩ := id hat
    have hsl := l_sk_le (tx := tx) hp
    refine X_ld rfl rfl rfl rfl ?_
    refine X_push (v := .int 6) rfl (by decide +kernel) ?_
    refine X_icmp_gt rfl (fun c123 => absurd ((n_lt (show (6 : Int32) = nI 6 from rfl) rfl (by omega) (by omega)).mp c123) (by omega)) (fun c123 => ?_)
    refine X_ld rfl rfl rfl rfl ?_
    refine X_get f_X6_26 rfl (c_B (hρ.o 0 (by decide)) rs_r) rfl ?_
    refine X_ldcS (i := 23) hK (List.mem_of_getElem? (i := 23) rfl) (by decide) rfl ?_
    refine X_vcall c_T l_X6_X8_isWord (p_isWord hG hK d 23 (by decide)) rfl rfl rfl rfl (Nat.le_of_ble_eq_true rfl) (Nat.le_of_ble_eq_true rfl) (by omega) (by omega) (by omega) ?_
    refine X_if_eq rfl (fun c135 => ?_) (fun c135 => ?_)
    · have hn : ¬ l_isw tx n p (x_w 10) = true := fun q => bI_ne.mpr ⟨h5.trans ((z_word hr hp 23 (by decide) (by decide) (by decide) (by decide)).mpr q).1, htl.trans ((z_word hr hp 23 (by decide) (by decide) (by decide) (by decide)).mpr q).2⟩ c135
      exact kS (l_sk tx n p) s elS _ _ K rd hv tl B ρ mS pS (if_neg hn) (z_at_sk hat) hρ hX (fun _ _ => rfl) hST hs6 (fun _ _ _ _ => rfl) (by omega) (by omega)
    · have hb := bI_ne.mp c135
      have hisw : l_isw tx n p (x_w 10) = true := (z_word hr hp 23 (by decide) (by decide) (by decide) (by decide)).mp ⟨h5.symm.trans hb.1, htl.symm.trans hb.2⟩
      have htk : l_tk tx n p (x_w 10) = l_sk tx n p + 7 := l_tk_y hisw
      have hwe : l_we tx n p = l_sk tx n p + 7 := l_isw_we hisw
      have hwl := l_we_le (tx := tx) hp
      have hns : n_ (rd 2) = s := by rw [hs6.1]; exact n_nI (by omega)
      have hnm : n_ (rd 0) = m := by rw [h0]; exact n_nI (by omega)
      have hgp : g_prep tx n (l_sk tx n p) (l_tk tx n p (x_w 10)) rd = l_prepLine tx n m s (l_sk tx n p) (l_tk tx n p (x_w 10)) rd := by unfold g_prep; rw [hns, hnm]
      have hrep : l_rep tx n 10 (g_prep tx n) (f + 1) p rd = l_bi (l_prepLine tx n m s (l_sk tx n p) (l_tk tx n p (x_w 10)) rd) (fun x => l_rep tx n 10 (g_prep tx n) f x.1 x.2) := (if_pos hisw).trans (by rw [hgp])
      have hinv := fun q rd1 h => l_prep_inv (tx := tx) (a := l_sk tx n p) (rd1 := rd1) (q := q) hn8 hm5 hs6.2 (show l_tk tx n p (x_w 10) ≤ n by omega) hk.1 (by omega) h
      have hen : l_en n (l_prepLine tx n m s (l_sk tx n p) (l_tk tx n p (x_w 10)) rd) ≤ n := by
        cases h : l_prepLine tx n m s (l_sk tx n p) (l_tk tx n p (x_w 10)) rd with
        | inl e => exact Nat.le_refl n
        | inr x => exact (hinv x.1 x.2 h).2.2.2.1.2
      refine X_ld rfl rfl rfl rfl ?_
      refine X_vcallP (c_B (hρ.o 0 (by decide)) rs_r) l_X6_X6_readPrepare (p_readPrepare hG hK hM hρ d hr hn8 hsp hat hcol hX hST h0 hs6.2 hk hisw) rfl rfl rfl rfl (Nat.le_of_ble_eq_true rfl) (Nat.le_of_ble_eq_true rfl) (by omega) (by omega) (by omega) (fun N1 r hq => ?_)
      cases hL : l_prepLine tx n m s (l_sk tx n p) (l_tk tx n p (x_w 10)) rd with
      | inl e9 =>
        obtain ⟨e9, a9⟩ := e9
        rw [hL] at hq
        obtain ⟨he9, K2, tl2, hv2, B2, ρ2, hek, z1, z2, z3, z4, rfl, rfl⟩ := hq
        refine X_stk (st' := []) rfl ?_
        refine X_iinc rfl rfl rfl ?_
        refine X_goto rfl ?_
        rw [← z4 0 (by decide)]
        refine X_room (cells' := mc) (slots' := ms) (by show _ + (20 + 9 * (n - p)) ≤ mc; omega) (by show _ + (400 + 250 * (n - p)) ≤ ms; omega) ?_
        exact w_rsE120 hG hK z2 d he9 hek hi (hsu.trans (z4 1 (by decide)).symm) hcol.2.1 hm5 hdq hq40 (Nat.le_refl _) (Nat.le_refl _) (fun dd2 => kE e9 a9 K2 hv2 dd2 tl2 B2 ρ2 (hrep.trans (l_bi_er hL)) he9 z1 z2 z3 z4)
      | inr x9 =>
        obtain ⟨q1, rd1⟩ := x9
        rw [hL] at hq
        obtain ⟨i1, i2, i3, i4, k1, i5, i6⟩ := hinv q1 rd1 hL
        obtain ⟨K2, tl2, hv2, B2, ρ2, elS2, mS2, pS2, hat2, z2, z3, z4, z5, rfl, rfl⟩ := hq
        have hrep2 := hrep.trans (l_bi_ok hL)
        refine X_stk (st' := []) rfl ?_
        refine X_iinc rfl rfl rfl ?_
        refine X_goto rfl ?_
        refine X_loc (L' := [some (.ref (ρ 0)), some (.int (nI (s + 1)))]) ⟨rfl, congrArg Value.int (m_inc rfl).symm, trivial⟩ ?_
        rw [← z4 0 (by decide)]
        refine X_room (cells' := cells + (20 + 9 * (q1 - p))) (slots' := slots + (400 + 250 * (q1 - p))) (by show _ + (20 + 9 * (q1 - p)) ≤ _; omega) (by show _ + (400 + 250 * (q1 - p)) ≤ _; omega) ?_
        exact ih q1 (s + 1) elS2 k1 _ _ K2 rd1 hv2 tl2 B2 ρ2 mS2 pS2 (by omega) (by omega) (by omega) hat2 z2 z3 (hsu.trans (z4 1 (by decide)).symm) z5 ⟨i1, by omega⟩ ((i3 0 (by decide) (by decide) (by decide)).trans h0) (y_col_c75 hcol (fun j h1 h2 => i3 j (by omega) (by omega) (by omega))) ⟨i5, i6⟩ (fun e a K3 hv3 dd3 tl3 B3 ρ3 g1 g2 g3 g4 g5 g6 => kE e a K3 hv3 dd3 tl3 B3 ρ3 (hrep2.trans g1) g2 g3 g4 g5 (fun a ha => (g6 a ha).trans (z4 a ha))) (fun q s3 elS3 cells3 slots3 K3 rd3 hv3 tl3 B3 ρ3 mS3 pS3 g1 g2 g3 g4 g5 g6 g7 g8 g9 g10 => kS q s3 elS3 cells3 slots3 K3 rd3 hv3 tl3 B3 ρ3 mS3 pS3 (hrep2.trans g1) g2 g3 g4 (fun a ha => (g5 a ha).trans (z4 a ha)) g6 g7 (fun j h1 h2 h3 => (g8 j h1 h2 h3).trans (i3 j h1 h2 h3)) g9 g10)

