/-! ===== the class's reader: lines of costs, of tries ===== -/
theorem stV_upd4 {a b c : Nat} {sv : Nat → Int32} {x : Int32} : updV (stV a b c sv) 4 (.int x) = stV a b c (upd sv 4 x) := by
  funext j
  match j with
  | 0 => rfl
  | 1 => rfl
  | 2 => rfl
  | 3 => rfl
  | 4 => rfl
  | 5 => rfl
  | 6 => rfl
  | j + 7 => rfl
theorem stV_upd5 {a b c : Nat} {sv : Nat → Int32} {x : Int32} : updV (stV a b c sv) 5 (.int x) = stV a b c (upd sv 5 x) := by
  funext j
  match j with
  | 0 => rfl
  | 1 => rfl
  | 2 => rfl
  | 3 => rfl
  | 4 => rfl
  | 5 => rfl
  | 6 => rfl
  | j + 7 => rfl
theorem stV_upd6 {a b c : Nat} {sv : Nat → Int32} {x : Int32} : updV (stV a b c sv) 6 (.int x) = stV a b c (upd sv 6 x) := by
  funext j
  match j with
  | 0 => rfl
  | 1 => rfl
  | 2 => rfl
  | 3 => rfl
  | 4 => rfl
  | 5 => rfl
  | 6 => rfl
  | j + 7 => rfl
theorem stV_upd7 {a b c : Nat} {sv : Nat → Int32} {x : Int32} : ∀ k, k < 8 → updV (stV a b c sv) 7 (.int x) k = stV a b c (upd sv 7 x) k := by
  intro k hk
  have h8 : k = 0 ∨ k = 1 ∨ k = 2 ∨ k = 3 ∨ k = 4 ∨ k = 5 ∨ k = 6 ∨ k = 7 := by omega
  rcases h8 with rfl | rfl | rfl | rfl | rfl | rfl | rfl | rfl <;> rfl
theorem y_updc {f g : Nat → Int32} {a k : Nat} {x : Int32} (h : f k = g k) : upd f a x k = upd g a x k := by
  unfold upd
  rw [h]
def x_QV (tx bf : Nat → Int32) (n c : Nat) (FV : Int32 → Int32 → (Nat → Int32) → Int64 → (Nat → Int32) → XH) (ea : Int32) (sv : Nat → Int32) (R : LR) : XH → Option Value → Prop := fun N r => match R with
  | .inl (e, a) => ¬ e = 0 ∧ ∃ K tl sv', z_er K ∧ sv' 0 = sv 0 ∧ N = FV e (nI a) K tl sv' ∧ r = none
  | .inr (q, rd1) => ∃ K tl sv', z_at tx bf n c K tl q ∧ sv' 0 = sv 0 ∧ (∀ k, 4 ≤ k → k ≤ 7 → sv' k = rd1 k) ∧ N = FV 0 ea K tl sv' ∧ r = none
theorem w_c58X {G : XE} (hG : x_Kn G) (hK : x_KS G) {B : XH} {J bf K tk ts : Nat → Int32} {tl : Int64} {tv : Nat → Int64} {su : Nat → Nat} {D : Nat → Nat → Int32} {ρ : Nat → Nat} (hρ : y_ds ρ B) {i : Nat} {er ea : Int32} {sv ty hv : Nat → Int32} {nm : Nat → Int64} (d : Nat) (her : ¬ er = 0) (hek : z_er K) {nb0 : Nat} {ad0 : Nat → Nat} {Qn : XH → Option Value → Prop} (kk : ∀ N rr, (∃ sv2, sv2 0 = sv 0 ∧ N = cset (rset B ρ i er ea sv2 nm ty hv) J bf K tk ts tl tv su D ∧ rr = none) → Qn N rr) : x_W G mX6_readCost (x_Z G (d + 7) 0 0 ad0 nb0 Qn x_noX) (cset (rset B ρ i er ea sv nm ty hv) J bf K tk ts tl tv su D) 0 0 58 [some (.ref (ρ 0))] [] := by
  refine X_ld rfl rfl rfl rfl ?_
  refine X_push (v := .int 59) rfl (by decide +kernel) ?_
  refine X_vcallv (c_B (hρ.o 0 (by decide)) rs_r) l_X6_X6_expectByte (p_expectByteX hG hK hρ d her hek (s := 59) (by decide)) rfl rfl rfl rfl (Nat.le_of_ble_eq_true rfl) (Nat.le_of_ble_eq_true rfl) (by omega) (by omega) (by omega) ?_
  exact X_vret rfl rfl (kk _ _ ⟨sv, rfl, rfl, rfl⟩) (Nat.le_of_ble_eq_true rfl) (Nat.le_of_ble_eq_true rfl)
theorem w_c45X {G : XE} (hG : x_Kn G) (hK : x_KS G) {B : XH} {J bf K tk ts : Nat → Int32} {tl : Int64} {tv : Nat → Int64} {su : Nat → Nat} {D : Nat → Nat → Int32} {ρ : Nat → Nat} (hρ : y_ds ρ B) {i : Nat} {er ea : Int32} {sv ty hv : Nat → Int32} {nm : Nat → Int64} (d : Nat) (her : ¬ er = 0) (hek : z_er K) {nb0 : Nat} {ad0 : Nat → Nat} {Qn : XH → Option Value → Prop} (kk : ∀ N rr, (∃ sv2, sv2 0 = sv 0 ∧ N = cset (rset B ρ i er ea sv2 nm ty hv) J bf K tk ts tl tv su D ∧ rr = none) → Qn N rr) : x_W G mX6_readCost (x_Z G (d + 7) 0 0 ad0 nb0 Qn x_noX) (cset (rset B ρ i er ea sv nm ty hv) J bf K tk ts tl tv su D) 0 0 45 [some (.ref (ρ 0))] [] := by
  refine X_ld rfl rfl rfl rfl ?_
  refine X_get f_X6_12 rfl (c_B (hρ.o 0 (by decide)) rs_r) rfl ?_
  refine X_ld rfl rfl rfl rfl ?_
  refine X_push (v := .int 99) rfl (by decide +kernel) ?_
  refine X_vcall (c_B (hρ.o 0 (by decide)) rs_r) l_X6_X6_takeNumber (p_takeNumberX hG hK hρ d her hek) rfl rfl rfl rfl (Nat.le_of_ble_eq_true rfl) (Nat.le_of_ble_eq_true rfl) (by omega) (by omega) (by omega) ?_
  refine X_put f_X6_203 rfl (c_B (hρ.o 1 (by decide)) (rs_st hρ)) ⟨rfl, rfl⟩ ?_
  refine X_heap (by rw [y_set (hρ.o 1 (by decide)), w_sV hρ stV_upd6]) ?_
  exact w_c58X hG hK hρ d her hek (fun N rr h => by obtain ⟨sv2, h1, rfl, rfl⟩ := h; exact kk _ _ ⟨sv2, h1.trans (updI_ne (by decide)), rfl, rfl⟩)
theorem w_c32X {G : XE} (hG : x_Kn G) (hK : x_KS G) {B : XH} {J bf K tk ts : Nat → Int32} {tl : Int64} {tv : Nat → Int64} {su : Nat → Nat} {D : Nat → Nat → Int32} {ρ : Nat → Nat} (hρ : y_ds ρ B) {i : Nat} {er ea : Int32} {sv ty hv : Nat → Int32} {nm : Nat → Int64} (d : Nat) (her : ¬ er = 0) (hek : z_er K) {nb0 : Nat} {ad0 : Nat → Nat} {Qn : XH → Option Value → Prop} (kk : ∀ N rr, (∃ sv2, sv2 0 = sv 0 ∧ N = cset (rset B ρ i er ea sv2 nm ty hv) J bf K tk ts tl tv su D ∧ rr = none) → Qn N rr) : x_W G mX6_readCost (x_Z G (d + 7) 0 0 ad0 nb0 Qn x_noX) (cset (rset B ρ i er ea sv nm ty hv) J bf K tk ts tl tv su D) 0 0 32 [some (.ref (ρ 0))] [] := by
  refine X_ld rfl rfl rfl rfl ?_
  refine X_get f_X6_12 rfl (c_B (hρ.o 0 (by decide)) rs_r) rfl ?_
  refine X_ld rfl rfl rfl rfl ?_
  refine X_push (v := .int 99) rfl (by decide +kernel) ?_
  refine X_vcall (c_B (hρ.o 0 (by decide)) rs_r) l_X6_X6_takeNumber (p_takeNumberX hG hK hρ d her hek) rfl rfl rfl rfl (Nat.le_of_ble_eq_true rfl) (Nat.le_of_ble_eq_true rfl) (by omega) (by omega) (by omega) ?_
  refine X_put f_X6_200 rfl (c_B (hρ.o 1 (by decide)) (rs_st hρ)) ⟨rfl, rfl⟩ ?_
  refine X_heap (by rw [y_set (hρ.o 1 (by decide)), w_sV hρ stV_upd5]) ?_
  exact w_c45X hG hK hρ d her hek (fun N rr h => by obtain ⟨sv2, h1, rfl, rfl⟩ := h; exact kk _ _ ⟨sv2, h1.trans (updI_ne (by decide)), rfl, rfl⟩)
theorem w_t32X {G : XE} (hG : x_Kn G) (hK : x_KS G) {B : XH} {J bf K tk ts : Nat → Int32} {tl : Int64} {tv : Nat → Int64} {su : Nat → Nat} {D : Nat → Nat → Int32} {ρ : Nat → Nat} (hρ : y_ds ρ B) {i : Nat} {er ea : Int32} {sv ty hv : Nat → Int32} {nm : Nat → Int64} (d : Nat) (her : ¬ er = 0) (hek : z_er K) {nb0 : Nat} {ad0 : Nat → Nat} {Qn : XH → Option Value → Prop} (kk : ∀ N rr, (∃ sv2, sv2 0 = sv 0 ∧ N = cset (rset B ρ i er ea sv2 nm ty hv) J bf K tk ts tl tv su D ∧ rr = none) → Qn N rr) : x_W G mX6_readTries (x_Z G (d + 7) 0 0 ad0 nb0 Qn x_noX) (cset (rset B ρ i er ea sv nm ty hv) J bf K tk ts tl tv su D) 0 0 32 [some (.ref (ρ 0))] [] := by
  refine X_ld rfl rfl rfl rfl ?_
  refine X_push (v := .int 59) rfl (by decide +kernel) ?_
  refine X_vcallv (c_B (hρ.o 0 (by decide)) rs_r) l_X6_X6_expectByte (p_expectByteX hG hK hρ d her hek (s := 59) (by decide)) rfl rfl rfl rfl (Nat.le_of_ble_eq_true rfl) (Nat.le_of_ble_eq_true rfl) (by omega) (by omega) (by omega) ?_
  exact X_vret rfl rfl (kk _ _ ⟨sv, rfl, rfl, rfl⟩) (Nat.le_of_ble_eq_true rfl) (Nat.le_of_ble_eq_true rfl)
theorem p_readCost {G : XE} (hG : x_Kn G) (hK : x_KS G) {B : XH} {J bf K tk ts : Nat → Int32} {tl : Int64} {tv : Nat → Int64} {su : Nat → Nat} {D : Nat → Nat → Int32} {ρ : Nat → Nat} (hρ : y_ds ρ B) {i : Nat} {ea : Int32} {sv ty hv : Nat → Int32} {nm : Nat → Int64} (d : Nat) {tx : Nat → Int32} {n c p : Nat} (hr : s_rtx tx bf n) (hn8 : n ≤ 800) (hsp : z_split bf tx n tk ts tv c) (hat : z_at tx bf n c K tl p) {rd : Nat → Int32} (hs4 : ∀ k, 4 ≤ k → k ≤ 7 → sv k = rd k) : x_M G mX6_readCost (d + 7) 0 0 [.ref (ρ 0)] (cset (rset B ρ i 0 ea sv nm ty hv) J bf K tk ts tl tv su D) (x_QV tx bf n c (fun er ea K tl sv => cset (rset B ρ i er ea sv nm ty hv) J bf K tk ts tl tv su D) ea sv (if l_isw tx n p (x_w 11) = true then l_costLine tx n (l_tk tx n p (x_w 11)) rd else .inr (l_sk tx n p, rd))) x_noX := by
  refine X_M hG okX6_readCost rfl (L := [some (.ref (ρ 0))]) rfl (Nat.le_of_ble_eq_true rfl) (fun ad0 nb0 => ?_)
  obtain ⟨hp, j0, hj0, hz, h3, h4, h5, h6, htl⟩ := id hat
  generalize hR : (if l_isw tx n p (x_w 11) = true then l_costLine tx n (l_tk tx n p (x_w 11)) rd else .inr (l_sk tx n p, rd) : LR) = R
  refine X_ld rfl rfl rfl rfl ?_
  refine X_get f_X6_26 rfl (c_B (hρ.o 0 (by decide)) rs_r) rfl ?_
  refine X_ldcS (i := 24) hK (List.mem_of_getElem? (i := 24) rfl) (by decide) rfl ?_
  refine X_vcall c_T l_X6_X8_isWord (p_isWord hG hK d 24 (by decide)) rfl rfl rfl rfl (Nat.le_of_ble_eq_true rfl) (Nat.le_of_ble_eq_true rfl) (by omega) (by omega) (by omega) ?_
  refine X_if_eq rfl (fun c9 => ?_) (fun c9 => ?_)
  · have hn : ¬ l_isw tx n p (x_w 11) = true := fun q => bI_ne.mpr ⟨h5.trans ((z_word hr hp 24 (by decide) (by decide) (by decide) (by decide)).mpr q).1, htl.trans ((z_word hr hp 24 (by decide) (by decide) (by decide) (by decide)).mpr q).2⟩ c9
    rw [if_neg hn] at hR
    rw [← hR]
    exact X_vret rfl rfl ⟨K, tl, sv, z_at_sk hat, rfl, hs4, rfl, rfl⟩ (Nat.le_of_ble_eq_true rfl) (Nat.le_of_ble_eq_true rfl)
  · have hb := bI_ne.mp c9
    have hisw : l_isw tx n p (x_w 11) = true := (z_word hr hp 24 (by decide) (by decide) (by decide) (by decide)).mp ⟨h5.symm.trans hb.1, htl.symm.trans hb.2⟩
    have hwe : l_we tx n p = l_sk tx n p + (x_w 11).length := l_isw_we hisw
    have hwl := l_we_le (tx := tx) hp
    have hq : l_sk tx n p < n := by have := ((z_isw hp 11).mp hisw).2.1; omega
    have hp1n : l_tk tx n p (x_w 11) ≤ n := (l_tk_le hp).2
    rw [if_pos hisw] at hR
    unfold l_costLine at hR
    refine X_ld rfl rfl rfl rfl ?_
    refine X_get f_X6_26 rfl (c_B (hρ.o 0 (by decide)) rs_r) rfl ?_
    refine X_vcallv c_T l_X6_X8_advance (p_advance hG (d + 3) h3 h4 (by have := hsp.1.2; omega) (by have := hsp.1.2; omega)) rfl rfl rfl rfl (Nat.le_of_ble_eq_true rfl) (Nat.le_of_ble_eq_true rfl) (by omega) (by omega) (by omega) ?_
    have hA := z_adv (tk := tk) (ts := ts) (tv := tv) (tl := tl) hsp hp hj0 hz h3 hq
    rw [z_wte hp 11 hisw] at hA
    clear htl
    generalize y_adK K tk ts c (j0 + 1) = K1 at hA ⊢
    generalize y_adl tl tv c (j0 + 1) = tl1 at hA ⊢
    generalize l_tk tx n p (x_w 11) = p1 at hA hR hp1n
    obtain ⟨-, j1, hj1, hz1, k3, k4, k5, k6, ktl⟩ := id hA
    refine X_ld rfl rfl rfl rfl ?_
    refine X_get f_X6_12 rfl (c_B (hρ.o 0 (by decide)) rs_r) rfl ?_
    refine X_ld rfl rfl rfl rfl ?_
    refine X_push (v := .int 99) rfl (by decide +kernel) ?_
    refine X_vcallP (c_B (hρ.o 0 (by decide)) rs_r) l_X6_X6_takeNumber (p_takeNumber hG hK hρ d hr hn8 hsp hA (M := 99) (by decide)) rfl rfl rfl rfl (Nat.le_of_ble_eq_true rfl) (Nat.le_of_ble_eq_true rfl) (by omega) (by omega) (by omega) (fun N1 r hq9 => ?_)
    cases hN0 : l_reads tx n p1 (nI 99) with
    | inl e9 =>
      obtain ⟨e9, a9⟩ := e9
      rw [hN0] at hq9
      obtain ⟨he9, K2, tl2, hek, rfl, rfl⟩ := hq9
      have hE : R = .inl (e9, a9) := hR.symm.trans (l_bi_er hN0)
      refine X_stk (st' := [.int 0, .ref (ρ 1)]) rfl ?_
      refine X_put f_X6_197 rfl (c_B (hρ.o 1 (by decide)) (rs_st hρ)) ⟨rfl, rfl⟩ ?_
      refine X_heap (by rw [y_set (hρ.o 1 (by decide)), w_sV hρ stV_upd4]) ?_
      refine w_c32X hG hK hρ d he9 hek (fun N rr h => ?_)
      obtain ⟨sv2, h1, rfl, rfl⟩ := h
      rw [hE]
      exact ⟨he9, K2, tl2, sv2, hek, h1.trans ((updI_ne (by decide))), rfl, rfl⟩
    | inr x9 =>
      obtain ⟨q0, v0⟩ := x9
      rw [hN0] at hq9
      obtain ⟨Kb0, tlb0, hat0, rfl, rfl⟩ := hq9
      obtain ⟨hq0, -, -⟩ := l_reads_ok hN0 hp1n
      rw [l_bi_ok (show l_reads tx n p1 99 = .inr (q0, v0) from hN0)] at hR
      refine X_stk (st' := [.int v0, .ref (ρ 1)]) rfl ?_
      refine X_put f_X6_197 rfl (c_B (hρ.o 1 (by decide)) (rs_st hρ)) ⟨rfl, rfl⟩ ?_
      refine X_heap (by rw [y_set (hρ.o 1 (by decide)), w_sV hρ stV_upd4]) ?_
      refine X_ld rfl rfl rfl rfl ?_
      refine X_get f_X6_12 rfl (c_B (hρ.o 0 (by decide)) rs_r) rfl ?_
      refine X_ld rfl rfl rfl rfl ?_
      refine X_push (v := .int 99) rfl (by decide +kernel) ?_
      refine X_vcallP (c_B (hρ.o 0 (by decide)) rs_r) l_X6_X6_takeNumber (p_takeNumber hG hK hρ d hr hn8 hsp hat0 (M := 99) (by decide)) rfl rfl rfl rfl (Nat.le_of_ble_eq_true rfl) (Nat.le_of_ble_eq_true rfl) (by omega) (by omega) (by omega) (fun N1 r hq9 => ?_)
      cases hN1 : l_reads tx n q0 (nI 99) with
      | inl e9 =>
        obtain ⟨e9, a9⟩ := e9
        rw [hN1] at hq9
        obtain ⟨he9, K2, tl2, hek, rfl, rfl⟩ := hq9
        have hE : R = .inl (e9, a9) := hR.symm.trans (l_bi_er hN1)
        refine X_stk (st' := [.int 0, .ref (ρ 1)]) rfl ?_
        refine X_put f_X6_200 rfl (c_B (hρ.o 1 (by decide)) (rs_st hρ)) ⟨rfl, rfl⟩ ?_
        refine X_heap (by rw [y_set (hρ.o 1 (by decide)), w_sV hρ stV_upd5]) ?_
        refine w_c45X hG hK hρ d he9 hek (fun N rr h => ?_)
        obtain ⟨sv2, h1, rfl, rfl⟩ := h
        rw [hE]
        exact ⟨he9, K2, tl2, sv2, hek, h1.trans ((updI_ne (by decide)).trans (updI_ne (by decide))), rfl, rfl⟩
      | inr x9 =>
        obtain ⟨q1, v1⟩ := x9
        rw [hN1] at hq9
        obtain ⟨Kb1, tlb1, hat1, rfl, rfl⟩ := hq9
        obtain ⟨hq1, -, -⟩ := l_reads_ok hN1 hq0.2
        rw [l_bi_ok (show l_reads tx n q0 99 = .inr (q1, v1) from hN1)] at hR
        refine X_stk (st' := [.int v1, .ref (ρ 1)]) rfl ?_
        refine X_put f_X6_200 rfl (c_B (hρ.o 1 (by decide)) (rs_st hρ)) ⟨rfl, rfl⟩ ?_
        refine X_heap (by rw [y_set (hρ.o 1 (by decide)), w_sV hρ stV_upd5]) ?_
        refine X_ld rfl rfl rfl rfl ?_
        refine X_get f_X6_12 rfl (c_B (hρ.o 0 (by decide)) rs_r) rfl ?_
        refine X_ld rfl rfl rfl rfl ?_
        refine X_push (v := .int 99) rfl (by decide +kernel) ?_
        refine X_vcallP (c_B (hρ.o 0 (by decide)) rs_r) l_X6_X6_takeNumber (p_takeNumber hG hK hρ d hr hn8 hsp hat1 (M := 99) (by decide)) rfl rfl rfl rfl (Nat.le_of_ble_eq_true rfl) (Nat.le_of_ble_eq_true rfl) (by omega) (by omega) (by omega) (fun N1 r hq9 => ?_)
        cases hN2 : l_reads tx n q1 (nI 99) with
        | inl e9 =>
          obtain ⟨e9, a9⟩ := e9
          rw [hN2] at hq9
          obtain ⟨he9, K2, tl2, hek, rfl, rfl⟩ := hq9
          have hE : R = .inl (e9, a9) := hR.symm.trans (l_bi_er hN2)
          refine X_stk (st' := [.int 0, .ref (ρ 1)]) rfl ?_
          refine X_put f_X6_203 rfl (c_B (hρ.o 1 (by decide)) (rs_st hρ)) ⟨rfl, rfl⟩ ?_
          refine X_heap (by rw [y_set (hρ.o 1 (by decide)), w_sV hρ stV_upd6]) ?_
          refine w_c58X hG hK hρ d he9 hek (fun N rr h => ?_)
          obtain ⟨sv2, h1, rfl, rfl⟩ := h
          rw [hE]
          exact ⟨he9, K2, tl2, sv2, hek, h1.trans ((updI_ne (by decide)).trans ((updI_ne (by decide)).trans (updI_ne (by decide)))), rfl, rfl⟩
        | inr x9 =>
          obtain ⟨q2, v2⟩ := x9
          rw [hN2] at hq9
          obtain ⟨Kb2, tlb2, hat2, rfl, rfl⟩ := hq9
          obtain ⟨hq2, -, -⟩ := l_reads_ok hN2 hq1.2
          rw [l_bi_ok (show l_reads tx n q1 99 = .inr (q2, v2) from hN2)] at hR
          refine X_stk (st' := [.int v2, .ref (ρ 1)]) rfl ?_
          refine X_put f_X6_203 rfl (c_B (hρ.o 1 (by decide)) (rs_st hρ)) ⟨rfl, rfl⟩ ?_
          refine X_heap (by rw [y_set (hρ.o 1 (by decide)), w_sV hρ stV_upd6]) ?_
          change l_want tx n 59 q2 (upd (upd (upd rd 4 v0) 5 v1) 6 v2) = R at hR
          unfold l_want at hR
          refine X_ld rfl rfl rfl rfl ?_
          refine X_push (v := .int 59) rfl (by decide +kernel) ?_
          refine X_vcallP (c_B (hρ.o 0 (by decide)) rs_r) l_X6_X6_expectByte (p_expectByte hG hK hρ d hr hn8 hsp hat2 (s := 59) (by decide) (by decide) (by decide)) rfl rfl rfl rfl (Nat.le_of_ble_eq_true rfl) (Nat.le_of_ble_eq_true rfl) (by omega) (by omega) (by omega) (fun N1 r hq => ?_)
          by_cases h59 : l_see tx n q2 = 59
          · rw [show y_wb tx n (nI 59) q2 = _ from if_pos h59] at hq
            obtain ⟨K4, tl4, hat4, rfl, rfl⟩ := hq
            rw [if_pos h59] at hR
            refine X_stk (st' := []) rfl ?_
            rw [← hR]
            exact X_vret rfl rfl ⟨K4, tl4, upd (upd (upd sv 4 v0) 5 v1) 6 v2, hat4, rfl, fun k h1 h2 => y_updc (y_updc (y_updc (hs4 k h1 h2))), rfl, rfl⟩ (Nat.le_of_ble_eq_true rfl) (Nat.le_of_ble_eq_true rfl)
          · rw [show y_wb tx n (nI 59) q2 = _ from if_neg h59] at hq
            obtain ⟨hx9, K4, tl4, hek, rfl, rfl⟩ := hq
            rw [if_neg h59] at hR
            refine X_stk (st' := []) rfl ?_
            rw [← hR]
            exact X_vret rfl rfl ⟨hx9, K4, tl4, upd (upd (upd sv 4 v0) 5 v1) 6 v2, hek, rfl, rfl, rfl⟩ (Nat.le_of_ble_eq_true rfl) (Nat.le_of_ble_eq_true rfl)
theorem p_readCostX {G : XE} (hG : x_Kn G) (hK : x_KS G) {B : XH} {J bf K tk ts : Nat → Int32} {tl : Int64} {tv : Nat → Int64} {su : Nat → Nat} {D : Nat → Nat → Int32} {ρ : Nat → Nat} (hρ : y_ds ρ B) {i : Nat} {er ea : Int32} {sv ty hv : Nat → Int32} {nm : Nat → Int64} (d : Nat) (her : ¬ er = 0) (hek : z_er K) : x_M G mX6_readCost (d + 7) 0 0 [.ref (ρ 0)] (cset (rset B ρ i er ea sv nm ty hv) J bf K tk ts tl tv su D) (x_RetV (cset (rset B ρ i er ea sv nm ty hv) J bf K tk ts tl tv su D)) x_noX := by
  refine X_M hG okX6_readCost rfl (L := [some (.ref (ρ 0))]) rfl (Nat.le_of_ble_eq_true rfl) (fun ad0 nb0 => ?_)
  obtain ⟨h3, h5, j, hj8, h4⟩ := id hek
  refine X_ld rfl rfl rfl rfl ?_
  refine X_get f_X6_26 rfl (c_B (hρ.o 0 (by decide)) rs_r) rfl ?_
  refine X_ldcS (i := 24) hK (List.mem_of_getElem? (i := 24) rfl) (by decide) rfl ?_
  refine X_vcall c_T l_X6_X8_isWord (p_isWord hG hK d 24 (by decide)) rfl rfl rfl rfl (Nat.le_of_ble_eq_true rfl) (Nat.le_of_ble_eq_true rfl) (by omega) (by omega) (by omega) ?_
  refine X_if_eq rfl (fun c9 => ?_) (fun c9 => absurd ((bI_ne.mp c9).1.symm.trans h5) (by decide))
  exact X_vret rfl rfl ⟨rfl, rfl⟩ (Nat.le_of_ble_eq_true rfl) (Nat.le_of_ble_eq_true rfl)
theorem p_readTries {G : XE} (hG : x_Kn G) (hK : x_KS G) {B : XH} {J bf K tk ts : Nat → Int32} {tl : Int64} {tv : Nat → Int64} {su : Nat → Nat} {D : Nat → Nat → Int32} {ρ : Nat → Nat} (hρ : y_ds ρ B) {i : Nat} {ea : Int32} {sv ty hv : Nat → Int32} {nm : Nat → Int64} (d : Nat) {tx : Nat → Int32} {n c p : Nat} (hr : s_rtx tx bf n) (hn8 : n ≤ 800) (hsp : z_split bf tx n tk ts tv c) (hat : z_at tx bf n c K tl p) {rd : Nat → Int32} (hs4 : ∀ k, 4 ≤ k → k ≤ 7 → sv k = rd k) : x_M G mX6_readTries (d + 7) 0 0 [.ref (ρ 0)] (cset (rset B ρ i 0 ea sv nm ty hv) J bf K tk ts tl tv su D) (x_QV tx bf n c (fun er ea K tl sv => cset (rset B ρ i er ea sv nm ty hv) J bf K tk ts tl tv su D) ea sv (if l_isw tx n p (x_w 12) = true then l_triesLine tx n (l_tk tx n p (x_w 12)) rd else .inr (l_sk tx n p, rd))) x_noX := by
  refine X_M hG okX6_readTries rfl (L := [some (.ref (ρ 0))]) rfl (Nat.le_of_ble_eq_true rfl) (fun ad0 nb0 => ?_)
  obtain ⟨hp, j0, hj0, hz, h3, h4, h5, h6, htl⟩ := id hat
  generalize hR : (if l_isw tx n p (x_w 12) = true then l_triesLine tx n (l_tk tx n p (x_w 12)) rd else .inr (l_sk tx n p, rd) : LR) = R
  refine X_ld rfl rfl rfl rfl ?_
  refine X_get f_X6_26 rfl (c_B (hρ.o 0 (by decide)) rs_r) rfl ?_
  refine X_ldcS (i := 25) hK (List.mem_of_getElem? (i := 25) rfl) (by decide) rfl ?_
  refine X_vcall c_T l_X6_X8_isWord (p_isWord hG hK d 25 (by decide)) rfl rfl rfl rfl (Nat.le_of_ble_eq_true rfl) (Nat.le_of_ble_eq_true rfl) (by omega) (by omega) (by omega) ?_
  refine X_if_eq rfl (fun c9 => ?_) (fun c9 => ?_)
  · have hn : ¬ l_isw tx n p (x_w 12) = true := fun q => bI_ne.mpr ⟨h5.trans ((z_word hr hp 25 (by decide) (by decide) (by decide) (by decide)).mpr q).1, htl.trans ((z_word hr hp 25 (by decide) (by decide) (by decide) (by decide)).mpr q).2⟩ c9
    rw [if_neg hn] at hR
    rw [← hR]
    exact X_vret rfl rfl ⟨K, tl, sv, z_at_sk hat, rfl, hs4, rfl, rfl⟩ (Nat.le_of_ble_eq_true rfl) (Nat.le_of_ble_eq_true rfl)
  · have hb := bI_ne.mp c9
    have hisw : l_isw tx n p (x_w 12) = true := (z_word hr hp 25 (by decide) (by decide) (by decide) (by decide)).mp ⟨h5.symm.trans hb.1, htl.symm.trans hb.2⟩
    have hwe : l_we tx n p = l_sk tx n p + (x_w 12).length := l_isw_we hisw
    have hwl := l_we_le (tx := tx) hp
    have hq : l_sk tx n p < n := by have := ((z_isw hp 12).mp hisw).2.1; omega
    have hp1n : l_tk tx n p (x_w 12) ≤ n := (l_tk_le hp).2
    rw [if_pos hisw] at hR
    unfold l_triesLine at hR
    refine X_ld rfl rfl rfl rfl ?_
    refine X_get f_X6_26 rfl (c_B (hρ.o 0 (by decide)) rs_r) rfl ?_
    refine X_vcallv c_T l_X6_X8_advance (p_advance hG (d + 3) h3 h4 (by have := hsp.1.2; omega) (by have := hsp.1.2; omega)) rfl rfl rfl rfl (Nat.le_of_ble_eq_true rfl) (Nat.le_of_ble_eq_true rfl) (by omega) (by omega) (by omega) ?_
    have hA := z_adv (tk := tk) (ts := ts) (tv := tv) (tl := tl) hsp hp hj0 hz h3 hq
    rw [z_wte hp 12 hisw] at hA
    clear htl
    generalize y_adK K tk ts c (j0 + 1) = K1 at hA ⊢
    generalize y_adl tl tv c (j0 + 1) = tl1 at hA ⊢
    generalize l_tk tx n p (x_w 12) = p1 at hA hR hp1n
    obtain ⟨-, j1, hj1, hz1, k3, k4, k5, k6, ktl⟩ := id hA
    refine X_ld rfl rfl rfl rfl ?_
    refine X_get f_X6_12 rfl (c_B (hρ.o 0 (by decide)) rs_r) rfl ?_
    refine X_ld rfl rfl rfl rfl ?_
    refine X_push (v := .int 99) rfl (by decide +kernel) ?_
    refine X_vcallP (c_B (hρ.o 0 (by decide)) rs_r) l_X6_X6_takeNumber (p_takeNumber hG hK hρ d hr hn8 hsp hA (M := 99) (by decide)) rfl rfl rfl rfl (Nat.le_of_ble_eq_true rfl) (Nat.le_of_ble_eq_true rfl) (by omega) (by omega) (by omega) (fun N1 r hq9 => ?_)
    cases hN0 : l_reads tx n p1 (nI 99) with
    | inl e9 =>
      obtain ⟨e9, a9⟩ := e9
      rw [hN0] at hq9
      obtain ⟨he9, K2, tl2, hek, rfl, rfl⟩ := hq9
      have hE : R = .inl (e9, a9) := hR.symm.trans (l_bi_er hN0)
      refine X_stk (st' := [.int 0, .ref (ρ 1)]) rfl ?_
      refine X_put f_X6_208 rfl (c_B (hρ.o 1 (by decide)) (rs_st hρ)) ⟨rfl, rfl⟩ ?_
      refine X_recell (n := 8) rfl stV_upd7 ?_
      refine X_heap (by rw [y_set (hρ.o 1 (by decide)), w_sV hρ rfl]) ?_
      refine w_t32X hG hK hρ d he9 hek (fun N rr h => ?_)
      obtain ⟨sv2, h1, rfl, rfl⟩ := h
      rw [hE]
      exact ⟨he9, K2, tl2, sv2, hek, h1.trans ((updI_ne (by decide))), rfl, rfl⟩
    | inr x9 =>
      obtain ⟨q0, v0⟩ := x9
      rw [hN0] at hq9
      obtain ⟨Kb0, tlb0, hat0, rfl, rfl⟩ := hq9
      obtain ⟨hq0, -, -⟩ := l_reads_ok hN0 hp1n
      rw [l_bi_ok (show l_reads tx n p1 99 = .inr (q0, v0) from hN0)] at hR
      refine X_stk (st' := [.int v0, .ref (ρ 1)]) rfl ?_
      refine X_put f_X6_208 rfl (c_B (hρ.o 1 (by decide)) (rs_st hρ)) ⟨rfl, rfl⟩ ?_
      refine X_recell (n := 8) rfl stV_upd7 ?_
      refine X_heap (by rw [y_set (hρ.o 1 (by decide)), w_sV hρ rfl]) ?_
      change l_want tx n 59 q0 (upd rd 7 v0) = R at hR
      unfold l_want at hR
      refine X_ld rfl rfl rfl rfl ?_
      refine X_push (v := .int 59) rfl (by decide +kernel) ?_
      refine X_vcallP (c_B (hρ.o 0 (by decide)) rs_r) l_X6_X6_expectByte (p_expectByte hG hK hρ d hr hn8 hsp hat0 (s := 59) (by decide) (by decide) (by decide)) rfl rfl rfl rfl (Nat.le_of_ble_eq_true rfl) (Nat.le_of_ble_eq_true rfl) (by omega) (by omega) (by omega) (fun N1 r hq => ?_)
      by_cases h59 : l_see tx n q0 = 59
      · rw [show y_wb tx n (nI 59) q0 = _ from if_pos h59] at hq
        obtain ⟨K4, tl4, hat4, rfl, rfl⟩ := hq
        rw [if_pos h59] at hR
        refine X_stk (st' := []) rfl ?_
        rw [← hR]
        exact X_vret rfl rfl ⟨K4, tl4, upd sv 7 v0, hat4, rfl, fun k h1 h2 => y_updc (hs4 k h1 h2), rfl, rfl⟩ (Nat.le_of_ble_eq_true rfl) (Nat.le_of_ble_eq_true rfl)
      · rw [show y_wb tx n (nI 59) q0 = _ from if_neg h59] at hq
        obtain ⟨hx9, K4, tl4, hek, rfl, rfl⟩ := hq
        rw [if_neg h59] at hR
        refine X_stk (st' := []) rfl ?_
        rw [← hR]
        exact X_vret rfl rfl ⟨hx9, K4, tl4, upd sv 7 v0, hek, rfl, rfl, rfl⟩ (Nat.le_of_ble_eq_true rfl) (Nat.le_of_ble_eq_true rfl)
theorem p_readTriesX {G : XE} (hG : x_Kn G) (hK : x_KS G) {B : XH} {J bf K tk ts : Nat → Int32} {tl : Int64} {tv : Nat → Int64} {su : Nat → Nat} {D : Nat → Nat → Int32} {ρ : Nat → Nat} (hρ : y_ds ρ B) {i : Nat} {er ea : Int32} {sv ty hv : Nat → Int32} {nm : Nat → Int64} (d : Nat) (her : ¬ er = 0) (hek : z_er K) : x_M G mX6_readTries (d + 7) 0 0 [.ref (ρ 0)] (cset (rset B ρ i er ea sv nm ty hv) J bf K tk ts tl tv su D) (x_RetV (cset (rset B ρ i er ea sv nm ty hv) J bf K tk ts tl tv su D)) x_noX := by
  refine X_M hG okX6_readTries rfl (L := [some (.ref (ρ 0))]) rfl (Nat.le_of_ble_eq_true rfl) (fun ad0 nb0 => ?_)
  obtain ⟨h3, h5, j, hj8, h4⟩ := id hek
  refine X_ld rfl rfl rfl rfl ?_
  refine X_get f_X6_26 rfl (c_B (hρ.o 0 (by decide)) rs_r) rfl ?_
  refine X_ldcS (i := 25) hK (List.mem_of_getElem? (i := 25) rfl) (by decide) rfl ?_
  refine X_vcall c_T l_X6_X8_isWord (p_isWord hG hK d 25 (by decide)) rfl rfl rfl rfl (Nat.le_of_ble_eq_true rfl) (Nat.le_of_ble_eq_true rfl) (by omega) (by omega) (by omega) ?_
  refine X_if_eq rfl (fun c9 => ?_) (fun c9 => absurd ((bI_ne.mp c9).1.symm.trans h5) (by decide))
  exact X_vret rfl rfl ⟨rfl, rfl⟩ (Nat.le_of_ble_eq_true rfl) (Nat.le_of_ble_eq_true rfl)

