/-! ===== the class's reader: the text's end, and the end in an error ===== -/
theorem w_rsE156 {G : XE} (hG : x_Kn G) (hK : x_KS G) {B : XH} {J bf K tk ts : Nat → Int32} {tl : Int64} {tv : Nat → Int64} {su : Nat → Nat} {D : Nat → Nat → Int32} {ρ : Nat → Nat} (hρ : y_ds ρ B) {i : Nat} {er ea : Int32} {sv ty hv : Nat → Int32} {nm : Nat → Int64} (d : Nat) (her : ¬ er = 0) (hek : z_er K) {x : Int32} {m q9 : Nat} {dd : Nat → Int32} (hi : i < 10) (hsu : su i = ρ 1) (hsv : sv 0 = nI m) (hm5 : m ≤ 5) (hdq : dd 1 = nI q9) (hq40 : q9 ≤ 40) {mc ms nb0 cells slots : Nat} {ad0 : Nat → Nat} {Qn : XH → Option Value → Prop} (hc : cells ≤ mc) (hs : slots ≤ ms) (kk : ∀ dd2 : Nat → Int32, Qn (cset (rset B ρ i er ea sv nm ty hv) J bf K tk ts tl tv su (updR D i dd2)) none) : x_W G mX6_readSetup (x_Z G (d + 30) mc ms ad0 nb0 Qn x_noX) (cset (rset B ρ i er ea sv nm ty hv) J bf K tk ts tl tv su (updR D i dd)) cells slots 156 [some (.ref (ρ 0)), some (.int x)] [] := by
  obtain ⟨h3, h5, j, hj8, h4⟩ := id hek
  refine X_ld rfl rfl rfl rfl ?_
  refine X_get f_X6_26 rfl (c_B (hρ.o 0 (by decide)) rs_r) rfl ?_
  refine X_get f_X6_85 rfl c_T (v := .int 256) (congrArg Value.int h5) ?_
  refine X_push (v := .int 256) rfl (by decide +kernel) ?_
  refine X_icmp_eq rfl (fun c166 => ?_) (fun c166 => absurd rfl c166)
  refine X_ld rfl rfl rfl rfl ?_
  refine X_get f_X6_30 rfl (c_B (hρ.o 0 (by decide)) rs_r) rfl ?_
  refine X_vcallv (r_D hi updR_eq) l_X6_X3_takeStatistics (d_takeStatistics hG d i hi (c := dd) (by rw [hsu]; exact hρ.o 1 (by decide)) (by rw [hsu]; exact rs_st hρ) m hsv hm5 q9 hdq hq40) rfl rfl rfl rfl (Nat.le_of_ble_eq_true rfl) (Nat.le_of_ble_eq_true rfl) (by omega) (by omega) (by omega) ?_
  exact X_vret rfl rfl (kk _) (by omega) (by omega)
theorem w_rsE152 {G : XE} (hG : x_Kn G) (hK : x_KS G) {B : XH} {J bf K tk ts : Nat → Int32} {tl : Int64} {tv : Nat → Int64} {su : Nat → Nat} {D : Nat → Nat → Int32} {ρ : Nat → Nat} (hρ : y_ds ρ B) {i : Nat} {er ea : Int32} {sv ty hv : Nat → Int32} {nm : Nat → Int64} (d : Nat) (her : ¬ er = 0) (hek : z_er K) {x : Int32} {m q9 : Nat} {dd : Nat → Int32} (hi : i < 10) (hsu : su i = ρ 1) (hsv : sv 0 = nI m) (hm5 : m ≤ 5) (hdq : dd 1 = nI q9) (hq40 : q9 ≤ 40) {mc ms nb0 cells slots : Nat} {ad0 : Nat → Nat} {Qn : XH → Option Value → Prop} (hc : cells ≤ mc) (hs : slots ≤ ms) (kk : ∀ dd2 : Nat → Int32, Qn (cset (rset B ρ i er ea sv nm ty hv) J bf K tk ts tl tv su (updR D i dd2)) none) : x_W G mX6_readSetup (x_Z G (d + 30) mc ms ad0 nb0 Qn x_noX) (cset (rset B ρ i er ea sv nm ty hv) J bf K tk ts tl tv su (updR D i dd)) cells slots 152 [some (.ref (ρ 0)), some (.int x)] [] := by
  refine X_ld rfl rfl rfl rfl ?_
  refine X_vcallv (c_B (hρ.o 0 (by decide)) rs_r) l_X6_X6_readTries (p_readTriesX hG hK hρ d her hek) rfl rfl rfl rfl (Nat.le_of_ble_eq_true rfl) (Nat.le_of_ble_eq_true rfl) (by omega) (by omega) (by omega) ?_
  exact w_rsE156 hG hK hρ d her hek hi hsu hsv hm5 hdq hq40 hc hs kk
theorem w_rsE148 {G : XE} (hG : x_Kn G) (hK : x_KS G) {B : XH} {J bf K tk ts : Nat → Int32} {tl : Int64} {tv : Nat → Int64} {su : Nat → Nat} {D : Nat → Nat → Int32} {ρ : Nat → Nat} (hρ : y_ds ρ B) {i : Nat} {er ea : Int32} {sv ty hv : Nat → Int32} {nm : Nat → Int64} (d : Nat) (her : ¬ er = 0) (hek : z_er K) {x : Int32} {m q9 : Nat} {dd : Nat → Int32} (hi : i < 10) (hsu : su i = ρ 1) (hsv : sv 0 = nI m) (hm5 : m ≤ 5) (hdq : dd 1 = nI q9) (hq40 : q9 ≤ 40) {mc ms nb0 cells slots : Nat} {ad0 : Nat → Nat} {Qn : XH → Option Value → Prop} (hc : cells ≤ mc) (hs : slots ≤ ms) (kk : ∀ dd2 : Nat → Int32, Qn (cset (rset B ρ i er ea sv nm ty hv) J bf K tk ts tl tv su (updR D i dd2)) none) : x_W G mX6_readSetup (x_Z G (d + 30) mc ms ad0 nb0 Qn x_noX) (cset (rset B ρ i er ea sv nm ty hv) J bf K tk ts tl tv su (updR D i dd)) cells slots 148 [some (.ref (ρ 0)), some (.int x)] [] := by
  refine X_ld rfl rfl rfl rfl ?_
  refine X_vcallv (c_B (hρ.o 0 (by decide)) rs_r) l_X6_X6_readCost (p_readCostX hG hK hρ d her hek) rfl rfl rfl rfl (Nat.le_of_ble_eq_true rfl) (Nat.le_of_ble_eq_true rfl) (by omega) (by omega) (by omega) ?_
  exact w_rsE152 hG hK hρ d her hek hi hsu hsv hm5 hdq hq40 hc hs kk
theorem w_rsE120 {G : XE} (hG : x_Kn G) (hK : x_KS G) {B : XH} {J bf K tk ts : Nat → Int32} {tl : Int64} {tv : Nat → Int64} {su : Nat → Nat} {D : Nat → Nat → Int32} {ρ : Nat → Nat} (hρ : y_ds ρ B) {i : Nat} {er ea : Int32} {sv ty hv : Nat → Int32} {nm : Nat → Int64} (d : Nat) (her : ¬ er = 0) (hek : z_er K) {x : Int32} {m q9 : Nat} {dd : Nat → Int32} (hi : i < 10) (hsu : su i = ρ 1) (hsv : sv 0 = nI m) (hm5 : m ≤ 5) (hdq : dd 1 = nI q9) (hq40 : q9 ≤ 40) {mc ms nb0 cells slots : Nat} {ad0 : Nat → Nat} {Qn : XH → Option Value → Prop} (hc : cells ≤ mc) (hs : slots ≤ ms) (kk : ∀ dd2 : Nat → Int32, Qn (cset (rset B ρ i er ea sv nm ty hv) J bf K tk ts tl tv su (updR D i dd2)) none) : x_W G mX6_readSetup (x_Z G (d + 30) mc ms ad0 nb0 Qn x_noX) (cset (rset B ρ i er ea sv nm ty hv) J bf K tk ts tl tv su (updR D i dd)) cells slots 120 [some (.ref (ρ 0)), some (.int x)] [] := by
  obtain ⟨h3, h5, j, hj8, h4⟩ := id hek
  have fin : x_W G mX6_readSetup (x_Z G (d + 30) mc ms ad0 nb0 Qn x_noX) (cset (rset B ρ i er ea sv nm ty hv) J bf K tk ts tl tv su (updR D i dd)) cells slots 148 [some (.ref (ρ 0)), some (.int x)] [] := by
    exact w_rsE148 hG hK hρ d her hek hi hsu hsv hm5 hdq hq40 hc hs kk
  refine X_ld rfl rfl rfl rfl ?_
  refine X_push (v := .int 6) rfl (by decide +kernel) ?_
  refine X_icmp_gt rfl (fun _ => fin) (fun _ => ?_)
  refine X_ld rfl rfl rfl rfl ?_
  refine X_get f_X6_26 rfl (c_B (hρ.o 0 (by decide)) rs_r) rfl ?_
  refine X_ldcS (i := 23) hK (List.mem_of_getElem? (i := 23) rfl) (by decide) rfl ?_
  refine X_vcall c_T l_X6_X8_isWord (p_isWord hG hK d 23 (by decide)) rfl rfl rfl rfl (Nat.le_of_ble_eq_true rfl) (Nat.le_of_ble_eq_true rfl) (by omega) (by omega) (by omega) ?_
  refine X_if_eq rfl (fun c1 => fin) (fun c1 => absurd ((bI_ne.mp c1).1.symm.trans h5) (by decide))
theorem w_rsE90 {G : XE} (hG : x_Kn G) (hK : x_KS G) {B : XH} {J bf K tk ts : Nat → Int32} {tl : Int64} {tv : Nat → Int64} {su : Nat → Nat} {D : Nat → Nat → Int32} {ρ : Nat → Nat} (hρ : y_ds ρ B) {i : Nat} {er ea : Int32} {sv ty hv : Nat → Int32} {nm : Nat → Int64} (d : Nat) (her : ¬ er = 0) (hek : z_er K) {x : Int32} {m q9 : Nat} {dd : Nat → Int32} (hi : i < 10) (hsu : su i = ρ 1) (hsv : sv 0 = nI m) (hm5 : m ≤ 5) (hdq : dd 1 = nI q9) (hq40 : q9 ≤ 40) {mc ms nb0 cells slots : Nat} {ad0 : Nat → Nat} {Qn : XH → Option Value → Prop} (hc : cells ≤ mc) (hs : slots ≤ ms) (kk : ∀ dd2 : Nat → Int32, Qn (cset (rset B ρ i er ea sv nm ty hv) J bf K tk ts tl tv su (updR D i dd2)) none) : x_W G mX6_readSetup (x_Z G (d + 30) mc ms ad0 nb0 Qn x_noX) (cset (rset B ρ i er ea sv nm ty hv) J bf K tk ts tl tv su (updR D i dd)) cells slots 90 [some (.ref (ρ 0)), some (.int x)] [] := by
  obtain ⟨h3, h5, j, hj8, h4⟩ := id hek
  have fin : x_W G mX6_readSetup (x_Z G (d + 30) mc ms ad0 nb0 Qn x_noX) (cset (rset B ρ i er ea sv nm ty hv) J bf K tk ts tl tv su (updR D i dd)) cells slots 118 [some (.ref (ρ 0)), some (.int x)] [] := by
    refine X_push (v := .int 0) rfl (by decide +kernel) ?_
    refine X_st rfl rfl rfl ?_
    exact w_rsE120 hG hK hρ d her hek hi hsu hsv hm5 hdq hq40 hc hs kk
  refine X_ld rfl rfl rfl rfl ?_
  refine X_push (v := .int 40) rfl (by decide +kernel) ?_
  refine X_icmp_gt rfl (fun _ => fin) (fun _ => ?_)
  refine X_ld rfl rfl rfl rfl ?_
  refine X_get f_X6_26 rfl (c_B (hρ.o 0 (by decide)) rs_r) rfl ?_
  refine X_ldcS (i := 22) hK (List.mem_of_getElem? (i := 22) rfl) (by decide) rfl ?_
  refine X_vcall c_T l_X6_X8_isWord (p_isWord hG hK d 22 (by decide)) rfl rfl rfl rfl (Nat.le_of_ble_eq_true rfl) (Nat.le_of_ble_eq_true rfl) (by omega) (by omega) (by omega) ?_
  refine X_if_eq rfl (fun c1 => fin) (fun c1 => absurd ((bI_ne.mp c1).1.symm.trans h5) (by decide))
theorem w_rsE61 {G : XE} (hG : x_Kn G) (hK : x_KS G) {B : XH} {J bf K tk ts : Nat → Int32} {tl : Int64} {tv : Nat → Int64} {su : Nat → Nat} {D : Nat → Nat → Int32} {ρ : Nat → Nat} (hρ : y_ds ρ B) {i : Nat} {er ea : Int32} {sv ty hv : Nat → Int32} {nm : Nat → Int64} (d : Nat) (her : ¬ er = 0) (hek : z_er K) {x : Int32} {m q9 : Nat} {dd : Nat → Int32} (hi : i < 10) (hsu : su i = ρ 1) (hsv : sv 0 = nI m) (hm5 : m ≤ 5) (hdq : dd 1 = nI q9) (hq40 : q9 ≤ 40) {mc ms nb0 cells slots : Nat} {ad0 : Nat → Nat} {Qn : XH → Option Value → Prop} (hc : cells ≤ mc) (hs : slots ≤ ms) (kk : ∀ dd2 : Nat → Int32, Qn (cset (rset B ρ i er ea sv nm ty hv) J bf K tk ts tl tv su (updR D i dd2)) none) : x_W G mX6_readSetup (x_Z G (d + 30) mc ms ad0 nb0 Qn x_noX) (cset (rset B ρ i er ea sv nm ty hv) J bf K tk ts tl tv su (updR D i dd)) cells slots 61 [some (.ref (ρ 0)), some (.int x)] [] := by
  obtain ⟨h3, h5, j, hj8, h4⟩ := id hek
  have fin : x_W G mX6_readSetup (x_Z G (d + 30) mc ms ad0 nb0 Qn x_noX) (cset (rset B ρ i er ea sv nm ty hv) J bf K tk ts tl tv su (updR D i dd)) cells slots 88 [some (.ref (ρ 0)), some (.int x)] [] := by
    refine X_push (v := .int 0) rfl (by decide +kernel) ?_
    refine X_st rfl rfl rfl ?_
    exact w_rsE90 hG hK hρ d her hek hi hsu hsv hm5 hdq hq40 hc hs kk
  refine X_ld rfl rfl rfl rfl ?_
  refine X_push (v := .int 5) rfl (by decide +kernel) ?_
  refine X_icmp_gt rfl (fun _ => fin) (fun _ => ?_)
  refine X_ld rfl rfl rfl rfl ?_
  refine X_get f_X6_26 rfl (c_B (hρ.o 0 (by decide)) rs_r) rfl ?_
  refine X_ldcS (i := 21) hK (List.mem_of_getElem? (i := 21) rfl) (by decide) rfl ?_
  refine X_vcall c_T l_X6_X8_isWord (p_isWord hG hK d 21 (by decide)) rfl rfl rfl rfl (Nat.le_of_ble_eq_true rfl) (Nat.le_of_ble_eq_true rfl) (by omega) (by omega) (by omega) ?_
  refine X_if_eq rfl (fun c1 => fin) (fun c1 => absurd ((bI_ne.mp c1).1.symm.trans h5) (by decide))
theorem w_rsE32 {G : XE} (hG : x_Kn G) (hK : x_KS G) {B : XH} {J bf K tk ts : Nat → Int32} {tl : Int64} {tv : Nat → Int64} {su : Nat → Nat} {D : Nat → Nat → Int32} {ρ : Nat → Nat} (hρ : y_ds ρ B) {i : Nat} {er ea : Int32} {sv ty hv : Nat → Int32} {nm : Nat → Int64} (d : Nat) (her : ¬ er = 0) (hek : z_er K) {x : Int32} {m q9 : Nat} {dd : Nat → Int32} (hi : i < 10) (hsu : su i = ρ 1) (hsv : sv 0 = nI m) (hm5 : m ≤ 5) (hdq : dd 1 = nI q9) (hq40 : q9 ≤ 40) {mc ms nb0 cells slots : Nat} {ad0 : Nat → Nat} {Qn : XH → Option Value → Prop} (hc : cells ≤ mc) (hs : slots ≤ ms) (kk : ∀ dd2 : Nat → Int32, Qn (cset (rset B ρ i er ea sv nm ty hv) J bf K tk ts tl tv su (updR D i dd2)) none) : x_W G mX6_readSetup (x_Z G (d + 30) mc ms ad0 nb0 Qn x_noX) (cset (rset B ρ i er ea sv nm ty hv) J bf K tk ts tl tv su (updR D i dd)) cells slots 32 [some (.ref (ρ 0)), some (.int x)] [] := by
  obtain ⟨h3, h5, j, hj8, h4⟩ := id hek
  have fin : x_W G mX6_readSetup (x_Z G (d + 30) mc ms ad0 nb0 Qn x_noX) (cset (rset B ρ i er ea sv nm ty hv) J bf K tk ts tl tv su (updR D i dd)) cells slots 59 [some (.ref (ρ 0)), some (.int x)] [] := by
    refine X_push (v := .int 0) rfl (by decide +kernel) ?_
    refine X_st rfl rfl rfl ?_
    exact w_rsE61 hG hK hρ d her hek hi hsu hsv hm5 hdq hq40 hc hs kk
  refine X_ld rfl rfl rfl rfl ?_
  refine X_push (v := .int 5) rfl (by decide +kernel) ?_
  refine X_icmp_gt rfl (fun _ => fin) (fun _ => ?_)
  refine X_ld rfl rfl rfl rfl ?_
  refine X_get f_X6_26 rfl (c_B (hρ.o 0 (by decide)) rs_r) rfl ?_
  refine X_ldcS (i := 14) hK (List.mem_of_getElem? (i := 14) rfl) (by decide) rfl ?_
  refine X_vcall c_T l_X6_X8_isWord (p_isWord hG hK d 14 (by decide)) rfl rfl rfl rfl (Nat.le_of_ble_eq_true rfl) (Nat.le_of_ble_eq_true rfl) (by omega) (by omega) (by omega) ?_
  refine X_if_eq rfl (fun c1 => fin) (fun c1 => absurd ((bI_ne.mp c1).1.symm.trans h5) (by decide))
def x_QE (tx bf : Nat → Int32) (n c : Nat) (FE : Int32 → Int32 → (Nat → Int32) → Int64 → (Nat → Int32) → (Nat → Int32) → XH) (ea : Int32) (sv dd : Nat → Int32) (l m : Nat) (R : LR) : XH → Option Value → Prop := fun N r => match R with
  | .inl (e, a) => ¬ e = 0 ∧ ∃ K tl sv' dd', N = FE e (nI a) K tl sv' dd' ∧ r = none
  | .inr (_, rd1) => ∃ K tl sv', sv' 0 = sv 0 ∧ (∀ k, 4 ≤ k → k ≤ 7 → sv' k = rd1 k) ∧ N = FE 0 ea K tl sv' (s_look dd l m) ∧ r = none
theorem w_rs148 {G : XE} (hG : x_Kn G) (hK : x_KS G) {B : XH} {J bf K tk ts : Nat → Int32} {tl : Int64} {tv : Nat → Int64} {su : Nat → Nat} {D : Nat → Nat → Int32} {ρ : Nat → Nat} (hρ : y_ds ρ B) {i : Nat} {ea : Int32} {sv ty hv : Nat → Int32} {nm : Nat → Int64} (d : Nat) {tx : Nat → Int32} {n c p : Nat} (hr : s_rtx tx bf n) (hn8 : n ≤ 800) (hsp : z_split bf tx n tk ts tv c) (hat : z_at tx bf n c K tl p) {rd : Nat → Int32} {x : Int32} (hs4 : ∀ k, 4 ≤ k → k ≤ 7 → sv k = rd k) {m q9 : Nat} {dd : Nat → Int32} (hi : i < 10) (hsu : su i = ρ 1) (hsv : sv 0 = nI m) (hm5 : m ≤ 5) (hdq : dd 1 = nI q9) (hq40 : q9 ≤ 40) {mc ms nb0 cells slots : Nat} {ad0 : Nat → Nat} {Qn : XH → Option Value → Prop} (hc : cells ≤ mc) (hs : slots ≤ ms) (hQn : ∀ N rr, x_QE tx bf n c (fun er ea K tl sv dd => cset (rset B ρ i er ea sv nm ty hv) J bf K tk ts tl tv su (updR D i dd)) ea sv dd q9 m (l_t4 tx n (p, rd)) N rr → Qn N rr) : x_W G mX6_readSetup (x_Z G (d + 30) mc ms ad0 nb0 Qn x_noX) (cset (rset B ρ i 0 ea sv nm ty hv) J bf K tk ts tl tv su (updR D i dd)) cells slots 148 [some (.ref (ρ 0)), some (.int x)] [] := by
  refine X_ld rfl rfl rfl rfl ?_
  refine X_vcallP (c_B (hρ.o 0 (by decide)) rs_r) l_X6_X6_readCost (p_readCost hG hK hρ d hr hn8 hsp hat hs4) rfl rfl rfl rfl (Nat.le_of_ble_eq_true rfl) (Nat.le_of_ble_eq_true rfl) (by omega) (by omega) (by omega) (fun N1 r hq => ?_)
  generalize hR1 : (if l_isw tx n p (x_w 11) = true then l_costLine tx n (l_tk tx n p (x_w 11)) rd else .inr (l_sk tx n p, rd) : LR) = R1 at hq
  have hR : l_t4 tx n (p, rd) = l_bi R1 (l_t5 tx n) := by rw [← hR1]; rfl
  generalize l_t4 tx n (p, rd) = R at hR hQn
  rcases R1 with ⟨e9, a9⟩ | ⟨q1, rd1⟩
  · obtain ⟨he9, K2, tl2, sv2, hek, h0, rfl, rfl⟩ := hq
    refine X_stk (st' := []) rfl ?_
    exact w_rsE152 hG hK hρ d he9 hek hi hsu (h0.trans hsv) hm5 hdq hq40 (by omega) (by omega) (fun dd2 => hQn _ _ (by rw [hR]; exact ⟨he9, K2, tl2, sv2, dd2, rfl, rfl⟩))
  · obtain ⟨K1, tl1, sv1, hat1, h01, hs41, rfl, rfl⟩ := hq
    refine X_stk (st' := []) rfl ?_
    refine X_ld rfl rfl rfl rfl ?_
    refine X_vcallP (c_B (hρ.o 0 (by decide)) rs_r) l_X6_X6_readTries (p_readTries hG hK hρ d hr hn8 hsp hat1 hs41) rfl rfl rfl rfl (Nat.le_of_ble_eq_true rfl) (Nat.le_of_ble_eq_true rfl) (by omega) (by omega) (by omega) (fun N1 r hq => ?_)
    generalize hR2 : (if l_isw tx n q1 (x_w 12) = true then l_triesLine tx n (l_tk tx n q1 (x_w 12)) rd1 else .inr (l_sk tx n q1, rd1) : LR) = R2 at hq
    replace hR : R = l_bi R2 (l_t6 tx n) := hR.trans (by rw [← hR2]; rfl)
    rcases R2 with ⟨e9, a9⟩ | ⟨q2, rd2⟩
    · obtain ⟨he9, K2, tl2, sv2, hek, h0, rfl, rfl⟩ := hq
      refine X_stk (st' := []) rfl ?_
      exact w_rsE156 hG hK hρ d he9 hek hi hsu (h0.trans (h01.trans hsv)) hm5 hdq hq40 (by omega) (by omega) (fun dd2 => hQn _ _ (by rw [hR]; exact ⟨he9, K2, tl2, sv2, dd2, rfl, rfl⟩))
    · obtain ⟨K2, tl2, sv2, hat2, h02, hs42, rfl, rfl⟩ := hq
      refine X_stk (st' := []) rfl ?_
      obtain ⟨hp2, j2, hj2, hz2, m3, m4, m5, m6, mtl⟩ := id hat2
      replace hR : R = (if l_see tx n q2 = -1 then .inr (l_sk tx n q2, rd2) else .inl (-2, l_sk tx n q2)) := hR
      have hsv2 : sv2 0 = nI m := h02.trans (h01.trans hsv)
      refine X_ld rfl rfl rfl rfl ?_
      refine X_get f_X6_26 rfl (c_B (hρ.o 0 (by decide)) rs_r) rfl ?_
      refine X_get f_X6_85 rfl c_T (v := .int (z_tk bf tx n (l_sk tx n q2))) (congrArg Value.int m5) ?_
      refine X_push (v := .int 256) rfl (by decide +kernel) ?_
      refine X_icmp_eq rfl (fun c166 => ?_) (fun c166 => ?_)
      · rw [if_pos ((z_end hr hp2).mp c166)] at hR
        refine X_ld rfl rfl rfl rfl ?_
        refine X_get f_X6_30 rfl (c_B (hρ.o 0 (by decide)) rs_r) rfl ?_
        refine X_vcallv (r_D hi updR_eq) l_X6_X3_takeStatistics (d_takeStatistics hG d i hi (c := dd) (by rw [hsu]; exact hρ.o 1 (by decide)) (by rw [hsu]; exact rs_st hρ) m hsv2 hm5 q9 hdq hq40) rfl rfl rfl rfl (Nat.le_of_ble_eq_true rfl) (Nat.le_of_ble_eq_true rfl) (by omega) (by omega) (by omega) ?_
        refine X_vret rfl rfl (hQn _ _ ?_) (by omega) (by omega)
        rw [hR]
        exact ⟨K2, tl2, sv2, h02.trans h01, hs42, rfl, rfl⟩
      · rw [if_neg (fun q => c166 ((z_end hr hp2).mpr q))] at hR
        refine X_ld rfl rfl rfl rfl ?_
        refine X_push (v := .int (-2)) rfl (by decide +kernel) ?_
        refine X_ld rfl rfl rfl rfl ?_
        refine X_get f_X6_26 rfl (c_B (hρ.o 0 (by decide)) rs_r) rfl ?_
        refine X_get f_X6_88 rfl c_T (v := .int (nI (l_sk tx n q2))) (congrArg Value.int m6) ?_
        refine X_vcallv (c_B (hρ.o 0 (by decide)) rs_r) l_X6_X6_fail (p_fail hG hK hρ d rfl (x := (-2)) (y := nI (l_sk tx n q2))) rfl rfl rfl rfl (Nat.le_of_ble_eq_true rfl) (Nat.le_of_ble_eq_true rfl) (by omega) (by omega) (by omega) ?_
        refine X_ld rfl rfl rfl rfl ?_
        refine X_get f_X6_30 rfl (c_B (hρ.o 0 (by decide)) rs_r) rfl ?_
        refine X_vcallv (r_D hi updR_eq) l_X6_X3_takeStatistics (d_takeStatistics hG d i hi (c := dd) (by rw [hsu]; exact hρ.o 1 (by decide)) (by rw [hsu]; exact rs_st hρ) m hsv2 hm5 q9 hdq hq40) rfl rfl rfl rfl (Nat.le_of_ble_eq_true rfl) (Nat.le_of_ble_eq_true rfl) (by omega) (by omega) (by omega) ?_
        refine X_vret rfl rfl (hQn _ _ ?_) (by omega) (by omega)
        rw [hR]
        exact ⟨by decide, _, tl2, sv2, _, rfl, rfl⟩

