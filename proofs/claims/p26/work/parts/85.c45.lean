/-! ===== the class's reader: what it takes ===== -/
/-- a sign is wanted -/
def y_wb (tx : Nat → Int32) (n : Nat) (s : Int32) (p : Nat) : LE (Nat × Unit) := if l_see tx n p = s then .inr (l_sk tx n p + 1, ()) else .inl (-2, l_sk tx n p)
/-- a word is wanted -/
def y_ww (tx : Nat → Int32) (n i p : Nat) : LE (Nat × Unit) := if l_isw tx n p (x_w i) = true then .inr (l_tk tx n p (x_w i), ()) else .inl (-2, l_sk tx n p)
theorem p_expectByte {G : XE} (hG : x_Kn G) (hK : x_KS G) {B : XH} {J bf K tk ts : Nat → Int32} {tl : Int64} {tv : Nat → Int64} {su : Nat → Nat} {D : Nat → Nat → Int32} {ρ : Nat → Nat} (hρ : y_ds ρ B) {i : Nat} {ea : Int32} {sv ty hv : Nat → Int32} {nm : Nat → Int64} (d : Nat) {tx : Nat → Int32} {n c p : Nat} (hr : s_rtx tx bf n) (hn8 : n ≤ 800) (hsp : z_split bf tx n tk ts tv c) (hat : z_at tx bf n c K tl p) {s : Nat} (hs : s < 256) (h1 : ¬ s_let (nI s)) (h2 : ¬ s_dig (nI s)) : x_M G mX6_expectByte (d + 1) 0 0 [.ref (ρ 0), .int (nI s)] (cset (rset B ρ i 0 ea sv nm ty hv) J bf K tk ts tl tv su D) (x_QR tx bf n c (fun er ea K tl => cset (rset B ρ i er ea sv nm ty hv) J bf K tk ts tl tv su D) ea (y_wb tx n (nI s) p) (fun _ => none) none) x_noX := by
  refine X_M hG okX6_expectByte rfl (L := [some (.ref (ρ 0)), some (.int (nI s))]) rfl (Nat.le_of_ble_eq_true rfl) (fun ad0 nb0 => ?_)
  obtain ⟨hp, j, hj, hz, h3, h4, h5, h6, htl⟩ := id hat
  refine X_ld rfl rfl rfl rfl ?_
  refine X_get f_X6_26 rfl (c_B (hρ.o 0 (by decide)) rs_r) rfl ?_
  refine X_get f_X6_85 rfl c_T (v := .int (z_tk bf tx n (l_sk tx n p))) (congrArg Value.int h5) ?_
  refine X_ld rfl rfl rfl rfl ?_
  refine X_icmp_eq rfl (fun c8 => ?_) (fun c8 => ?_)
  · have hsee := (z_sign hr hp hs h1 h2).mp c8
    have hse := z_sign_e hr hp hs h1 h2 hsee
    refine X_ld rfl rfl rfl rfl ?_
    refine X_get f_X6_26 rfl (c_B (hρ.o 0 (by decide)) rs_r) rfl ?_
    refine X_vcallv c_T l_X6_X8_advance (p_advance hG (d + 0) h3 h4 (by have := hsp.1.2; omega) (by have := hsp.1.2; omega)) rfl rfl rfl rfl (Nat.le_of_ble_eq_true rfl) (Nat.le_of_ble_eq_true rfl) (by omega) (by omega) (by omega) ?_
    have hA := z_adv (tk := tk) (ts := ts) (tv := tv) (tl := tl) hsp hp hj hz h3 hse.2
    rw [hse.1] at hA
    exact X_vret rfl rfl (x_QRo (x := ()) (if_pos hsee) hA rfl rfl) (Nat.le_of_ble_eq_true rfl) (Nat.le_of_ble_eq_true rfl)
  · have hns : ¬ l_see tx n p = nI s := fun q => c8 ((z_sign hr hp hs h1 h2).mpr q)
    refine X_ld rfl rfl rfl rfl ?_
    refine X_push (v := .int (-2)) rfl (by decide +kernel) ?_
    refine X_ld rfl rfl rfl rfl ?_
    refine X_get f_X6_26 rfl (c_B (hρ.o 0 (by decide)) rs_r) rfl ?_
    refine X_get f_X6_88 rfl c_T (v := .int (nI (l_sk tx n p))) (congrArg Value.int h6) ?_
    refine X_vcallv (c_B (hρ.o 0 (by decide)) rs_r) l_X6_X6_fail (p_fail hG hK hρ (d + 0) rfl (x := (-2)) (y := nI (l_sk tx n p))) rfl rfl rfl rfl (Nat.le_of_ble_eq_true rfl) (Nat.le_of_ble_eq_true rfl) (by omega) (by omega) (by omega) ?_
    refine X_ld rfl rfl rfl rfl ?_
    refine X_get f_X6_26 rfl (c_B (hρ.o 0 (by decide)) rs_r) rfl ?_
    refine X_vcallv c_T l_X6_X8_advance (p_advance hG (d + 0) (c := 0) (K := (upd (upd K 3 0) 5 256)) (by rw [updI_ne (by decide), updI_eq]; rfl) ((updI_ne (by decide)).trans ((updI_ne (by decide)).trans h4)) (by omega) (by have := hsp.1.2; omega)) rfl rfl rfl rfl (Nat.le_of_ble_eq_true rfl) (Nat.le_of_ble_eq_true rfl) (by omega) (by omega) (by omega) ?_
    refine X_heap (N' := cset (rset B ρ i (-2) (nI (l_sk tx n p)) sv nm ty hv) J bf (upd (upd K 3 0) 5 256) tk ts tl tv su D) (by rw [(z_adX (K := (upd (upd K 3 0) 5 256)) (tk := tk) (ts := ts) (tv := tv) (tl := tl) updI_eq).1, (z_adX (K := (upd (upd K 3 0) 5 256)) (tk := tk) (ts := ts) (tv := tv) (tl := tl) updI_eq).2]) ?_
    exact X_vret rfl rfl (x_QRe (if_neg hns) (by decide) (z_er_mk h4 (by have := hsp.1.2; omega)) rfl rfl) (Nat.le_of_ble_eq_true rfl) (Nat.le_of_ble_eq_true rfl)
theorem p_expectByteX {G : XE} (hG : x_Kn G) (hK : x_KS G) {B : XH} {J bf K tk ts : Nat → Int32} {tl : Int64} {tv : Nat → Int64} {su : Nat → Nat} {D : Nat → Nat → Int32} {ρ : Nat → Nat} (hρ : y_ds ρ B) {i : Nat} {er ea : Int32} {sv ty hv : Nat → Int32} {nm : Nat → Int64} (d : Nat) (her : ¬ er = 0) (hek : z_er K) {s : Nat} (hs : s < 256) : x_M G mX6_expectByte (d + 1) 0 0 [.ref (ρ 0), .int (nI s)] (cset (rset B ρ i er ea sv nm ty hv) J bf K tk ts tl tv su D) (x_RetV (cset (rset B ρ i er ea sv nm ty hv) J bf K tk ts tl tv su D)) x_noX := by
  refine X_M hG okX6_expectByte rfl (L := [some (.ref (ρ 0)), some (.int (nI s))]) rfl (Nat.le_of_ble_eq_true rfl) (fun ad0 nb0 => ?_)
  obtain ⟨h3, h5, j, hj8, h4⟩ := id hek
  refine X_ld rfl rfl rfl rfl ?_
  refine X_get f_X6_26 rfl (c_B (hρ.o 0 (by decide)) rs_r) rfl ?_
  refine X_get f_X6_85 rfl c_T (v := .int 256) (congrArg Value.int h5) ?_
  refine X_ld rfl rfl rfl rfl ?_
  refine X_icmp_eq rfl (fun c8 => absurd c8.symm (y_kn hs).1) (fun c8 => ?_)
  refine X_ld rfl rfl rfl rfl ?_
  refine X_push (v := .int (-2)) rfl (by decide +kernel) ?_
  refine X_ld rfl rfl rfl rfl ?_
  refine X_get f_X6_26 rfl (c_B (hρ.o 0 (by decide)) rs_r) rfl ?_
  refine X_get f_X6_88 rfl c_T rfl ?_
  refine X_vcallv (c_B (hρ.o 0 (by decide)) rs_r) l_X6_X6_fail (p_failX hG hK hρ (d + 0) her) rfl rfl rfl rfl (Nat.le_of_ble_eq_true rfl) (Nat.le_of_ble_eq_true rfl) (by omega) (by omega) (by omega) ?_
  refine X_ld rfl rfl rfl rfl ?_
  refine X_get f_X6_26 rfl (c_B (hρ.o 0 (by decide)) rs_r) rfl ?_
  refine X_vcallv c_T l_X6_X8_advance (p_advance hG (d + 0) h3 h4 (by omega) hj8) rfl rfl rfl rfl (Nat.le_of_ble_eq_true rfl) (Nat.le_of_ble_eq_true rfl) (by omega) (by omega) (by omega) ?_
  refine X_heap (N' := cset (rset B ρ i er ea sv nm ty hv) J bf K tk ts tl tv su D) (by rw [(z_adX (tk := tk) (ts := ts) (tv := tv) (tl := tl) h5).1, (z_adX (tk := tk) (ts := ts) (tv := tv) (tl := tl) h5).2]) ?_
  exact X_vret rfl rfl ⟨rfl, rfl⟩ (Nat.le_of_ble_eq_true rfl) (Nat.le_of_ble_eq_true rfl)
theorem p_expectWord {G : XE} (hG : x_Kn G) (hK : x_KS G) {B : XH} {J bf K tk ts : Nat → Int32} {tl : Int64} {tv : Nat → Int64} {su : Nat → Nat} {D : Nat → Nat → Int32} {ρ : Nat → Nat} (hρ : y_ds ρ B) {i : Nat} {ea : Int32} {sv ty hv : Nat → Int32} {nm : Nat → Int64} (d : Nat) {tx : Nat → Int32} {n c p : Nat} (hr : s_rtx tx bf n) (hn8 : n ≤ 800) (hsp : z_split bf tx n tk ts tv c) (hat : z_at tx bf n c K tl p) (w : Nat) (hw26 : 13 ≤ w ∧ w < 26) (hw2 : w % 13 ≠ 2) (hw3 : w % 13 ≠ 3) (hw4 : w % 13 ≠ 4) : x_M G mX6_expectWord (d + 6) 0 0 [.ref (ρ 0), .ref (4 + w)] (cset (rset B ρ i 0 ea sv nm ty hv) J bf K tk ts tl tv su D) (x_QR tx bf n c (fun er ea K tl => cset (rset B ρ i er ea sv nm ty hv) J bf K tk ts tl tv su D) ea (y_ww tx n w p) (fun _ => none) none) x_noX := by
  refine X_M hG okX6_expectWord rfl (L := [some (.ref (ρ 0)), some (.ref (4 + w))]) rfl (Nat.le_of_ble_eq_true rfl) (fun ad0 nb0 => ?_)
  obtain ⟨hp, j, hj, hz, h3, h4, h5, h6, htl⟩ := id hat
  refine X_ld rfl rfl rfl rfl ?_
  refine X_get f_X6_26 rfl (c_B (hρ.o 0 (by decide)) rs_r) rfl ?_
  refine X_ld rfl rfl rfl rfl ?_
  refine X_vcall c_T l_X6_X8_isWord (p_isWord hG hK d w hw26) rfl rfl rfl rfl (Nat.le_of_ble_eq_true rfl) (Nat.le_of_ble_eq_true rfl) (by omega) (by omega) (by omega) ?_
  refine X_if_ne rfl (fun c8 => ?_) (fun c8 => ?_)
  · have hb := bI_ne.mp c8
    have hisw := (z_word hr hp w hw26.2 hw2 hw3 hw4).mp ⟨h5.symm.trans hb.1, htl.symm.trans hb.2⟩
    have hq : l_sk tx n p < n := by have := l_isw_we hisw; have := l_we_le (tx := tx) hp; have := ((z_isw hp w).mp hisw).2.1; omega
    refine X_ld rfl rfl rfl rfl ?_
    refine X_get f_X6_26 rfl (c_B (hρ.o 0 (by decide)) rs_r) rfl ?_
    refine X_vcallv c_T l_X6_X8_advance (p_advance hG (d + 5) h3 h4 (by have := hsp.1.2; omega) (by have := hsp.1.2; omega)) rfl rfl rfl rfl (Nat.le_of_ble_eq_true rfl) (Nat.le_of_ble_eq_true rfl) (by omega) (by omega) (by omega) ?_
    have hA := z_adv (tk := tk) (ts := ts) (tv := tv) (tl := tl) hsp hp hj hz h3 hq
    rw [z_wte hp w hisw] at hA
    exact X_vret rfl rfl (x_QRo (x := ()) (if_pos hisw) hA rfl rfl) (Nat.le_of_ble_eq_true rfl) (Nat.le_of_ble_eq_true rfl)
  · have hnw : ¬ l_isw tx n p (x_w w) = true := fun q => bI_ne.mpr ⟨h5.trans ((z_word hr hp w hw26.2 hw2 hw3 hw4).mpr q).1, htl.trans ((z_word hr hp w hw26.2 hw2 hw3 hw4).mpr q).2⟩ c8
    refine X_ld rfl rfl rfl rfl ?_
    refine X_push (v := .int (-2)) rfl (by decide +kernel) ?_
    refine X_ld rfl rfl rfl rfl ?_
    refine X_get f_X6_26 rfl (c_B (hρ.o 0 (by decide)) rs_r) rfl ?_
    refine X_get f_X6_88 rfl c_T (v := .int (nI (l_sk tx n p))) (congrArg Value.int h6) ?_
    refine X_vcallv (c_B (hρ.o 0 (by decide)) rs_r) l_X6_X6_fail (p_fail hG hK hρ (d + 5) rfl (x := (-2)) (y := nI (l_sk tx n p))) rfl rfl rfl rfl (Nat.le_of_ble_eq_true rfl) (Nat.le_of_ble_eq_true rfl) (by omega) (by omega) (by omega) ?_
    refine X_ld rfl rfl rfl rfl ?_
    refine X_get f_X6_26 rfl (c_B (hρ.o 0 (by decide)) rs_r) rfl ?_
    refine X_vcallv c_T l_X6_X8_advance (p_advance hG (d + 5) (c := 0) (K := (upd (upd K 3 0) 5 256)) (by rw [updI_ne (by decide), updI_eq]; rfl) ((updI_ne (by decide)).trans ((updI_ne (by decide)).trans h4)) (by omega) (by have := hsp.1.2; omega)) rfl rfl rfl rfl (Nat.le_of_ble_eq_true rfl) (Nat.le_of_ble_eq_true rfl) (by omega) (by omega) (by omega) ?_
    refine X_heap (N' := cset (rset B ρ i (-2) (nI (l_sk tx n p)) sv nm ty hv) J bf (upd (upd K 3 0) 5 256) tk ts tl tv su D) (by rw [(z_adX (K := (upd (upd K 3 0) 5 256)) (tk := tk) (ts := ts) (tv := tv) (tl := tl) updI_eq).1, (z_adX (K := (upd (upd K 3 0) 5 256)) (tk := tk) (ts := ts) (tv := tv) (tl := tl) updI_eq).2]) ?_
    exact X_vret rfl rfl (x_QRe (if_neg hnw) (by decide) (z_er_mk h4 (by have := hsp.1.2; omega)) rfl rfl) (Nat.le_of_ble_eq_true rfl) (Nat.le_of_ble_eq_true rfl)
theorem p_takeNumber {G : XE} (hG : x_Kn G) (hK : x_KS G) {B : XH} {J bf K tk ts : Nat → Int32} {tl : Int64} {tv : Nat → Int64} {su : Nat → Nat} {D : Nat → Nat → Int32} {ρ : Nat → Nat} (hρ : y_ds ρ B) {i : Nat} {ea : Int32} {sv ty hv : Nat → Int32} {nm : Nat → Int64} (d : Nat) {tx : Nat → Int32} {n c p : Nat} (hr : s_rtx tx bf n) (hn8 : n ≤ 800) (hsp : z_split bf tx n tk ts tv c) (hat : z_at tx bf n c K tl p) {M : Nat} (hM : M ≤ 9999) : x_M G mX6_takeNumber (d + 1) 0 0 [.ref (ρ 0), .int (nI M)] (cset (rset B ρ i 0 ea sv nm ty hv) J bf K tk ts tl tv su D) (x_QR tx bf n c (fun er ea K tl => cset (rset B ρ i er ea sv nm ty hv) J bf K tk ts tl tv su D) ea (l_reads tx n p (nI M)) (fun v => some (.int v)) (some (.int 0))) x_noX := by
  refine X_M hG okX6_takeNumber rfl (L := [some (.ref (ρ 0)), some (.int (nI M)), none, none]) rfl (Nat.le_of_ble_eq_true rfl) (fun ad0 nb0 => ?_)
  obtain ⟨hp, j, hj, hz, h3, h4, h5, h6, htl⟩ := id hat
  refine X_ld rfl rfl rfl rfl ?_
  refine X_get f_X6_26 rfl (c_B (hρ.o 0 (by decide)) rs_r) rfl ?_
  refine X_get f_X6_104 rfl c_T rfl ?_
  refine X_stl rfl rfl rfl ?_
  refine X_ld rfl rfl rfl rfl ?_
  refine X_get f_X6_26 rfl (c_B (hρ.o 0 (by decide)) rs_r) rfl ?_
  refine X_get f_X6_85 rfl c_T (v := .int (z_tk bf tx n (l_sk tx n p))) (congrArg Value.int h5) ?_
  refine X_push (v := .int 262) rfl (by decide +kernel) ?_
  refine X_icmp_eq rfl (fun c18 => ?_) (fun c18 => ?_)
  · have hd := (z_numk hr hp).mp c18
    obtain ⟨V, hV1, hV2, hV3⟩ := z_num hr hp hd
    have hq : l_sk tx n p < n := l_see_lt (fun q => by rw [q] at hd; exact absurd hd.1 (by decide))
    refine X_ld rfl rfl rfl rfl ?_
    refine X_ld rfl rfl rfl rfl ?_
    refine X_un rfl rfl ?_
    refine X_bin rfl rfl ?_
    refine X_stk (st' := [.int (lg_cmp (nI (min V 10000)).toInt64 (nI M).toInt64)]) (by rw [htl, hV1]) ?_
    refine X_if_le rfl (fun c40 => ?_) (fun c40 => ?_)
    · have hM := (n_le rfl rfl (by omega) (by omega)).mp (i2l_le.mp ((lg_cmp_le _ _).mp c40))
      have hVM : V ≤ M := by omega
      refine X_ld rfl rfl rfl rfl ?_
      refine X_get f_X6_26 rfl (c_B (hρ.o 0 (by decide)) rs_r) rfl ?_
      refine X_vcallv c_T l_X6_X8_advance (p_advance hG (d + 0) h3 h4 (by have := hsp.1.2; omega) (by have := hsp.1.2; omega)) rfl rfl rfl rfl (Nat.le_of_ble_eq_true rfl) (Nat.le_of_ble_eq_true rfl) (by omega) (by omega) (by omega) ?_
      refine X_ld rfl rfl rfl rfl ?_
      refine X_un rfl rfl ?_
      refine X_stk (st' := [.int (nI V)]) (by rw [htl, hV1, Int32.toInt32_toInt64, Nat.min_eq_left (by omega)]) ?_
      have hA := z_adv (tk := tk) (ts := ts) (tv := tv) (tl := tl) hsp hp hj hz h3 hq
      rw [hV3] at hA
      have hnum : l_num tx n p = nI V := by rw [hV2, Nat.min_eq_left (by omega)]
      exact X_iret rfl rfl (x_QRo (show l_reads tx n p (nI M) = _ by unfold l_reads; rw [if_pos hd, hnum, if_pos ⟨nI_ge0 (by omega), (n_le rfl rfl (by omega) (by omega)).mpr hVM⟩]) hA rfl rfl) (Nat.le_of_ble_eq_true rfl) (Nat.le_of_ble_eq_true rfl)
    · have hM : ¬ V ≤ M := fun q => c40 ((lg_cmp_le _ _).mpr (i2l_le.mpr ((n_le rfl rfl (by omega) (by omega)).mpr (by omega))))
      have hbad : ¬ ((0 : Int32) ≤ l_num tx n p ∧ l_num tx n p ≤ nI M) := fun q => by have := (n_le hV2 rfl (by omega) (by omega)).mp q.2; omega
      refine X_ld rfl rfl rfl rfl ?_
      refine X_push (v := .int (-3)) rfl (by decide +kernel) ?_
      refine X_ld rfl rfl rfl rfl ?_
      refine X_get f_X6_26 rfl (c_B (hρ.o 0 (by decide)) rs_r) rfl ?_
      refine X_get f_X6_88 rfl c_T (v := .int (nI (l_sk tx n p))) (congrArg Value.int h6) ?_
      refine X_vcallv (c_B (hρ.o 0 (by decide)) rs_r) l_X6_X6_fail (p_fail hG hK hρ (d + 0) rfl (x := (-3)) (y := nI (l_sk tx n p))) rfl rfl rfl rfl (Nat.le_of_ble_eq_true rfl) (Nat.le_of_ble_eq_true rfl) (by omega) (by omega) (by omega) ?_
      refine X_push (v := .int 0) rfl (by decide +kernel) ?_
      exact X_iret rfl rfl (x_QRe (show l_reads tx n p (nI M) = _ by unfold l_reads; rw [if_pos hd, if_neg hbad]) (by decide) (z_er_mk h4 (by have := hsp.1.2; omega)) rfl rfl) (Nat.le_of_ble_eq_true rfl) (Nat.le_of_ble_eq_true rfl)
  · have hnd : ¬ s_dig (l_see tx n p) := fun q => c18 ((z_numk hr hp).mpr q)
    refine X_ld rfl rfl rfl rfl ?_
    refine X_push (v := .int (-2)) rfl (by decide +kernel) ?_
    refine X_ld rfl rfl rfl rfl ?_
    refine X_get f_X6_26 rfl (c_B (hρ.o 0 (by decide)) rs_r) rfl ?_
    refine X_get f_X6_88 rfl c_T (v := .int (nI (l_sk tx n p))) (congrArg Value.int h6) ?_
    refine X_vcallv (c_B (hρ.o 0 (by decide)) rs_r) l_X6_X6_fail (p_fail hG hK hρ (d + 0) rfl (x := (-2)) (y := nI (l_sk tx n p))) rfl rfl rfl rfl (Nat.le_of_ble_eq_true rfl) (Nat.le_of_ble_eq_true rfl) (by omega) (by omega) (by omega) ?_
    refine X_push (v := .int 0) rfl (by decide +kernel) ?_
    exact X_iret rfl rfl (x_QRe (show l_reads tx n p (nI M) = _ from if_neg hnd) (by decide) (z_er_mk h4 (by have := hsp.1.2; omega)) rfl rfl) (Nat.le_of_ble_eq_true rfl) (Nat.le_of_ble_eq_true rfl)
theorem p_takeNumberX {G : XE} (hG : x_Kn G) (hK : x_KS G) {B : XH} {J bf K tk ts : Nat → Int32} {tl : Int64} {tv : Nat → Int64} {su : Nat → Nat} {D : Nat → Nat → Int32} {ρ : Nat → Nat} (hρ : y_ds ρ B) {i : Nat} {er ea : Int32} {sv ty hv : Nat → Int32} {nm : Nat → Int64} (d : Nat) (her : ¬ er = 0) (hek : z_er K) {x : Int32} : x_M G mX6_takeNumber (d + 1) 0 0 [.ref (ρ 0), .int x] (cset (rset B ρ i er ea sv nm ty hv) J bf K tk ts tl tv su D) (x_Ret (cset (rset B ρ i er ea sv nm ty hv) J bf K tk ts tl tv su D) (.int 0)) x_noX := by
  refine X_M hG okX6_takeNumber rfl (L := [some (.ref (ρ 0)), some (.int x), none, none]) rfl (Nat.le_of_ble_eq_true rfl) (fun ad0 nb0 => ?_)
  obtain ⟨h3, h5, j, hj8, h4⟩ := id hek
  refine X_ld rfl rfl rfl rfl ?_
  refine X_get f_X6_26 rfl (c_B (hρ.o 0 (by decide)) rs_r) rfl ?_
  refine X_get f_X6_104 rfl c_T rfl ?_
  refine X_stl rfl rfl rfl ?_
  refine X_ld rfl rfl rfl rfl ?_
  refine X_get f_X6_26 rfl (c_B (hρ.o 0 (by decide)) rs_r) rfl ?_
  refine X_get f_X6_85 rfl c_T (v := .int 256) (congrArg Value.int h5) ?_
  refine X_push (v := .int 262) rfl (by decide +kernel) ?_
  refine X_icmp_eq rfl (fun c18 => absurd c18 (by decide)) (fun c18 => ?_)
  refine X_ld rfl rfl rfl rfl ?_
  refine X_push (v := .int (-2)) rfl (by decide +kernel) ?_
  refine X_ld rfl rfl rfl rfl ?_
  refine X_get f_X6_26 rfl (c_B (hρ.o 0 (by decide)) rs_r) rfl ?_
  refine X_get f_X6_88 rfl c_T rfl ?_
  refine X_vcallv (c_B (hρ.o 0 (by decide)) rs_r) l_X6_X6_fail (p_failX hG hK hρ (d + 0) her) rfl rfl rfl rfl (Nat.le_of_ble_eq_true rfl) (Nat.le_of_ble_eq_true rfl) (by omega) (by omega) (by omega) ?_
  refine X_push (v := .int 0) rfl (by decide +kernel) ?_
  exact X_iret rfl rfl ⟨rfl, rfl⟩ (Nat.le_of_ble_eq_true rfl) (Nat.le_of_ble_eq_true rfl)
def y_tn (tx : Nat → Int32) (n p : Nat) : LE (Nat × Int64) := if l_nm tx n p then .inr (l_we tx n p, s_nmv tx (l_sk tx n p) (l_we tx n p - l_sk tx n p)) else .inl (-2, l_sk tx n p)
theorem p_takeName {G : XE} (hG : x_Kn G) (hK : x_KS G) {B : XH} {J bf K tk ts : Nat → Int32} {tl : Int64} {tv : Nat → Int64} {su : Nat → Nat} {D : Nat → Nat → Int32} {ρ : Nat → Nat} (hρ : y_ds ρ B) {i : Nat} {ea : Int32} {sv ty hv : Nat → Int32} {nm : Nat → Int64} (d : Nat) {tx : Nat → Int32} {n c p : Nat} (hr : s_rtx tx bf n) (hn8 : n ≤ 800) (hsp : z_split bf tx n tk ts tv c) (hat : z_at tx bf n c K tl p) : x_M G mX6_takeName (d + 1) 0 0 [.ref (ρ 0)] (cset (rset B ρ i 0 ea sv nm ty hv) J bf K tk ts tl tv su D) (x_QR tx bf n c (fun er ea K tl => cset (rset B ρ i er ea sv nm ty hv) J bf K tk ts tl tv su D) ea (y_tn tx n p) (fun v => some (.long v)) (some (.long 0))) x_noX := by
  refine X_M hG okX6_takeName rfl (L := [some (.ref (ρ 0)), none, none]) rfl (Nat.le_of_ble_eq_true rfl) (fun ad0 nb0 => ?_)
  obtain ⟨hp, j, hj, hz, h3, h4, h5, h6, htl⟩ := id hat
  refine X_ld rfl rfl rfl rfl ?_
  refine X_get f_X6_26 rfl (c_B (hρ.o 0 (by decide)) rs_r) rfl ?_
  refine X_get f_X6_104 rfl c_T rfl ?_
  refine X_stl rfl rfl rfl ?_
  refine X_ld rfl rfl rfl rfl ?_
  refine X_get f_X6_26 rfl (c_B (hρ.o 0 (by decide)) rs_r) rfl ?_
  refine X_get f_X6_85 rfl c_T (v := .int (z_tk bf tx n (l_sk tx n p))) (congrArg Value.int h5) ?_
  refine X_push (v := .int 257) rfl (by decide +kernel) ?_
  refine X_icmp_eq rfl (fun c18 => ?_) (fun c18 => ?_)
  · have hnm := (z_name hr hp).mp c18
    have hv := z_name_v hr hp hnm
    have hq : l_sk tx n p < n := by have := hnm.1; have := l_we_le (tx := tx) hp; omega
    refine X_ld rfl rfl rfl rfl ?_
    refine X_get f_X6_26 rfl (c_B (hρ.o 0 (by decide)) rs_r) rfl ?_
    refine X_vcallv c_T l_X6_X8_advance (p_advance hG (d + 0) h3 h4 (by have := hsp.1.2; omega) (by have := hsp.1.2; omega)) rfl rfl rfl rfl (Nat.le_of_ble_eq_true rfl) (Nat.le_of_ble_eq_true rfl) (by omega) (by omega) (by omega) ?_
    refine X_ld rfl rfl rfl rfl ?_
    have hA := z_adv (tk := tk) (ts := ts) (tv := tv) (tl := tl) hsp hp hj hz h3 hq
    rw [hv.2.1] at hA
    exact X_lret rfl rfl (x_QRo (show y_tn tx n p = _ from if_pos hnm) hA rfl (congrArg (fun q => some (Value.long q)) (htl.trans hv.1))) (Nat.le_of_ble_eq_true rfl) (Nat.le_of_ble_eq_true rfl)
  · have hnn : ¬ l_nm tx n p := fun q => c18 ((z_name hr hp).mpr q)
    refine X_ld rfl rfl rfl rfl ?_
    refine X_push (v := .int (-2)) rfl (by decide +kernel) ?_
    refine X_ld rfl rfl rfl rfl ?_
    refine X_get f_X6_26 rfl (c_B (hρ.o 0 (by decide)) rs_r) rfl ?_
    refine X_get f_X6_88 rfl c_T (v := .int (nI (l_sk tx n p))) (congrArg Value.int h6) ?_
    refine X_vcallv (c_B (hρ.o 0 (by decide)) rs_r) l_X6_X6_fail (p_fail hG hK hρ (d + 0) rfl (x := (-2)) (y := nI (l_sk tx n p))) rfl rfl rfl rfl (Nat.le_of_ble_eq_true rfl) (Nat.le_of_ble_eq_true rfl) (by omega) (by omega) (by omega) ?_
    refine X_push (v := .long 0) rfl (by decide +kernel) ?_
    exact X_lret rfl rfl (x_QRe (show y_tn tx n p = _ from if_neg hnn) (by decide) (z_er_mk h4 (by have := hsp.1.2; omega)) rfl rfl) (Nat.le_of_ble_eq_true rfl) (Nat.le_of_ble_eq_true rfl)
theorem p_takeNameX {G : XE} (hG : x_Kn G) (hK : x_KS G) {B : XH} {J bf K tk ts : Nat → Int32} {tl : Int64} {tv : Nat → Int64} {su : Nat → Nat} {D : Nat → Nat → Int32} {ρ : Nat → Nat} (hρ : y_ds ρ B) {i : Nat} {er ea : Int32} {sv ty hv : Nat → Int32} {nm : Nat → Int64} (d : Nat) (her : ¬ er = 0) (hek : z_er K) : x_M G mX6_takeName (d + 1) 0 0 [.ref (ρ 0)] (cset (rset B ρ i er ea sv nm ty hv) J bf K tk ts tl tv su D) (x_Ret (cset (rset B ρ i er ea sv nm ty hv) J bf K tk ts tl tv su D) (.long 0)) x_noX := by
  refine X_M hG okX6_takeName rfl (L := [some (.ref (ρ 0)), none, none]) rfl (Nat.le_of_ble_eq_true rfl) (fun ad0 nb0 => ?_)
  obtain ⟨h3, h5, j, hj8, h4⟩ := id hek
  refine X_ld rfl rfl rfl rfl ?_
  refine X_get f_X6_26 rfl (c_B (hρ.o 0 (by decide)) rs_r) rfl ?_
  refine X_get f_X6_104 rfl c_T rfl ?_
  refine X_stl rfl rfl rfl ?_
  refine X_ld rfl rfl rfl rfl ?_
  refine X_get f_X6_26 rfl (c_B (hρ.o 0 (by decide)) rs_r) rfl ?_
  refine X_get f_X6_85 rfl c_T (v := .int 256) (congrArg Value.int h5) ?_
  refine X_push (v := .int 257) rfl (by decide +kernel) ?_
  refine X_icmp_eq rfl (fun c18 => absurd c18 (by decide)) (fun c18 => ?_)
  refine X_ld rfl rfl rfl rfl ?_
  refine X_push (v := .int (-2)) rfl (by decide +kernel) ?_
  refine X_ld rfl rfl rfl rfl ?_
  refine X_get f_X6_26 rfl (c_B (hρ.o 0 (by decide)) rs_r) rfl ?_
  refine X_get f_X6_88 rfl c_T rfl ?_
  refine X_vcallv (c_B (hρ.o 0 (by decide)) rs_r) l_X6_X6_fail (p_failX hG hK hρ (d + 0) her) rfl rfl rfl rfl (Nat.le_of_ble_eq_true rfl) (Nat.le_of_ble_eq_true rfl) (by omega) (by omega) (by omega) ?_
  refine X_push (v := .long 0) rfl (by decide +kernel) ?_
  exact X_lret rfl rfl ⟨rfl, rfl⟩ (Nat.le_of_ble_eq_true rfl) (Nat.le_of_ble_eq_true rfl)

