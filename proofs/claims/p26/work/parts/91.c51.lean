/-! ===== the class's reader: comparisons are read ===== -/
theorem y_newc {B : XH} {v : Nat} {c : XC} (hv : B v = none) : y_dif B (x_set B v c) v = some c := by rw [y_dif_of hv, x_set_eq]
theorem y_gw_new {B : XH} {ρ : Nat → Nat} {v : Nat} {c : XC} (hρ : y_ds ρ B) (hB0 : B 0 = none) (hB2 : B 2 = none) (hv : B v = none) (h64 : 64 ≤ v) (hne : ∀ a, a < 5 → ¬ v = ρ a) : y_gw B (x_set B v c) ρ := ⟨fun k c' hk => by rw [x_set_ne (fun e => by rw [e, hv] at hk; cases hk)]; exact hk, hρ.set hne, by rw [x_set_ne (by omega)]; exact hB0, by rw [x_set_ne (by omega)]; exact hB2⟩
theorem t_sg_new {B : XH} {v : Nat} {a b c e : Int32} (hv : B v = none) (ho : s_out v) : t_sg (y_dif B (x_set B v (.inl (1, cV4 a b c e)))) 1 v (if c = 1 then [] else [v]) := Or.inl ⟨a, b, c, e, ho, y_newc hv, rfl⟩
/-- a hole is read alike -/
theorem y_hole {tx hv rd : Nat → Int32} {n w p : Nat} {t : Int32} (hp : l_sk tx n p < n) (hhv : ∀ h, h < 4 → hv h = rd (275 + 30 * w + (17 + h))) : (∀ e, y_th tx hv n p t = .inl e → l_holeH rd tx n w (l_sk tx n p) t = .inl e) ∧ ∀ q h, y_th tx hv n p t = .inr (q, h) → l_holeH rd tx n w (l_sk tx n p) t = .inr (q, nI h, upd rd (275 + 30 * w + (17 + h)) t) ∧ l_sk tx n p < q := by
  unfold y_th l_holeH
  cases hR : l_reads tx n (l_sk tx n p + 1) 3 with
  | inl e => exact ⟨fun e1 h => by cases h; rfl, fun q h g => by cases g⟩
  | inr x =>
    obtain ⟨q1, v1⟩ := x
    obtain ⟨hq, hv0, hv3⟩ := l_reads_ok hR hp
    obtain ⟨h1, hh, rfl⟩ := m_rngc (m := 3) rfl (by decide) ⟨hv0, hv3⟩
    have hn : n_ (nI h1) = h1 := n_nI (by omega)
    have hs := l_sk_le (tx := tx) (show l_sk tx n p + 1 ≤ n from hp)
    show (∀ e, (if ¬ hv (n_ (nI h1)) = -1 ∧ ¬ hv (n_ (nI h1)) = t then (.inl (-6, l_sk tx n p) : LE (Nat × Nat)) else .inr (q1, n_ (nI h1))) = .inl e → (if ¬ rd (275 + 30 * w + (17 + n_ (nI h1))) = -1 ∧ ¬ rd (275 + 30 * w + (17 + n_ (nI h1))) = t then (.inl (-6, l_sk tx n p) : LE (Nat × Int32 × (Nat → Int32))) else .inr (q1, nI h1, upd rd (275 + 30 * w + (17 + n_ (nI h1))) t)) = .inl e) ∧ ∀ q h, (if ¬ hv (n_ (nI h1)) = -1 ∧ ¬ hv (n_ (nI h1)) = t then (.inl (-6, l_sk tx n p) : LE (Nat × Nat)) else .inr (q1, n_ (nI h1))) = .inr (q, h) → (if ¬ rd (275 + 30 * w + (17 + n_ (nI h1))) = -1 ∧ ¬ rd (275 + 30 * w + (17 + n_ (nI h1))) = t then (.inl (-6, l_sk tx n p) : LE (Nat × Int32 × (Nat → Int32))) else .inr (q1, nI h1, upd rd (275 + 30 * w + (17 + n_ (nI h1))) t)) = .inr (q, nI h, upd rd (275 + 30 * w + (17 + h)) t) ∧ l_sk tx n p < q
    rw [hn, ← hhv h1 (by omega)]
    by_cases hcd : ¬ hv h1 = -1 ∧ ¬ hv h1 = t
    · rw [if_pos hcd, if_pos hcd]
      exact ⟨fun e h => by cases h; rfl, fun q h g => by cases g⟩
    · rw [if_neg hcd, if_neg hcd]
      exact ⟨(fun e h => by cases h), fun q h g => by cases g; exact ⟨rfl, by omega⟩⟩
theorem w_cmpN {G : XE} (hG : x_Kn G) (hK : x_KS G) {B : XH} {J bf K tk ts : Nat → Int32} {tl : Int64} {tv : Nat → Int64} {su : Nat → Nat} {D : Nat → Nat → Int32} {ρ : Nat → Nat} (hρ : y_ds ρ B) {i : Nat} {er ea : Int32} {sv ty hv : Nat → Int32} {nm : Nat → Int64} (d : Nat) (hB0 : B 0 = none) (hB2 : B 2 = none) {dep cv yt sg st ov : Int32} (hsg : sg = 60 ∨ sg = 61 ∨ sg = 62) {mc ms nb0 cells slots : Nat} {ad0 : Nat → Nat} {Qn : XH → Option Value → Prop} (hc : cells + 1 ≤ mc) (hs : slots + 4 ≤ ms) (kk : ∀ v, s_out v → B v = none → 64 ≤ v → (∀ a, a < 5 → ¬ v = ρ a) → Qn (cset (rset (x_set B v (.inl (1, cV4 cv sg 1 ov))) ρ i er ea sv nm ty hv) J bf K tk ts tl tv su D) (some (.ref v))) : x_W G mX6_readFactor (x_Z G (d + 4) mc ms ad0 nb0 Qn x_noX) (cset (rset B ρ i er ea sv nm ty hv) J bf K tk ts tl tv su D) cells slots 149 [some (.ref (ρ 0)), some (.int dep), some (.int cv), some (.int yt), some (.int sg), some (.int st), some (.int ov)] [] := by
  refine X_newK n_X6_228 rfl (by show _ + 1 ≤ mc; omega) (by show _ + 4 ≤ ms; omega) (x_K_any (y_none2 hρ hB0) (fun v hv9 h64 => ?_))
  obtain ⟨g1, g2, g3, g4⟩ := rc_new hv9
  have hρ' : y_ds ρ (x_set B v (.inl (1, y_dfl tyX0))) := hρ.set g3
  refine X_heap (g4 (.inl (1, y_dfl tyX0))) ?_
  refine X_dup rfl rfl ?_
  refine X_ld rfl rfl rfl rfl ?_
  refine X_ld rfl rfl rfl rfl ?_
  refine X_push (v := .int 1) rfl (by decide +kernel) ?_
  refine X_ld rfl rfl rfl rfl ?_
  refine X_icallv l_X6_X0_init (p_X0init hG d (rc_B hρ' g1 x_set_eq) hsg) rfl rfl rfl (Nat.le_of_ble_eq_true rfl) (Nat.le_of_ble_eq_true rfl) (by omega) (by omega) (by omega) ?_
  rw [rc_set hρ' g1 x_set_eq, x_set_set]
  exact X_aret rfl rfl (Or.inl ⟨_, rfl⟩) (Or.inr ⟨_, rfl⟩) (kk v g1 g2 h64 g3) (by omega) (by omega)
theorem w_cmpS {G : XE} (hG : x_Kn G) (hK : x_KS G) {B : XH} {J bf K tk ts : Nat → Int32} {tl : Int64} {tv : Nat → Int64} {su : Nat → Nat} {D : Nat → Nat → Int32} {ρ : Nat → Nat} (hρ : y_ds ρ B) {i : Nat} {er ea : Int32} {sv ty hv : Nat → Int32} {nm : Nat → Int64} (d : Nat) (hB0 : B 0 = none) (hB2 : B 2 = none) (her : ¬ er = 0) {dep cv yt sg st : Int32} (hsg : sg = 60 ∨ sg = 61 ∨ sg = 62) {mc ms nb0 cells slots : Nat} {ad0 : Nat → Nat} {Qn : XH → Option Value → Prop} (hc : cells + 1 ≤ mc) (hs : slots + 4 ≤ ms) (kk : ∀ v, s_out v → B v = none → 64 ≤ v → (∀ a, a < 5 → ¬ v = ρ a) → Qn (cset (rset (x_set B v (.inl (1, cV4 cv sg 1 (-1)))) ρ i er ea sv nm ty hv) J bf K tk ts tl tv su D) (some (.ref v))) : x_W G mX6_readFactor (x_Z G (d + 4) mc ms ad0 nb0 Qn x_noX) (cset (rset B ρ i er ea sv nm ty hv) J bf K tk ts tl tv su D) cells slots 128 [some (.ref (ρ 0)), some (.int dep), some (.int cv), some (.int yt), some (.int sg), some (.int st), some (.int (-1))] [] := by
  refine X_ld rfl rfl rfl rfl ?_
  refine X_get f_X6_12 rfl (c_B (hρ.o 0 (by decide)) rs_r) rfl ?_
  refine X_ld rfl rfl rfl rfl ?_
  refine X_vcall (c_B (hρ.o 1 (by decide)) (rs_st hρ)) l_X6_X5_typeOf (p_typeOfM hG d) rfl rfl rfl rfl (Nat.le_of_ble_eq_true rfl) (Nat.le_of_ble_eq_true rfl) (by omega) (by omega) (by omega) ?_
  refine X_ld rfl rfl rfl rfl ?_
  refine X_icmp_eq rfl (fun c38 => ?_) (fun c38 => ?_)
  · exact w_cmpN hG hK hρ d hB0 hB2 hsg (by omega) (by omega) kk
  · refine X_ld rfl rfl rfl rfl ?_
    refine X_push (v := .int (-6)) rfl (by decide +kernel) ?_
    refine X_ld rfl rfl rfl rfl ?_
    refine X_vcallv (c_B (hρ.o 0 (by decide)) rs_r) l_X6_X6_fail (p_failX hG hK hρ d her) rfl rfl rfl rfl (Nat.le_of_ble_eq_true rfl) (Nat.le_of_ble_eq_true rfl) (by omega) (by omega) (by omega) ?_
    exact w_cmpN hG hK hρ d hB0 hB2 hsg (by omega) (by omega) kk
theorem w_cmpT {G : XE} (hG : x_Kn G) (hK : x_KS G) {B : XH} {J bf K tk ts : Nat → Int32} {tl : Int64} {tv : Nat → Int64} {su : Nat → Nat} {D : Nat → Nat → Int32} {ρ : Nat → Nat} (hρ : y_ds ρ B) {i : Nat} {er ea : Int32} {sv ty hv : Nat → Int32} {nm : Nat → Int64} (d : Nat) (hB0 : B 0 = none) (hB2 : B 2 = none) (her : ¬ er = 0) (hek : z_er K) {rd : Nat → Int32} {m : Nat} (hcol : y_col rd sv ty nm m) {dep cv yt sg : Int32} (hsg : sg = 60 ∨ sg = 61 ∨ sg = 62) {mc ms nb0 cells slots : Nat} {ad0 : Nat → Nat} {Qn : XH → Option Value → Prop} (hc : cells + 1 ≤ mc) (hs : slots + 4 ≤ ms) (kk : ∀ v, s_out v → B v = none → 64 ≤ v → (∀ a, a < 5 → ¬ v = ρ a) → Qn (cset (rset (x_set B v (.inl (1, cV4 cv sg 1 (-1)))) ρ i er ea sv nm ty hv) J bf K tk ts tl tv su D) (some (.ref v))) : x_W G mX6_readFactor (x_Z G (d + 4) mc ms ad0 nb0 Qn x_noX) (cset (rset B ρ i er ea sv nm ty hv) J bf K tk ts tl tv su D) cells slots 51 [some (.ref (ρ 0)), some (.int dep), some (.int cv), some (.int yt), some (.int sg), none, none] [] := by
  obtain ⟨h3, h5, j, hj8, h4⟩ := id hek
  refine X_ld rfl rfl rfl rfl ?_
  refine X_get f_X6_26 rfl (c_B (hρ.o 0 (by decide)) rs_r) rfl ?_
  refine X_get f_X6_85 rfl c_T (v := .int 256) (congrArg Value.int h5) ?_
  refine X_push (v := .int 262) rfl (by decide +kernel) ?_
  refine X_icmp_ne rfl (fun c61 => ?_) (fun c61 => absurd c61 (by decide))
  refine X_ld rfl rfl rfl rfl ?_
  refine X_get f_X6_26 rfl (c_B (hρ.o 0 (by decide)) rs_r) rfl ?_
  refine X_get f_X6_85 rfl c_T (v := .int 256) (congrArg Value.int h5) ?_
  refine X_push (v := .int 63) rfl (by decide +kernel) ?_
  refine X_icmp_ne rfl (fun c93 => ?_) (fun c93 => absurd c93 (by decide))
  refine X_ld rfl rfl rfl rfl ?_
  refine X_get f_X6_26 rfl (c_B (hρ.o 0 (by decide)) rs_r) rfl ?_
  refine X_get f_X6_88 rfl c_T rfl ?_
  refine X_st rfl rfl rfl ?_
  refine X_ld rfl rfl rfl rfl ?_
  refine X_vcall (c_B (hρ.o 0 (by decide)) rs_r) l_X6_X6_takeColumn (p_takeColumnX hG hK hρ d her hek hcol) rfl rfl rfl rfl (Nat.le_of_ble_eq_true rfl) (Nat.le_of_ble_eq_true rfl) (by omega) (by omega) (by omega) ?_
  refine X_st rfl rfl rfl ?_
  exact w_cmpS hG hK hρ d hB0 hB2 her hsg (by omega) (by omega) kk
theorem w_cmpX36 {G : XE} (hG : x_Kn G) (hK : x_KS G) {B : XH} {J bf K tk ts : Nat → Int32} {tl : Int64} {tv : Nat → Int64} {su : Nat → Nat} {D : Nat → Nat → Int32} {ρ : Nat → Nat} (hρ : y_ds ρ B) {i : Nat} {er ea : Int32} {sv ty hv : Nat → Int32} {nm : Nat → Int64} (d : Nat) (hB0 : B 0 = none) (hB2 : B 2 = none) (her : ¬ er = 0) (hek : z_er K) {rd : Nat → Int32} {m : Nat} (hcol : y_col rd sv ty nm m) {dep : Int32} {mc ms nb0 cells slots : Nat} {ad0 : Nat → Nat} {Qn : XH → Option Value → Prop} (hc : cells + 1 ≤ mc) (hs : slots + 4 ≤ ms) (kk : ∀ v, s_out v → B v = none → 64 ≤ v → (∀ a, a < 5 → ¬ v = ρ a) → Qn (cset (rset (x_set B v (.inl (1, cV4 (-1) 61 1 (-1)))) ρ i er ea sv nm ty hv) J bf K tk ts tl tv su D) (some (.ref v))) : x_W G mX6_readFactor (x_Z G (d + 4) mc ms ad0 nb0 Qn x_noX) (cset (rset B ρ i er ea sv nm ty hv) J bf K tk ts tl tv su D) cells slots 36 [some (.ref (ρ 0)), some (.int dep), some (.int (-1)), none, none, none, none] [] := by
  refine X_ld rfl rfl rfl rfl ?_
  refine X_get f_X6_12 rfl (c_B (hρ.o 0 (by decide)) rs_r) rfl ?_
  refine X_ld rfl rfl rfl rfl ?_
  refine X_vcall (c_B (hρ.o 1 (by decide)) (rs_st hρ)) l_X6_X5_typeOf (p_typeOfM hG d) rfl rfl rfl rfl (Nat.le_of_ble_eq_true rfl) (Nat.le_of_ble_eq_true rfl) (by omega) (by omega) (by omega) ?_
  refine X_st rfl rfl rfl ?_
  refine X_ld rfl rfl rfl rfl ?_
  refine X_vcall (c_B (hρ.o 0 (by decide)) rs_r) l_X6_X6_takeSign (p_takeSignX hG hK hρ d her hek) rfl rfl rfl rfl (Nat.le_of_ble_eq_true rfl) (Nat.le_of_ble_eq_true rfl) (by omega) (by omega) (by omega) ?_
  refine X_st rfl rfl rfl ?_
  exact w_cmpT hG hK hρ d hB0 hB2 her hek hcol (Or.inr (Or.inl rfl)) (by omega) (by omega) kk
theorem w_cmpX {G : XE} (hG : x_Kn G) (hK : x_KS G) {B : XH} {J bf K tk ts : Nat → Int32} {tl : Int64} {tv : Nat → Int64} {su : Nat → Nat} {D : Nat → Nat → Int32} {ρ : Nat → Nat} (hρ : y_ds ρ B) {i : Nat} {er ea : Int32} {sv ty hv : Nat → Int32} {nm : Nat → Int64} (d : Nat) (hB0 : B 0 = none) (hB2 : B 2 = none) (her : ¬ er = 0) (hek : z_er K) {rd : Nat → Int32} {m : Nat} (hcol : y_col rd sv ty nm m) {dep : Int32} {mc ms nb0 cells slots : Nat} {ad0 : Nat → Nat} {Qn : XH → Option Value → Prop} (hc : cells + 1 ≤ mc) (hs : slots + 4 ≤ ms) (kk : ∀ v, s_out v → B v = none → 64 ≤ v → (∀ a, a < 5 → ¬ v = ρ a) → Qn (cset (rset (x_set B v (.inl (1, cV4 (-1) 61 1 (-1)))) ρ i er ea sv nm ty hv) J bf K tk ts tl tv su D) (some (.ref v))) : x_W G mX6_readFactor (x_Z G (d + 4) mc ms ad0 nb0 Qn x_noX) (cset (rset B ρ i er ea sv nm ty hv) J bf K tk ts tl tv su D) cells slots 31 [some (.ref (ρ 0)), some (.int dep), none, none, none, none, none] [] := by
  refine X_ld rfl rfl rfl rfl ?_
  refine X_vcall (c_B (hρ.o 0 (by decide)) rs_r) l_X6_X6_takeColumn (p_takeColumnX hG hK hρ d her hek hcol) rfl rfl rfl rfl (Nat.le_of_ble_eq_true rfl) (Nat.le_of_ble_eq_true rfl) (by omega) (by omega) (by omega) ?_
  refine X_st rfl rfl rfl ?_
  exact w_cmpX36 hG hK hρ d hB0 hB2 her hek hcol (by omega) (by omega) kk
theorem w_cmpQ {B : XH} {J bf K tk ts : Nat → Int32} {tl : Int64} {tv : Nat → Int64} {su : Nat → Nat} {D : Nat → Nat → Int32} {ρ : Nat → Nat} (hρ : y_ds ρ B) {i : Nat} {ea : Int32} {sv ty hv : Nat → Int32} {nm : Nat → Int64} (hB0 : B 0 = none) (hB2 : B 2 = none) {tx : Nat → Int32} {n c w0 p q k m v : Nat} {rd rd1 : Nat → Int32} {z : Bool} {a sg kd wi : Int32} {R : LR} (hR : R = .inr (q, s_cmpc rd1 k z a sg kd wi)) (hat : z_at tx bf n c K tl q) (g1 : s_out v) (g2 : B v = none) (h64 : 64 ≤ v) (g3 : ∀ a, a < 5 → ¬ v = ρ a) (hw6 : w0 < 6) (hk8 : k ≤ 1000) (h0 : rd1 0 = nI m) (hm5 : m ≤ 5) (hca : ∃ j, j < m ∧ a = nI j) (hsg : sg = 60 ∨ sg = 61 ∨ sg = 62) (hkd : (kd = 0 ∧ ∃ v, v ≤ 9999 ∧ wi = nI v) ∨ (kd = 1 ∧ ∃ j, j < m ∧ wi = nI j) ∨ (kd = 2 ∧ ∃ h, h < 4 ∧ wi = nI h)) (hpq : p + 3 ≤ q) (hhv : ∀ h, h < 4 → hv h = rd1 (275 + 30 * w0 + (17 + h))) (hcod : ∀ j, j < k → ∀ x, x < 6 → s_cod rd1 j x = s_cod rd j x) (hrd : ∀ j, 275 ≤ j → j < 455 → ¬ (275 + 30 * w0 + 17 ≤ j ∧ j < 275 + 30 * w0 + 21) → rd1 j = rd j) : x_QF tx bf n c w0 p (fun er ea K tl hv B => cset (rset B ρ i er ea sv nm ty hv) J bf K tk ts tl tv su D) ea B ρ 1 k rd z R (cset (rset (x_set B v (.inl (1, cV4 a sg kd wi))) ρ i 0 ea sv nm ty hv) J bf K tk ts tl tv su D) (some (.ref v)) := by
  rw [hR]
  have hn : n_ (s_cmpc rd1 k z a sg kd wi 9) = k + 1 := by rw [s_cmpc_9]; exact n_nI (by omega)
  refine ⟨K, tl, hv, _, v, (fun T => T k), (if kd = 1 then [] else [v]), hat, y_gw_new hρ hB0 hB2 g2 h64 g3, ⟨?_, ?_⟩, fun h hh => ?_, fun j hj x hx => ?_, fun j h1 h2 h3 => ?_, rfl, rfl⟩
  · rw [hn]
    exact y_tr_cmp g1 (y_newc g2) h0 hm5 hca hsg hkd
  · by_cases e : kd = 1
    · rw [if_pos e]; show 3 * 0 + p ≤ q; omega
    · rw [if_neg e]; show 3 * 1 + p ≤ q; omega
  · rw [s_cmpc_ne (by omega) (by omega)]; exact hhv h hh
  · rw [s_cmpc_lt hj hx]; exact hcod j hj x hx
  · rw [s_cmpc_ne (by omega) (by omega)]; exact hrd j h1 h2 h3
theorem w_cmpE {B : XH} {J bf K tk ts : Nat → Int32} {tl : Int64} {tv : Nat → Int64} {su : Nat → Nat} {D : Nat → Nat → Int32} {ρ : Nat → Nat} (hρ : y_ds ρ B) {i : Nat} {ea er : Int32} {sv ty hv : Nat → Int32} {nm : Nat → Int64} (hB0 : B 0 = none) (hB2 : B 2 = none) {tx : Nat → Int32} {n c w0 p k v a1 : Nat} {rd : Nat → Int32} {z : Bool} {a sg kd wi : Int32} {R : LR} (hR : R = .inl (er, a1)) (her : ¬ er = 0) (hek : z_er K) (g1 : s_out v) (g2 : B v = none) (h64 : 64 ≤ v) (g3 : ∀ a, a < 5 → ¬ v = ρ a) (hp : p ≤ n) : x_QF tx bf n c w0 p (fun er ea K tl hv B => cset (rset B ρ i er ea sv nm ty hv) J bf K tk ts tl tv su D) ea B ρ 1 k rd z R (cset (rset (x_set B v (.inl (1, cV4 a sg kd wi))) ρ i er (nI a1) sv nm ty hv) J bf K tk ts tl tv su D) (some (.ref v)) := by
  rw [hR]
  refine ⟨her, K, tl, hv, _, v, (if kd = 1 then [] else [v]), hek, y_gw_new hρ hB0 hB2 g2 h64 g3, ⟨t_sg_new g2 g1, ?_⟩, rfl, rfl⟩
  by_cases e : kd = 1
  · rw [if_pos e]; show 3 * 0 + p ≤ n + 3; omega
  · rw [if_neg e]; show 3 * 1 + p ≤ n + 3; omega
theorem w_cmp {G : XE} (hG : x_Kn G) (hK : x_KS G) {B : XH} {J bf K tk ts : Nat → Int32} {tl : Int64} {tv : Nat → Int64} {su : Nat → Nat} {D : Nat → Nat → Int32} {ρ : Nat → Nat} (hρ : y_ds ρ B) {i : Nat} {ea : Int32} {sv ty hv : Nat → Int32} {nm : Nat → Int64} (d : Nat) (hB0 : B 0 = none) (hB2 : B 2 = none) {tx : Nat → Int32} {n c p : Nat} (hr : s_rtx tx bf n) (hn8 : n ≤ 800) (hsp : z_split bf tx n tk ts tv c) (hat : z_at tx bf n c K tl p) {rd : Nat → Int32} {m : Nat} (hcol : y_col rd sv ty nm m) {w k : Nat} (hw6 : w < 6) (hk8 : k ≤ 1000) (h0 : rd 0 = nI m) (hhv : ∀ h, h < 4 → hv h = rd (275 + 30 * w + (17 + h))) {z : Bool} {dep : Int32} {mc ms nb0 cells slots : Nat} {ad0 : Nat → Nat} {Qn : XH → Option Value → Prop} (hc : cells + 1 ≤ mc) (hs : slots + 4 ≤ ms) (kk : ∀ N r, x_QF tx bf n c w p (fun er ea K tl hv B => cset (rset B ρ i er ea sv nm ty hv) J bf K tk ts tl tv su D) ea B ρ 1 k rd z (l_cmp tx n m w k z p rd) N r → Qn N r) : x_W G mX6_readFactor (x_Z G (d + 4) mc ms ad0 nb0 Qn x_noX) (cset (rset B ρ i 0 ea sv nm ty hv) J bf K tk ts tl tv su D) cells slots 31 [some (.ref (ρ 0)), some (.int dep), none, none, none, none, none] [] := by
  have hpn := hat.1
  refine X_ld rfl rfl rfl rfl ?_
  refine X_vcallP (c_B (hρ.o 0 (by decide)) rs_r) l_X6_X6_takeColumn (p_takeColumn hG hK hρ d hr hn8 hsp hat hcol) rfl rfl rfl rfl (Nat.le_of_ble_eq_true rfl) (Nat.le_of_ble_eq_true rfl) (by omega) (by omega) (by omega) (fun N1 r hq => ?_)
  cases hR : l_known rd tx n p m with
  | inl e9 =>
    obtain ⟨e9, a9⟩ := e9
    rw [hR] at hq
    obtain ⟨he9, K1, tl1, hek, rfl, rfl⟩ := hq
    refine X_stk (st' := [.int (-1)]) rfl ?_
    refine X_st rfl rfl rfl ?_
    have hLC : l_cmp tx n m w k z p rd = .inl (e9, a9) := l_bi_er hR
    exact w_cmpX36 hG hK hρ d hB0 hB2 he9 hek hcol (by omega) (by omega) (fun v g1 g2 h64 g3 => kk _ _ (w_cmpE hρ hB0 hB2 (tl := tl1) (hv := hv) hLC he9 hek g1 g2 h64 g3 hpn))
  | inr x9 =>
    obtain ⟨q1, v1⟩ := x9
    rw [hR] at hq
    obtain ⟨K1, tl1, hat1, rfl, rfl⟩ := hq
    obtain ⟨hq1, j, hj, rfl⟩ := l_known_ok hR hpn (by have := hcol.1; omega)
    have hp1 := l_sk_le (tx := tx) hpn
    have hs1 := l_sk_le (tx := tx) hq1.2
    obtain ⟨-, ejt, -, hjt⟩ := hcol.2.2 j hj
    have hnj : n_ (nI j) = j := n_nI (by have := hcol.1; omega)
    refine X_stk (st' := [.int (nI j)]) rfl ?_
    refine X_st rfl rfl rfl ?_
    refine X_ld rfl rfl rfl rfl ?_
    refine X_get f_X6_12 rfl (c_B (hρ.o 0 (by decide)) rs_r) rfl ?_
    refine X_ld rfl rfl rfl rfl ?_
    refine X_vcall (c_B (hρ.o 1 (by decide)) (rs_st hρ)) l_X6_X5_typeOf (p_typeOfG hG d (hρ.o 1 (by decide)) (rs_st hρ) (congrArg Value.int hcol.2.1) rfl (hρ.o 3 (by decide)) (rs_a2 hρ) hcol.1 hj) rfl rfl rfl rfl (Nat.le_of_ble_eq_true rfl) (Nat.le_of_ble_eq_true rfl) (by omega) (by omega) (by omega) ?_
    refine X_st rfl rfl rfl ?_
    refine X_ld rfl rfl rfl rfl ?_
    refine X_vcallP (c_B (hρ.o 0 (by decide)) rs_r) l_X6_X6_takeSign (p_takeSign hG hK hρ d hr hn8 hsp hat1) rfl rfl rfl rfl (Nat.le_of_ble_eq_true rfl) (Nat.le_of_ble_eq_true rfl) (by omega) (by omega) (by omega) (fun N1 r hq => ?_)
    by_cases hsg : l_see tx n q1 = 60 ∨ l_see tx n q1 = 61 ∨ l_see tx n q1 = 62
    · rw [show y_ts tx n q1 = _ from if_pos hsg] at hq
      obtain ⟨K2, tl2, hat2, rfl, rfl⟩ := hq
      refine X_stk (st' := [.int (l_see tx n q1)]) rfl ?_
      refine X_st rfl rfl rfl ?_
      have hLE : ∀ e, l_opd tx n m w (l_sk tx n q1 + 1) (ty j) rd = .inl e → l_cmp tx n m w k z p rd = .inl e := fun e h => (l_bi_ok hR).trans ((if_pos hsg).trans (l_bi_er (by show l_opd tx n m w (l_sk tx n q1 + 1) (s_col rd (n_ (nI j)) 8) rd = _; rw [hnj, ← ejt]; exact h)))
      have hLO : ∀ kd q v rd1, l_opd tx n m w (l_sk tx n q1 + 1) (ty j) rd = .inr (kd, q, v, rd1) → l_cmp tx n m w k z p rd = .inr (q, s_cmpc rd1 k z (nI j) (l_see tx n q1) kd v) := fun kd q v rd1 h => (l_bi_ok hR).trans ((if_pos hsg).trans (l_bi_ok (by show l_opd tx n m w (l_sk tx n q1 + 1) (s_col rd (n_ (nI j)) 8) rd = _; rw [hnj, ← ejt]; exact h)))
      have hq9 : l_sk tx n q1 < n := l_see_lt (by rcases hsg with h | h | h <;> rw [h] <;> decide)
      generalize eq2 : l_sk tx n q1 + 1 = q2 at hat2 hLE hLO
      obtain ⟨hp2, j2, hj2, hz2, k3, k4, k5, k6, ktl⟩ := id hat2
      have hs2 := l_sk_le (tx := tx) hp2
      refine X_ld rfl rfl rfl rfl ?_
      refine X_get f_X6_26 rfl (c_B (hρ.o 0 (by decide)) rs_r) rfl ?_
      refine X_get f_X6_85 rfl c_T (v := .int (z_tk bf tx n (l_sk tx n q2))) (congrArg Value.int k5) ?_
      refine X_push (v := .int 262) rfl (by decide +kernel) ?_
      refine X_icmp_ne rfl (fun c61 => ?_) (fun c61 => ?_)
      · have hnd : ¬ s_dig (l_see tx n q2) := fun q => c61 ((z_numk hr hp2).mpr q)
        refine X_ld rfl rfl rfl rfl ?_
        refine X_get f_X6_26 rfl (c_B (hρ.o 0 (by decide)) rs_r) rfl ?_
        refine X_get f_X6_85 rfl c_T (v := .int (z_tk bf tx n (l_sk tx n q2))) (congrArg Value.int k5) ?_
        refine X_push (v := .int 63) rfl (by decide +kernel) ?_
        refine X_icmp_ne rfl (fun c93 => ?_) (fun c93 => ?_)
        · have hn3 : ¬ l_see tx n q2 = 63 := fun q => c93 ((z_s' hr hp2 63 (by decide)).mpr q)
          have hOC : l_opd tx n m w q2 (ty j) rd = l_bi (l_colH rd tx n m (l_sk tx n q2) (ty j)) (fun x => .inr (1, x.1, x.2, rd)) := (if_neg hnd).trans (if_neg hn3)
          refine X_ld rfl rfl rfl rfl ?_
          refine X_get f_X6_26 rfl (c_B (hρ.o 0 (by decide)) rs_r) rfl ?_
          refine X_get f_X6_88 rfl c_T (v := .int (nI (l_sk tx n q2))) (congrArg Value.int k6) ?_
          refine X_st rfl rfl rfl ?_
          refine X_ld rfl rfl rfl rfl ?_
          refine X_vcallP (c_B (hρ.o 0 (by decide)) rs_r) l_X6_X6_takeColumn (p_takeColumn hG hK hρ d hr hn8 hsp hat2 hcol) rfl rfl rfl rfl (Nat.le_of_ble_eq_true rfl) (Nat.le_of_ble_eq_true rfl) (by omega) (by omega) (by omega) (fun N1 r hq => ?_)
          have hks := l_known_sk (rd := rd) (tx := tx) (m := m) hp2
          cases hR3 : l_known rd tx n q2 m with
          | inl e3 =>
            obtain ⟨e3, a3⟩ := e3
            rw [hR3] at hq hks
            obtain ⟨he3, K3, tl3, hek, rfl, rfl⟩ := hq
            refine X_stk (st' := [.int (-1)]) rfl ?_
            refine X_st rfl rfl rfl ?_
            have hLC := hLE _ (hOC.trans (l_bi_er (l_bi_er hks)))
            exact w_cmpS hG hK hρ d hB0 hB2 he3 hsg (by omega) (by omega) (fun v g1 g2 h64 g3 => kk _ _ (w_cmpE hρ hB0 hB2 (tl := tl3) (hv := hv) hLC he3 hek g1 g2 h64 g3 hpn))
          | inr x3 =>
            obtain ⟨q3, v3⟩ := x3
            rw [hR3] at hq hks
            obtain ⟨K3, tl3, hat3, rfl, rfl⟩ := hq
            obtain ⟨hq3, j3, hj3, rfl⟩ := l_known_ok hR3 hp2 (by have := hcol.1; omega)
            obtain ⟨-, ej3, -, -⟩ := hcol.2.2 j3 hj3
            have hn3j : n_ (nI j3) = j3 := n_nI (by have := hcol.1; omega)
            refine X_stk (st' := [.int (nI j3)]) rfl ?_
            refine X_st rfl rfl rfl ?_
            refine X_ld rfl rfl rfl rfl ?_
            refine X_get f_X6_12 rfl (c_B (hρ.o 0 (by decide)) rs_r) rfl ?_
            refine X_ld rfl rfl rfl rfl ?_
            refine X_vcall (c_B (hρ.o 1 (by decide)) (rs_st hρ)) l_X6_X5_typeOf (p_typeOfG hG d (hρ.o 1 (by decide)) (rs_st hρ) (congrArg Value.int hcol.2.1) rfl (hρ.o 3 (by decide)) (rs_a2 hρ) hcol.1 hj3) rfl rfl rfl rfl (Nat.le_of_ble_eq_true rfl) (Nat.le_of_ble_eq_true rfl) (by omega) (by omega) (by omega) ?_
            refine X_ld rfl rfl rfl rfl ?_
            refine X_icmp_eq rfl (fun c38 => ?_) (fun c38 => ?_)
            · have hcH : l_colH rd tx n m (l_sk tx n q2) (ty j) = .inr (q3, nI j3) := (l_bi_ok hks).trans (if_pos (by show s_col rd (n_ (nI j3)) 8 = ty j; rw [hn3j, ← ej3]; exact c38))
              have hLC := hLO 1 q3 (nI j3) rd (hOC.trans (l_bi_ok hcH))
              exact w_cmpN hG hK hρ d hB0 hB2 hsg (by omega) (by omega) (fun v g1 g2 h64 g3 => kk _ _ (w_cmpQ hρ hB0 hB2 hLC hat3 g1 g2 h64 g3 hw6 hk8 h0 hcol.1 ⟨j, hj, rfl⟩ hsg (Or.inr (Or.inl ⟨rfl, j3, hj3, rfl⟩)) (by omega) hhv (fun _ _ _ _ => rfl) (fun _ _ _ _ => rfl)))
            · obtain ⟨hp3, j4, hj4, hz4, m3, m4, m5, m6, mtl⟩ := id hat3
              refine X_ld rfl rfl rfl rfl ?_
              refine X_push (v := .int (-6)) rfl (by decide +kernel) ?_
              refine X_ld rfl rfl rfl rfl ?_
              refine X_vcallv (c_B (hρ.o 0 (by decide)) rs_r) l_X6_X6_fail (p_fail hG hK hρ d rfl (x := (-6)) (y := nI (l_sk tx n q2))) rfl rfl rfl rfl (Nat.le_of_ble_eq_true rfl) (Nat.le_of_ble_eq_true rfl) (by omega) (by omega) (by omega) ?_
              have hcH : l_colH rd tx n m (l_sk tx n q2) (ty j) = .inl (-6, l_sk tx n q2) := (l_bi_ok hks).trans ((if_neg (by show ¬ s_col rd (n_ (nI j3)) 8 = ty j; rw [hn3j, ← ej3]; exact c38)).trans (by rw [l_sk_sk hp2]))
              have hLC := hLE (-6, l_sk tx n q2) (hOC.trans (l_bi_er hcH))
              have hek : z_er (upd (upd K3 3 0) 5 256) := z_er_mk m4 (by have := hsp.1.2; omega)
              exact w_cmpN hG hK hρ d hB0 hB2 hsg (by omega) (by omega) (fun v g1 g2 h64 g3 => kk _ _ (w_cmpE hρ hB0 hB2 (tl := tl3) (hv := hv) hLC (by decide) hek g1 g2 h64 g3 hpn))
        · have h63 : l_see tx n q2 = 63 := (z_s' hr hp2 63 (by decide)).mp c93
          have hOC : l_opd tx n m w q2 (ty j) rd = l_bi (l_holeH rd tx n w (l_sk tx n q2) (ty j)) (fun x => .inr (2, x.1, x.2.1, x.2.2)) := (if_neg hnd).trans (if_pos h63)
          obtain ⟨hhE, hhO⟩ := y_hole (w := w) (t := ty j) (l_sk_lt3 h63) hhv
          refine X_newK n_X6_228 rfl (by show _ + 1 ≤ mc; omega) (by show _ + 4 ≤ ms; omega) (x_K_any (y_none2 hρ hB0) (fun v hv9 h64 => ?_))
          obtain ⟨g1, g2, g3, g4⟩ := rc_new hv9
          have hρ' : y_ds ρ (x_set B v (.inl (1, y_dfl tyX0))) := hρ.set g3
          refine X_heap (g4 (.inl (1, y_dfl tyX0))) ?_
          refine X_dup rfl rfl ?_
          refine X_ld rfl rfl rfl rfl ?_
          refine X_ld rfl rfl rfl rfl ?_
          refine X_push (v := .int 2) rfl (by decide +kernel) ?_
          refine X_ld rfl rfl rfl rfl ?_
          refine X_ld rfl rfl rfl rfl ?_
          refine X_vcallP (c_B (hρ'.o 0 (by decide)) rs_r) l_X6_X6_takeHole (p_takeHole hG hK hρ' d hr hn8 hsp hat2 h63 (t := ty j)) rfl rfl rfl rfl (Nat.le_of_ble_eq_true rfl) (Nat.le_of_ble_eq_true rfl) (by omega) (by omega) (by omega) (fun N1 r hq => ?_)
          cases hR3 : y_th tx hv n q2 (ty j) with
          | inl e3 =>
            obtain ⟨e3, a3⟩ := e3
            rw [hR3] at hq
            obtain ⟨he3, K3, tl3, hv3, vv, hek, rfl, rfl⟩ := hq
            refine X_stk (st' := [.int vv, .int 2, .int (l_see tx n q1), .int (nI j), .ref v, .ref v]) rfl ?_
            have hLC := hLE _ (hOC.trans (l_bi_er (hhE _ hR3)))
            refine X_icallv l_X6_X0_init (p_X0init hG d (rc_B hρ' g1 x_set_eq) hsg) rfl rfl rfl (Nat.le_of_ble_eq_true rfl) (Nat.le_of_ble_eq_true rfl) (by omega) (by omega) (by omega) ?_
            rw [rc_set hρ' g1 x_set_eq, x_set_set]
            exact X_aret rfl rfl (Or.inl ⟨_, rfl⟩) (Or.inr ⟨_, rfl⟩) (kk _ _ (w_cmpE hρ hB0 hB2 (tl := tl3) (hv := hv3) hLC he3 hek g1 g2 h64 g3 hpn)) (by omega) (by omega)
          | inr x3 =>
            obtain ⟨q3, hh3⟩ := x3
            rw [hR3] at hq
            obtain ⟨hh4, K3, tl3, hat3, rfl, rfl⟩ := hq
            refine X_stk (st' := [.int (nI hh3), .int 2, .int (l_see tx n q1), .int (nI j), .ref v, .ref v]) rfl ?_
            obtain ⟨hE3, hq3⟩ := hhO _ _ hR3
            have hLC := hLO _ _ _ _ (hOC.trans (l_bi_ok hE3))
            have hhv3 : ∀ h, h < 4 → upd hv hh3 (ty j) h = upd rd (275 + 30 * w + (17 + hh3)) (ty j) (275 + 30 * w + (17 + h)) := fun h hh => by
              unfold upd
              by_cases e : h = hh3
              · rw [if_pos e, if_pos (by omega)]
              · rw [if_neg e, if_neg (by omega)]; exact hhv h hh
            refine X_icallv l_X6_X0_init (p_X0init hG d (rc_B hρ' g1 x_set_eq) hsg) rfl rfl rfl (Nat.le_of_ble_eq_true rfl) (Nat.le_of_ble_eq_true rfl) (by omega) (by omega) (by omega) ?_
            rw [rc_set hρ' g1 x_set_eq, x_set_set]
            exact X_aret rfl rfl (Or.inl ⟨_, rfl⟩) (Or.inr ⟨_, rfl⟩) (kk _ _ (w_cmpQ hρ hB0 hB2 hLC hat3 g1 g2 h64 g3 hw6 hk8 ((updI_ne (by omega)).trans h0) hcol.1 ⟨j, hj, rfl⟩ hsg (Or.inr (Or.inr ⟨rfl, hh3, hh4, rfl⟩)) (by show p + 3 ≤ q3; omega) hhv3 (fun j' hj' x hx => updI_ne (by omega)) (fun j' h1 h2 h3 => updI_ne (by omega)))) (by omega) (by omega)
      · have hd : s_dig (l_see tx n q2) := (z_numk hr hp2).mp c61
        obtain ⟨M, hM, hM1, hM2⟩ := y_grt (t := ty j) (by rw [ejt]; exact hjt)
        have hOC : l_opd tx n m w q2 (ty j) rd = l_bi (l_reads tx n q2 (nI M)) (fun x => .inr (0, x.1, x.2, rd)) := (if_pos hd).trans (by rw [l_reads_sk hp2, hM2])
        refine X_newK n_X6_228 rfl (by show _ + 1 ≤ mc; omega) (by show _ + 4 ≤ ms; omega) (x_K_any (y_none2 hρ hB0) (fun v hv9 h64 => ?_))
        obtain ⟨g1, g2, g3, g4⟩ := rc_new hv9
        have hρ' : y_ds ρ (x_set B v (.inl (1, y_dfl tyX0))) := hρ.set g3
        refine X_heap (g4 (.inl (1, y_dfl tyX0))) ?_
        refine X_dup rfl rfl ?_
        refine X_ld rfl rfl rfl rfl ?_
        refine X_ld rfl rfl rfl rfl ?_
        refine X_push (v := .int 0) rfl (by decide +kernel) ?_
        refine X_ld rfl rfl rfl rfl ?_
        refine X_ld rfl rfl rfl rfl ?_
        refine X_sncall l_X6_X10_greatestOf (m_greatestOf hG d) rfl rfl rfl (Nat.le_of_ble_eq_true rfl) (Nat.le_of_ble_eq_true rfl) (by omega) (by omega) (by omega) ?_
        rw [hM1]
        refine X_vcallP (c_B (hρ'.o 0 (by decide)) rs_r) l_X6_X6_takeNumber (p_takeNumber hG hK hρ' d hr hn8 hsp hat2 hM) rfl rfl rfl rfl (Nat.le_of_ble_eq_true rfl) (Nat.le_of_ble_eq_true rfl) (by omega) (by omega) (by omega) (fun N1 r hq => ?_)
        cases hR3 : l_reads tx n q2 (nI M) with
        | inl e3 =>
          obtain ⟨e3, a3⟩ := e3
          rw [hR3] at hq
          obtain ⟨he3, K3, tl3, hek, rfl, rfl⟩ := hq
          refine X_stk (st' := [.int 0, .int 0, .int (l_see tx n q1), .int (nI j), .ref v, .ref v]) rfl ?_
          have hLC := hLE _ (hOC.trans (l_bi_er hR3))
          refine X_icallv l_X6_X0_init (p_X0init hG d (rc_B hρ' g1 x_set_eq) hsg) rfl rfl rfl (Nat.le_of_ble_eq_true rfl) (Nat.le_of_ble_eq_true rfl) (by omega) (by omega) (by omega) ?_
          rw [rc_set hρ' g1 x_set_eq, x_set_set]
          exact X_aret rfl rfl (Or.inl ⟨_, rfl⟩) (Or.inr ⟨_, rfl⟩) (kk _ _ (w_cmpE hρ hB0 hB2 (tl := tl3) (hv := hv) hLC he3 hek g1 g2 h64 g3 hpn)) (by omega) (by omega)
        | inr x3 =>
          obtain ⟨q3, v3⟩ := x3
          rw [hR3] at hq
          obtain ⟨K3, tl3, hat3, rfl, rfl⟩ := hq
          obtain ⟨hq3, hv0, hv3⟩ := l_reads_ok hR3 hp2
          obtain ⟨u3, hu3, rfl⟩ := m_rngc (m := M) rfl (by omega) ⟨hv0, hv3⟩
          refine X_stk (st' := [.int (nI u3), .int 0, .int (l_see tx n q1), .int (nI j), .ref v, .ref v]) rfl ?_
          have hLC := hLO _ _ _ _ (hOC.trans (l_bi_ok hR3))
          refine X_icallv l_X6_X0_init (p_X0init hG d (rc_B hρ' g1 x_set_eq) hsg) rfl rfl rfl (Nat.le_of_ble_eq_true rfl) (Nat.le_of_ble_eq_true rfl) (by omega) (by omega) (by omega) ?_
          rw [rc_set hρ' g1 x_set_eq, x_set_set]
          exact X_aret rfl rfl (Or.inl ⟨_, rfl⟩) (Or.inr ⟨_, rfl⟩) (kk _ _ (w_cmpQ hρ hB0 hB2 hLC hat3 g1 g2 h64 g3 hw6 hk8 h0 hcol.1 ⟨j, hj, rfl⟩ hsg (Or.inl ⟨rfl, u3, by omega, rfl⟩) (by show p + 3 ≤ q3; omega) hhv (fun _ _ _ _ => rfl) (fun _ _ _ _ => rfl))) (by omega) (by omega)
    · rw [show y_ts tx n q1 = _ from if_neg hsg] at hq
      obtain ⟨he2, K2, tl2, hek, rfl, rfl⟩ := hq
      refine X_stk (st' := [.int 61]) rfl ?_
      refine X_st rfl rfl rfl ?_
      have hLC : l_cmp tx n m w k z p rd = .inl (-2, l_sk tx n q1) := (l_bi_ok hR).trans (if_neg hsg)
      exact w_cmpT hG hK hρ d hB0 hB2 he2 hek hcol (Or.inr (Or.inl rfl)) (by omega) (by omega) (fun v g1 g2 h64 g3 => kk _ _ (w_cmpE hρ hB0 hB2 (tl := tl2) (hv := hv) hLC he2 hek g1 g2 h64 g3 hpn))

