/-! ===== the reference's reader: names that are told, comparisons ===== -/
theorem l_er_9 {I J : Nat → Int32} {p n a q : Nat} {e : Int32} (h : l_er p I J n e a) (hq : p ≤ q ∧ q ≤ n) : l_er p I (upd J 9 (nI q)) n e a := by
  obtain ⟨h1, -, h3, h4, h5⟩ := h
  exact ⟨x_kI_upd h1 (by omega), ⟨q, hq, updI_eq⟩, by rw [updI_ne (by decide)]; exact h3, h4, by rw [updI_ne (by decide)]; exact h5⟩
/-- a name that isn't told yet, of the m-th of some things -/
def l_fresh (rd tx : Nat → Int32) (n p f g m : Nat) : (Int32 × Nat) ⊕ (Nat × (Nat → Int32)) :=
  if l_nm tx n p then (if s_sk rd tx f g m (l_sk tx n p) (l_we tx n p) = -1 then .inr (l_we tx n p, s_nmi rd tx (l_sk tx n p) (l_we tx n p) (f + g * m) 8) else .inl (-5, l_sk tx n p)) else .inl (-2, l_sk tx n p)
theorem c_freshName {G : XE} (hG : x_Kn G) (hK : x_KS G) {B : XH} {I : Nat → Int32} {T : Int64} {S : Nat → Nat → Int32} {rd tx gv pl : Nat → Int32} (d : Nat) {n p : Nat} (hp : I 9 = nI p) (hn : I 8 = nI n) (hpn : p ≤ n) (hn8 : n ≤ 800) (he : I 10 = 0) (f g m : Nat) (hm : m < 1000) (hb : f + g * m + 8 ≤ 2400) (hg : 8 ≤ g) {x y z : Int32} (hx : x = nI f) (hy : y = nI g) (hz : z = nI m) : x_M G mX11_freshName (d + 6) 0 0 [.ref 275, .int x, .int y, .int z] (mset B I T S rd tx gv pl) (x_RVd B T S tx gv pl I p n (l_fresh rd tx n p f g m)) x_noX := by
  refine X_M hG okX11_freshName rfl (L := [some (.ref 275), some (.int x), some (.int y), some (.int z)]) rfl (Nat.le_of_ble_eq_true rfl) (fun ad0 nb0 => ?_)
  have hsk := l_sk_le (tx := tx) hpn
  have hwe := l_we_le (tx := tx) hpn
  refine X_ld rfl rfl rfl rfl ?_
  refine X_get f_X11_63 rfl rfl rfl ?_
  refine X_if_eq rfl (fun c4 => ?_) (fun c4 => absurd he c4)
  refine X_ld rfl rfl rfl rfl ?_
  refine X_mcall l_X11_X11_isName (c_isName hG hK d hp hn hpn hn8 he) rfl rfl rfl rfl (Nat.le_of_ble_eq_true rfl) (Nat.le_of_ble_eq_true rfl) (Nat.le_refl _) (Nat.le_of_ble_eq_true rfl) (Nat.le_of_ble_eq_true rfl) ?_
  refine X_if_ne rfl (fun c12 => ?_) (fun c12 => ?_)
  · have h12 : l_nm tx n p := bI_ne.mp c12
    refine X_ld rfl rfl rfl rfl ?_
    refine X_mcallv l_X11_X11_reach (c_reach hG (d + 3) updI_eq ((updI_ne (by decide)).trans hn) hpn hn8) rfl rfl rfl rfl (Nat.le_of_ble_eq_true rfl) (Nat.le_of_ble_eq_true rfl) (Nat.le_refl _) (Nat.le_of_ble_eq_true rfl) (Nat.le_of_ble_eq_true rfl) ?_
    refine X_nameI (fun J hJ => ?_)
    have hJk : x_kI I J := by rw [hJ]; exact x_kI_upd (x_kI_upd (x_kI_upd x_kI_rfl (by omega)) (by omega)) (by omega)
    have hJ8 : J 8 = nI n := (hJk 8 (by omega)).trans hn
    have hJ9 : J 9 = nI (l_sk tx n p) := by rw [hJ, updI_ne (by decide), updI_ne (by decide)]; exact updI_eq
    have hJ10 : J 10 = 0 := by rw [hJ, updI_ne (by decide), updI_ne (by decide), updI_ne (by decide)]; exact he
    have hJ14 : J 14 = nI (l_sk tx n p) := by rw [hJ, updI_ne (by decide)]; exact updI_eq
    have hJ15 : J 15 = nI (l_we tx n p) := by rw [hJ]; exact updI_eq
    have hJ13 : J 13 = I 13 := by rw [hJ, updI_ne (by decide), updI_ne (by decide), updI_ne (by decide)]
    have hJ16 : J 16 = I 16 := by rw [hJ, updI_ne (by decide), updI_ne (by decide), updI_ne (by decide)]
    refine X_ld rfl rfl rfl rfl ?_
    refine X_ld rfl rfl rfl rfl ?_
    refine X_ld rfl rfl rfl rfl ?_
    refine X_ld rfl rfl rfl rfl ?_
    refine X_mcall l_X11_X11_seek (c_seek hG (d + 5) (l_sk tx n p) (l_we tx n p) hJ14 hJ15 (by omega) (by omega) f g m hm hb hg hx hy hz) rfl rfl rfl rfl (Nat.le_of_ble_eq_true rfl) (Nat.le_of_ble_eq_true rfl) (Nat.le_refl _) (Nat.le_of_ble_eq_true rfl) (Nat.le_of_ble_eq_true rfl) ?_
    refine X_push (v := .int (-1)) rfl (by decide +kernel) ?_
    refine X_icmp_eq rfl (fun c38 => ?_) (fun c38 => ?_)
    · refine X_ld rfl rfl rfl rfl ?_
      refine X_ld rfl rfl rfl rfl ?_
      refine X_ld rfl rfl rfl rfl ?_
      refine X_ld rfl rfl rfl rfl ?_
      refine X_bin rfl rfl ?_
      refine X_bin rfl rfl ?_
      refine X_mcallv l_X11_X11_nameInto (c_nameInto hG (d + 5) (l_sk tx n p) (l_we tx n p) hJ14 hJ15 (by omega) (by omega) (f + g * m) (by omega) (m_add hx (by rw [hy, hz]; exact pk_mul g m))) rfl rfl rfl rfl (Nat.le_of_ble_eq_true rfl) (Nat.le_of_ble_eq_true rfl) (Nat.le_refl _) (Nat.le_of_ble_eq_true rfl) (Nat.le_of_ble_eq_true rfl) ?_
      refine X_ld rfl rfl rfl rfl ?_
      refine X_ld rfl rfl rfl rfl ?_
      refine X_get f_X11_128 rfl rfl rfl ?_
      refine X_mput f_X11_69 rfl rfl ?_
      refine X_heap (N' := mset B (upd J 9 (nI (l_we tx n p))) T S (s_nmi rd tx (l_sk tx n p) (l_we tx n p) (f + g * m) 8) tx gv pl) (by rw [hJ15]) ?_
      exact X_vret rfl rfl (x_RV_ok (by unfold l_fresh; rw [if_pos h12]; exact if_pos c38) ⟨x_kI_upd hJk (by omega), updI_eq, (updI_ne (by decide)).trans hJ10, (updI_ne (by decide)).trans hJ13⟩) (Nat.le_of_ble_eq_true rfl) (Nat.le_of_ble_eq_true rfl)
    · refine X_ld rfl rfl rfl rfl ?_
      refine X_push (v := .int (-5)) rfl (by decide +kernel) ?_
      refine X_ld rfl rfl rfl rfl ?_
      refine X_get f_X11_125 rfl rfl rfl ?_
      refine X_mcallv l_X11_X11_fails (c_fails hG (d + 5) hJ10) rfl rfl rfl rfl (Nat.le_of_ble_eq_true rfl) (Nat.le_of_ble_eq_true rfl) (Nat.le_refl _) (Nat.le_of_ble_eq_true rfl) (Nat.le_of_ble_eq_true rfl) ?_
      refine X_ld rfl rfl rfl rfl ?_
      refine X_ld rfl rfl rfl rfl ?_
      refine X_ld rfl rfl rfl rfl ?_
      refine X_ld rfl rfl rfl rfl ?_
      refine X_bin rfl rfl ?_
      refine X_bin rfl rfl ?_
      refine X_mcallv l_X11_X11_nameInto (c_nameInto hG (d + 5) (l_sk tx n p) (l_we tx n p) (by rw [updI_ne (by decide), updI_ne (by decide)]; exact hJ14) (by rw [updI_ne (by decide), updI_ne (by decide)]; exact hJ15) (by omega) (by omega) (f + g * m) (by omega) (m_add hx (by rw [hy, hz]; exact pk_mul g m))) rfl rfl rfl rfl (Nat.le_of_ble_eq_true rfl) (Nat.le_of_ble_eq_true rfl) (Nat.le_refl _) (Nat.le_of_ble_eq_true rfl) (Nat.le_of_ble_eq_true rfl) ?_
      refine X_ld rfl rfl rfl rfl ?_
      refine X_ld rfl rfl rfl rfl ?_
      refine X_get f_X11_128 rfl rfl rfl ?_
      refine X_mput f_X11_69 rfl rfl ?_
      refine X_heap (N' := mset B (upd (upd (upd J 10 (-5)) 11 (J 14)) 9 (nI (l_we tx n p))) T S (s_nmi rd tx (l_sk tx n p) (l_we tx n p) (f + g * m) 8) tx gv pl) (by rw [show upd (upd J 10 (-5)) 11 (J 14) 15 = nI (l_we tx n p) by rw [updI_ne (by decide), updI_ne (by decide)]; exact hJ15]) ?_
      exact X_vret rfl rfl (x_RV_er (by unfold l_fresh; rw [if_pos h12]; exact if_neg c38) (l_er_9 (l_er_mk hJk hsk hJ9 (by decide) hJ14) ⟨Nat.le_trans hsk.1 hwe.1, hwe.2⟩)) (Nat.le_of_ble_eq_true rfl) (Nat.le_of_ble_eq_true rfl)
  · have h12 : ¬ (l_nm tx n p) := fun q => bI_ne.mpr q c12
    refine X_ld rfl rfl rfl rfl ?_
    refine X_push (v := .int (-2)) rfl (by decide +kernel) ?_
    refine X_ld rfl rfl rfl rfl ?_
    refine X_get f_X11_69 rfl rfl rfl ?_
    refine X_mcallv l_X11_X11_fails (c_fails hG (d + 5) ((updI_ne (by decide)).trans he)) rfl rfl rfl rfl (Nat.le_of_ble_eq_true rfl) (Nat.le_of_ble_eq_true rfl) (Nat.le_refl _) (Nat.le_of_ble_eq_true rfl) (Nat.le_of_ble_eq_true rfl) ?_
    exact X_vret rfl rfl (x_RV_er (by unfold l_fresh; rw [if_neg h12]) (l_er_mk (x_kI_upd x_kI_rfl (by omega)) hsk updI_eq (by decide) updI_eq)) (Nat.le_of_ble_eq_true rfl) (Nat.le_of_ble_eq_true rfl)
theorem c_freshNameE {G : XE} (hG : x_Kn G) {B : XH} {I : Nat → Int32} {T : Int64} {S : Nat → Nat → Int32} {rd tx gv pl : Nat → Int32} (d : Nat) (he : ¬ I 10 = 0) {x y z : Int32} : x_M G mX11_freshName d 0 0 [.ref 275, .int x, .int y, .int z] (mset B I T S rd tx gv pl) (x_RetV (mset B I T S rd tx gv pl)) x_noX := by
  refine X_M hG okX11_freshName rfl (L := [some (.ref 275), some (.int x), some (.int y), some (.int z)]) rfl (Nat.le_of_ble_eq_true rfl) (fun ad0 nb0 => ?_)
  refine X_ld rfl rfl rfl rfl ?_
  refine X_get f_X11_63 rfl rfl rfl ?_
  refine X_if_eq rfl (fun c4 => absurd c4 he) (fun c4 => ?_)
  exact X_vret rfl rfl ⟨rfl, rfl⟩ (Nat.le_of_ble_eq_true rfl) (Nat.le_of_ble_eq_true rfl)
/-- a column that is told -/
def l_known (rd tx : Nat → Int32) (n p m : Nat) : (Int32 × Nat) ⊕ (Nat × Int32) :=
  if l_nm tx n p then (if s_sk rd tx 10 13 m (l_sk tx n p) (l_we tx n p) = -1 then .inl (-4, l_sk tx n p) else .inr (l_we tx n p, s_sk rd tx 10 13 m (l_sk tx n p) (l_we tx n p))) else .inl (-2, l_sk tx n p)
/-- as x_RI; the name's place is kept -/
def x_RK (B : XH) (T : Int64) (S : Nat → Nat → Int32) (rd tx gv pl I : Nat → Int32) (p n a0 : Nat) (R : (Int32 × Nat) ⊕ (Nat × Int32)) : XH → Option Value → Prop := fun N r => match R with
  | .inl (e, a) => ∃ (I' : Nat → Int32) (v : Int32), l_er p I I' n e a ∧ N = mset B I' T S rd tx gv pl ∧ r = some (.int v)
  | .inr (q, v) => ∃ (I' : Nat → Int32), l_ok I I' q ∧ I' 14 = nI a0 ∧ N = mset B I' T S rd tx gv pl ∧ r = some (.int v)
section
variable {B : XH} {T : Int64} {S : Nat → Nat → Int32} {rd tx gv pl I J : Nat → Int32} {p n q a a0 : Nat} {e v : Int32} {R : (Int32 × Nat) ⊕ (Nat × Int32)}
theorem x_RK_er (h : R = .inl (e, a)) (hJ : l_er p I J n e a) : x_RK B T S rd tx gv pl I p n a0 R (mset B J T S rd tx gv pl) (some (.int v)) := by rw [h]; exact ⟨J, v, hJ, rfl, rfl⟩
theorem x_RK_ok (h : R = .inr (q, v)) (hJ : l_ok I J q) (h14 : J 14 = nI a0) : x_RK B T S rd tx gv pl I p n a0 R (mset B J T S rd tx gv pl) (some (.int v)) := by rw [h]; exact ⟨J, hJ, h14, rfl, rfl⟩
end
theorem c_knownColumn {G : XE} (hG : x_Kn G) (hK : x_KS G) {B : XH} {I : Nat → Int32} {T : Int64} {S : Nat → Nat → Int32} {rd tx gv pl : Nat → Int32} (d : Nat) {n p : Nat} (hp : I 9 = nI p) (hn : I 8 = nI n) (hpn : p ≤ n) (hn8 : n ≤ 800) (he : I 10 = 0) (m : Nat) (hr0 : rd 0 = nI m) (hm5 : m ≤ 5) : x_M G mX11_knownColumn (d + 6) 0 0 [.ref 275] (mset B I T S rd tx gv pl) (x_RK B T S rd tx gv pl I p n (l_sk tx n p) (l_known rd tx n p m)) x_noX := by
  refine X_M hG okX11_knownColumn rfl (L := [some (.ref 275), none]) rfl (Nat.le_of_ble_eq_true rfl) (fun ad0 nb0 => ?_)
  have hsk := l_sk_le (tx := tx) hpn
  have hwe := l_we_le (tx := tx) hpn
  refine X_ld rfl rfl rfl rfl ?_
  refine X_get f_X11_63 rfl rfl rfl ?_
  refine X_if_eq rfl (fun c4 => ?_) (fun c4 => absurd he c4)
  refine X_ld rfl rfl rfl rfl ?_
  refine X_mcall l_X11_X11_isName (c_isName hG hK d hp hn hpn hn8 he) rfl rfl rfl rfl (Nat.le_of_ble_eq_true rfl) (Nat.le_of_ble_eq_true rfl) (Nat.le_refl _) (Nat.le_of_ble_eq_true rfl) (Nat.le_of_ble_eq_true rfl) ?_
  refine X_if_ne rfl (fun c13 => ?_) (fun c13 => ?_)
  · have h13 : l_nm tx n p := bI_ne.mp c13
    refine X_ld rfl rfl rfl rfl ?_
    refine X_mcallv l_X11_X11_reach (c_reach hG (d + 3) updI_eq ((updI_ne (by decide)).trans hn) hpn hn8) rfl rfl rfl rfl (Nat.le_of_ble_eq_true rfl) (Nat.le_of_ble_eq_true rfl) (Nat.le_refl _) (Nat.le_of_ble_eq_true rfl) (Nat.le_of_ble_eq_true rfl) ?_
    refine X_nameI (fun J hJ => ?_)
    have hJk : x_kI I J := by rw [hJ]; exact x_kI_upd (x_kI_upd (x_kI_upd x_kI_rfl (by omega)) (by omega)) (by omega)
    have hJ8 : J 8 = nI n := (hJk 8 (by omega)).trans hn
    have hJ9 : J 9 = nI (l_sk tx n p) := by rw [hJ, updI_ne (by decide), updI_ne (by decide)]; exact updI_eq
    have hJ10 : J 10 = 0 := by rw [hJ, updI_ne (by decide), updI_ne (by decide), updI_ne (by decide)]; exact he
    have hJ14 : J 14 = nI (l_sk tx n p) := by rw [hJ, updI_ne (by decide)]; exact updI_eq
    have hJ15 : J 15 = nI (l_we tx n p) := by rw [hJ]; exact updI_eq
    have hJ13 : J 13 = I 13 := by rw [hJ, updI_ne (by decide), updI_ne (by decide), updI_ne (by decide)]
    have hJ16 : J 16 = I 16 := by rw [hJ, updI_ne (by decide), updI_ne (by decide), updI_ne (by decide)]
    refine X_ld rfl rfl rfl rfl ?_
    refine X_push (v := .int 10) rfl (by decide +kernel) ?_
    refine X_push (v := .int 13) rfl (by decide +kernel) ?_
    refine X_ld rfl rfl rfl rfl ?_
    refine X_get f_X11_13 rfl rfl rfl ?_
    refine X_push (v := .int 0) rfl (by decide +kernel) ?_
    refine X_ildn (n := 2400) 0 (show (0 : Int32) = nI 0 from rfl) (by omega) (by omega) rfl rfl ?_
    refine X_mcall l_X11_X11_seek (c_seek hG (d + 5) (l_sk tx n p) (l_we tx n p) hJ14 hJ15 (by omega) (by omega) 10 13 m (by omega) (by omega) (by decide) rfl rfl hr0) rfl rfl rfl rfl (Nat.le_of_ble_eq_true rfl) (Nat.le_of_ble_eq_true rfl) (Nat.le_refl _) (Nat.le_of_ble_eq_true rfl) (Nat.le_of_ble_eq_true rfl) ?_
    refine X_st rfl rfl rfl ?_
    refine X_ld rfl rfl rfl rfl ?_
    refine X_push (v := .int (-1)) rfl (by decide +kernel) ?_
    refine X_icmp_ne rfl (fun c49 => ?_) (fun c49 => ?_)
    · refine X_ld rfl rfl rfl rfl ?_
      refine X_ld rfl rfl rfl rfl ?_
      refine X_get f_X11_128 rfl rfl rfl ?_
      refine X_mput f_X11_69 rfl rfl ?_
      refine X_heap (N' := mset B (upd J 9 (nI (l_we tx n p))) T S rd tx gv pl) (by rw [hJ15]) ?_
      refine X_ld rfl rfl rfl rfl ?_
      exact X_iret rfl rfl (x_RK_ok (by unfold l_known; rw [if_pos h13]; exact if_neg c49) ⟨x_kI_upd hJk (by omega), updI_eq, (updI_ne (by decide)).trans hJ10, (updI_ne (by decide)).trans hJ13⟩ ((updI_ne (by decide)).trans hJ14)) (Nat.le_of_ble_eq_true rfl) (Nat.le_of_ble_eq_true rfl)
    · refine X_ld rfl rfl rfl rfl ?_
      refine X_push (v := .int (-4)) rfl (by decide +kernel) ?_
      refine X_ld rfl rfl rfl rfl ?_
      refine X_get f_X11_125 rfl rfl rfl ?_
      refine X_mcallv l_X11_X11_fails (c_fails hG (d + 5) hJ10) rfl rfl rfl rfl (Nat.le_of_ble_eq_true rfl) (Nat.le_of_ble_eq_true rfl) (Nat.le_refl _) (Nat.le_of_ble_eq_true rfl) (Nat.le_of_ble_eq_true rfl) ?_
      refine X_ld rfl rfl rfl rfl ?_
      refine X_ld rfl rfl rfl rfl ?_
      refine X_get f_X11_128 rfl rfl rfl ?_
      refine X_mput f_X11_69 rfl rfl ?_
      refine X_heap (N' := mset B (upd (upd (upd J 10 (-4)) 11 (J 14)) 9 (nI (l_we tx n p))) T S rd tx gv pl) (by rw [show upd (upd J 10 (-4)) 11 (J 14) 15 = nI (l_we tx n p) by rw [updI_ne (by decide), updI_ne (by decide)]; exact hJ15]) ?_
      refine X_ld rfl rfl rfl rfl ?_
      exact X_iret rfl rfl (x_RK_er (by unfold l_known; rw [if_pos h13]; exact if_pos c49) (l_er_9 (l_er_mk hJk hsk hJ9 (by decide) hJ14) ⟨Nat.le_trans hsk.1 hwe.1, hwe.2⟩)) (Nat.le_of_ble_eq_true rfl) (Nat.le_of_ble_eq_true rfl)
  · have h13 : ¬ (l_nm tx n p) := fun q => bI_ne.mpr q c13
    refine X_ld rfl rfl rfl rfl ?_
    refine X_push (v := .int (-2)) rfl (by decide +kernel) ?_
    refine X_ld rfl rfl rfl rfl ?_
    refine X_get f_X11_69 rfl rfl rfl ?_
    refine X_mcallv l_X11_X11_fails (c_fails hG (d + 5) ((updI_ne (by decide)).trans he)) rfl rfl rfl rfl (Nat.le_of_ble_eq_true rfl) (Nat.le_of_ble_eq_true rfl) (Nat.le_refl _) (Nat.le_of_ble_eq_true rfl) (Nat.le_of_ble_eq_true rfl) ?_
    refine X_push (v := .int (-1)) rfl (by decide +kernel) ?_
    exact X_iret rfl rfl (x_RK_er (by unfold l_known; rw [if_neg h13]) (l_er_mk (x_kI_upd x_kI_rfl (by omega)) hsk updI_eq (by decide) updI_eq)) (Nat.le_of_ble_eq_true rfl) (Nat.le_of_ble_eq_true rfl)
theorem c_knownColumnE {G : XE} (hG : x_Kn G) {B : XH} {I : Nat → Int32} {T : Int64} {S : Nat → Nat → Int32} {rd tx gv pl : Nat → Int32} (d : Nat) (he : ¬ I 10 = 0) : x_M G mX11_knownColumn d 0 0 [.ref 275] (mset B I T S rd tx gv pl) (x_Ret (mset B I T S rd tx gv pl) (.int (-1))) x_noX := by
  refine X_M hG okX11_knownColumn rfl (L := [some (.ref 275), none]) rfl (Nat.le_of_ble_eq_true rfl) (fun ad0 nb0 => ?_)
  refine X_ld rfl rfl rfl rfl ?_
  refine X_get f_X11_63 rfl rfl rfl ?_
  refine X_if_eq rfl (fun c4 => absurd c4 he) (fun c4 => ?_)
  refine X_push (v := .int (-1)) rfl (by decide +kernel) ?_
  exact X_iret rfl rfl ⟨rfl, rfl⟩ (Nat.le_of_ble_eq_true rfl) (Nat.le_of_ble_eq_true rfl)
