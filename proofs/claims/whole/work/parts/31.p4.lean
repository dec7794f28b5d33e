/-! ===== the reference's reader: comparisons ===== -/
section MCALLR
variable {G : XE} {M Mc : XMI} {d mc ms nb0 : Nat} {ad0 : Nat → Nat} {Qn : XH → Option Value → Prop} {Qx : XH → String → Prop} {B N N1 : XH} {I : Nat → Int32} {T : Int64} {S : Nat → Nat → Int32} {rd tx gv pl : Nat → Int32} {cells slots pc pc' t : Nat} {L : List (Option Value)}
/-- a call that gives an int, and of whose end a predicate is known -/
theorem X_mcallI {idx n d' mc' ms' : Nat} {st As rest : List Value} {Q : XH → Option Value → Prop} (hk : x_LV (x_own M) idx n Mc) (hM : x_M G Mc d' mc' ms' (.ref 275 :: As) (mset B I T S rd tx gv pl) Q x_noX) (hQ : ∀ N r, Q N r → ∃ v, r = some (.int v))
    (hd : x_at (x_k M) pc = some (.invokevirtual idx, pc', t)) (hst : st = As.reverse ++ .ref 275 :: rest) (hcl : (x_y Mc).cls = RX11) (hn : As.length = n) (hrest : (rest.map fun v => v.category).sum ≤ 8) (hL : x_nL Mc ≤ 81) (hdd : d' + 1 ≤ d) (h1 : cells + mc' ≤ mc) (h2 : slots + ms' ≤ ms)
    (kk : ∀ (N1 : XH) (v : Int32), Q N1 (some (.int v)) → x_W G M (x_Z G d mc ms ad0 nb0 Qn Qx) N1 (cells + mc') (slots + ms') pc' L (.int v :: rest)) : x_W G M (x_Z G d mc ms ad0 nb0 Qn Qx) (mset B I T S rd tx gv pl) cells slots pc L st :=
  X_callV (T := TX11) (nf := 20) hk hM hd hst rfl (by rw [hcl]; rfl) hn hrest (x_fit_of hL hdd h1 h2) (fun _ _ h => h.elim) (fun N' r h => by obtain ⟨v, rfl⟩ := hQ N' r h; exact kk N' v h)
theorem X_mcallN {idx n d' mc' ms' : Nat} {st As rest : List Value} {Q : XH → Option Value → Prop} (hk : x_LV (x_own M) idx n Mc) (hM : x_M G Mc d' mc' ms' (.ref 275 :: As) (mset B I T S rd tx gv pl) Q x_noX) (hQ : ∀ N r, Q N r → r = none)
    (hd : x_at (x_k M) pc = some (.invokevirtual idx, pc', t)) (hst : st = As.reverse ++ .ref 275 :: rest) (hcl : (x_y Mc).cls = RX11) (hn : As.length = n) (hrest : (rest.map fun v => v.category).sum ≤ 8) (hL : x_nL Mc ≤ 81) (hdd : d' + 1 ≤ d) (h1 : cells + mc' ≤ mc) (h2 : slots + ms' ≤ ms)
    (kk : ∀ (N1 : XH), Q N1 none → x_W G M (x_Z G d mc ms ad0 nb0 Qn Qx) N1 (cells + mc') (slots + ms') pc' L rest) : x_W G M (x_Z G d mc ms ad0 nb0 Qn Qx) (mset B I T S rd tx gv pl) cells slots pc L st :=
  X_callV (T := TX11) (nf := 20) hk hM hd hst rfl (by rw [hcl]; rfl) hn hrest (x_fit_of hL hdd h1 h2) (fun _ _ h => h.elim) (fun N' r h => by obtain rfl := hQ N' r h; exact kk N' h)
end MCALLR
/-- what a reading step comes to: an error and its place, or more -/
abbrev LE (α : Type) : Type := (Int32 × Nat) ⊕ α
abbrev LR : Type := LE (Nat × (Nat → Int32))
def l_bi {α β : Type} (R : LE α) (g : α → LE β) : LE β := match R with
  | .inl e => .inl e
  | .inr x => g x
theorem l_bi_er {α β : Type} {R : LE α} {g : α → LE β} {e : Int32 × Nat} (h : R = .inl e) : l_bi R g = .inl e := by rw [h]; rfl
theorem l_bi_ok {α β : Type} {R : LE α} {g : α → LE β} {x : α} (h : R = .inr x) : l_bi R g = g x := by rw [h]; rfl
theorem l_bi_inr {α β : Type} {R : LE α} {g : α → LE β} {y : β} (h : l_bi R g = .inr y) : ∃ x, R = .inr x ∧ g x = .inr y := by
  cases R with
  | inl e => cases h
  | inr x => exact ⟨x, rfl, h⟩
section
variable {I I1 J : Nat → Int32} {p q n a : Nat} {e : Int32}
theorem l_er_w (h : l_er q I1 J n e a) (k : x_kI I I1) (hpq : p ≤ q) : l_er p I J n e a := by
  obtain ⟨h1, ⟨b, h2, h3⟩, h4⟩ := h
  exact ⟨x_kI.trans k h1, ⟨b, ⟨Nat.le_trans hpq h2.1, h2.2⟩, h3⟩, h4⟩
theorem l_ok_w (h : l_ok I1 J q) (k : x_kI I I1) (h13 : I1 13 = I 13) : l_ok I J q := ⟨x_kI.trans k h.1, h.2.1, h.2.2.1, h.2.2.2.trans h13⟩
end
theorem l_see_lt {tx : Nat → Int32} {n p : Nat} (h : ¬ l_see tx n p = -1) : l_sk tx n p < n := by
  by_cases h1 : l_sk tx n p < n
  · exact h1
  · exact absurd (if_neg h1) h
theorem l_see_at {tx : Nat → Int32} {n p : Nat} (h : l_sk tx n p < n) : l_see tx n p = tx (l_sk tx n p) := if_pos h
theorem l_reads_ok {tx : Nat → Int32} {n p q : Nat} {most v : Int32} (h : l_reads tx n p most = .inr (q, v)) (hpn : p ≤ n) : (l_sk tx n p < q ∧ q ≤ n) ∧ (0 : Int32) ≤ v ∧ v ≤ most := by
  unfold l_reads at h
  by_cases h1 : (48 : Int32) ≤ l_see tx n p ∧ l_see tx n p ≤ 57
  · rw [if_pos h1] at h
    by_cases h2 : (0 : Int32) ≤ l_num tx n p ∧ l_num tx n p ≤ most
    · rw [if_pos h2] at h
      cases h
      have h3 : l_sk tx n p < n := l_see_lt fun e => by rw [e] at h1; exact absurd h1.1 (by decide)
      have h4 : l_de tx n p = l_run l_dg tx n (l_sk tx n p + 1) := l_run_y (P := l_dg) h3 (decide_eq_true (by rw [← l_see_at h3]; exact h1))
      have h5 := l_run_le (P := l_dg) (tx := tx) (n := n) (p := l_sk tx n p + 1) h3
      rw [← h4] at h5
      exact ⟨⟨by omega, h5.2⟩, h2⟩
    · rw [if_neg h2] at h; cases h
  · rw [if_neg h1] at h; cases h
theorem l_known_ok {rd tx : Nat → Int32} {n p m q : Nat} {v : Int32} (h : l_known rd tx n p m = .inr (q, v)) (hpn : p ≤ n) (hm : m < 1000) : (l_sk tx n p < q ∧ q ≤ n) ∧ ∃ j, j < m ∧ v = nI j := by
  unfold l_known at h
  have hwe := l_we_le (tx := tx) hpn
  by_cases h1 : l_nm tx n p
  · rw [if_pos h1] at h
    by_cases h2 : s_sk rd tx 10 13 m (l_sk tx n p) (l_we tx n p) = -1
    · rw [if_pos h2] at h; cases h
    · rw [if_neg h2] at h
      cases h
      refine ⟨⟨h1.1, hwe.2⟩, ?_⟩
      rcases s_first_ok (P := fun t => s_eqn rd tx (10 + 13 * t) (l_sk tx n p) (l_we tx n p) 8) m (by omega) with h3 | ⟨j, h3, h4, -⟩
      · exact absurd h3.1 h2
      · exact ⟨j, h3, h4⟩
  · rw [if_neg h1] at h; cases h
/-- behind the ? at p: a hole that is compared with type t, of statement w -/
def l_holeH (rd tx : Nat → Int32) (n w p : Nat) (t : Int32) : LE (Nat × Int32 × (Nat → Int32)) :=
  l_bi (l_reads tx n (p + 1) 3) fun x => if ¬ rd (275 + 30 * w + (17 + n_ x.2)) = -1 ∧ ¬ rd (275 + 30 * w + (17 + n_ x.2)) = t then .inl (-6, p) else .inr (x.1, x.2, upd rd (275 + 30 * w + (17 + n_ x.2)) t)
def l_colH (rd tx : Nat → Int32) (n m p : Nat) (t : Int32) : LE (Nat × Int32) :=
  l_bi (l_known rd tx n p m) fun x => if rd (10 + 13 * n_ x.2 + 8) = t then .inr x else .inl (-6, l_sk tx n p)
/-- what stands behind the sign: its kind, where it ends, the operand -/
def l_opd (tx : Nat → Int32) (n m w p : Nat) (t : Int32) (rd : Nat → Int32) : LE (Int32 × Nat × Int32 × (Nat → Int32)) :=
  if (48 : Int32) ≤ l_see tx n p ∧ l_see tx n p ≤ 57 then l_bi (l_reads tx n (l_sk tx n p) (s_most t)) fun x => .inr (0, x.1, x.2, rd)
  else if l_see tx n p = 63 then l_bi (l_holeH rd tx n w (l_sk tx n p) t) fun x => .inr (2, x.1, x.2.1, x.2.2)
  else l_bi (l_colH rd tx n m (l_sk tx n p) t) fun x => .inr (1, x.1, x.2, rd)
def s_cmpc (rd : Nat → Int32) (k : Nat) (z : Bool) (c sg kd wi : Int32) : Nat → Int32 :=
  upd (upd (upd (upd (s_code rd k 0 (if z = true ∧ ¬ kd = 1 then 1 else 0)) (455 + 6 * k + 1) c) (455 + 6 * k + 2) sg) (455 + 6 * k + 3) kd) (455 + 6 * k + 4) wi
def l_cmp (tx : Nat → Int32) (n m w k : Nat) (z : Bool) (p : Nat) (rd : Nat → Int32) : LR :=
  l_bi (l_known rd tx n p m) fun x => if l_see tx n x.1 = 60 ∨ l_see tx n x.1 = 61 ∨ l_see tx n x.1 = 62 then
    l_bi (l_opd tx n m w (l_sk tx n x.1 + 1) (rd (10 + 13 * n_ x.2 + 8)) rd) fun y => .inr (y.2.1, s_cmpc y.2.2.2 k z x.2 (l_see tx n x.1) y.1 y.2.2.1)
  else .inl (-2, l_sk tx n x.1)
def x_RH (B : XH) (T : Int64) (S : Nat → Nat → Int32) (rd tx gv pl I : Nat → Int32) (p n : Nat) (R : LE (Nat × Int32 × (Nat → Int32))) : XH → Option Value → Prop := fun N r => match R with
  | .inl (e, a) => ∃ (I' rd' : Nat → Int32) (v : Int32), l_er p I I' n e a ∧ rd' 9 = rd 9 ∧ N = mset B I' T S rd' tx gv pl ∧ r = some (.int v)
  | .inr (q, v, rd1) => ∃ (I' : Nat → Int32), l_ok I I' q ∧ N = mset B I' T S rd1 tx gv pl ∧ r = some (.int v)
/-- a condition's part is read; k codes before it -/
def x_RC (B : XH) (T : Int64) (S : Nat → Nat → Int32) (tx gv pl I : Nat → Int32) (p n k : Nat) (R : LR) : XH → Option Value → Prop := fun N r => match R with
  | .inl (e, a) => ∃ (I' rd' : Nat → Int32) (k' q' : Nat), (x_kI I I' ∧ I' 9 = nI q' ∧ q' ≤ n) ∧ (I' 10 = e ∧ ¬ e = 0 ∧ I' 11 = nI a) ∧ (rd' 9 = nI k' ∧ 5 * k' + 2 * p ≤ 5 * k + 2 * q') ∧ N = mset B I' T S rd' tx gv pl ∧ r = none
  | .inr (q, rd1) => ∃ (I' : Nat → Int32), l_ok I I' q ∧ N = mset B I' T S rd1 tx gv pl ∧ r = none
section
variable {B : XH} {T : Int64} {S : Nat → Nat → Int32} {rd rd1 tx gv pl I J : Nat → Int32} {p n q a a0 k : Nat} {e v : Int32}
theorem x_RI_i {R : LE (Nat × Int32)} : ∀ N r, x_RI B T S rd tx gv pl I p n R N r → ∃ v, r = some (.int v) := fun N r h => by
  rcases R with ⟨e, a⟩ | ⟨q, v⟩
  · obtain ⟨_, v, -, -, h⟩ := h; exact ⟨v, h⟩
  · obtain ⟨_, -, -, h⟩ := h; exact ⟨v, h⟩
theorem x_RK_i {R : LE (Nat × Int32)} : ∀ N r, x_RK B T S rd tx gv pl I p n a0 R N r → ∃ v, r = some (.int v) := fun N r h => by
  rcases R with ⟨e, a⟩ | ⟨q, v⟩
  · obtain ⟨_, v, -, -, h⟩ := h; exact ⟨v, h⟩
  · obtain ⟨_, -, -, -, h⟩ := h; exact ⟨v, h⟩
theorem x_RH_i {R : LE (Nat × Int32 × (Nat → Int32))} : ∀ N r, x_RH B T S rd tx gv pl I p n R N r → ∃ v, r = some (.int v) := fun N r h => by
  rcases R with ⟨e, a⟩ | ⟨q, v, rd1⟩
  · obtain ⟨_, _, v, -, -, -, h⟩ := h; exact ⟨v, h⟩
  · obtain ⟨_, -, -, h⟩ := h; exact ⟨v, h⟩
theorem x_RVd_n {R : LE (Nat × (Nat → Int32))} : ∀ N r, x_RVd B T S tx gv pl I p n R N r → r = none := fun N r h => by
  rcases R with ⟨e, a⟩ | ⟨q, rd1⟩
  · obtain ⟨_, _, -, -, h⟩ := h; exact h
  · obtain ⟨_, -, -, h⟩ := h; exact h
theorem x_RC_n {R : LR} : ∀ N r, x_RC B T S tx gv pl I p n k R N r → r = none := fun N r h => by
  rcases R with ⟨e, a⟩ | ⟨q, rd1⟩
  · obtain ⟨_, _, _, _, -, -, -, -, h⟩ := h; exact h
  · obtain ⟨_, -, -, h⟩ := h; exact h
theorem x_RH_er {R : LE (Nat × Int32 × (Nat → Int32))} (h : R = .inl (e, a)) (hJ : l_er p I J n e a) (h9 : rd1 9 = rd 9) : x_RH B T S rd tx gv pl I p n R (mset B J T S rd1 tx gv pl) (some (.int v)) := by rw [h]; exact ⟨J, rd1, v, hJ, h9, rfl, rfl⟩
theorem x_RH_ok {R : LE (Nat × Int32 × (Nat → Int32))} (h : R = .inr (q, v, rd1)) (hJ : l_ok I J q) : x_RH B T S rd tx gv pl I p n R (mset B J T S rd1 tx gv pl) (some (.int v)) := by rw [h]; exact ⟨J, hJ, rfl, rfl⟩
theorem x_RC_er {R : LR} (h : R = .inl (e, a)) (hJ : l_er p I J n e a) (h9 : rd1 9 = nI k) : x_RC B T S tx gv pl I p n k R (mset B J T S rd1 tx gv pl) none := by
  rw [h]
  obtain ⟨h1, ⟨b, h2, h3⟩, h4, h5, h6⟩ := hJ
  exact ⟨J, rd1, k, b, ⟨h1, h3, h2.2⟩, ⟨h4, h5, h6⟩, ⟨h9, by omega⟩, rfl, rfl⟩
theorem x_RC_ok {R : LR} (h : R = .inr (q, rd1)) (hJ : l_ok I J q) : x_RC B T S tx gv pl I p n k R (mset B J T S rd1 tx gv pl) none := by rw [h]; exact ⟨J, hJ, rfl, rfl⟩
end
theorem c_holeHere {G : XE} (hG : x_Kn G) {B : XH} {I : Nat → Int32} {T : Int64} {S : Nat → Nat → Int32} {rd tx gv pl : Nat → Int32} (d : Nat) {n p : Nat} (hp : I 9 = nI p) (hn : I 8 = nI n) (hpn : p < n) (hn8 : n ≤ 800) (he : I 10 = 0) (w : Nat) (hw : I 16 = nI w) (hw6 : w < 6) {x : Int32} : x_M G mX11_holeHere (d + 3) 0 0 [.ref 275, .int x] (mset B I T S rd tx gv pl) (x_RH B T S rd tx gv pl I p n (l_holeH rd tx n w p x)) x_noX := by
  refine X_M hG okX11_holeHere rfl (L := [some (.ref 275), some (.int x), none, none, none]) rfl (Nat.le_of_ble_eq_true rfl) (fun ad0 nb0 => ?_)
  refine X_ld rfl rfl rfl rfl ?_
  refine X_get f_X11_69 rfl rfl rfl ?_
  refine X_st rfl rfl rfl ?_
  refine X_ld rfl rfl rfl rfl ?_
  refine X_dup rfl rfl ?_
  refine X_get f_X11_69 rfl rfl rfl ?_
  refine X_push (v := .int 1) rfl (by decide +kernel) ?_
  refine X_bin rfl rfl ?_
  refine X_mput f_X11_69 rfl rfl ?_
  refine X_ld rfl rfl rfl rfl ?_
  refine X_push (v := .int 0) rfl (by decide +kernel) ?_
  refine X_push (v := .int 3) rfl (by decide +kernel) ?_
  refine X_mcallI l_X11_X11_reads (c_reads hG d (p := p + 1) (updI_eq.trans (m_add hp (show (1 : Int32) = nI 1 from rfl))) ((updI_ne (by decide)).trans hn) (by omega) hn8 ((updI_ne (by decide)).trans he)) x_RI_i rfl rfl rfl rfl (Nat.le_of_ble_eq_true rfl) (Nat.le_of_ble_eq_true rfl) (Nat.le_refl _) (Nat.le_of_ble_eq_true rfl) (Nat.le_of_ble_eq_true rfl) (fun N1 vJ hRJ => ?_)
  rcases hEJ : l_reads tx n (p + 1) 3 with ⟨e, a⟩ | ⟨q, v1⟩
  · rw [hEJ] at hRJ
    obtain ⟨J, v2, hJ, rfl, hv⟩ := hRJ
    cases hv
    refine X_st rfl rfl rfl ?_
    refine X_ld rfl rfl rfl rfl ?_
    refine X_get f_X11_63 rfl rfl rfl ?_
    refine X_if_eq rfl (fun c26 => absurd (hJ.2.2.1.symm.trans c26) hJ.2.2.2.1) (fun c26 => ?_)
    refine X_push (v := .int 0) rfl (by decide +kernel) ?_
    exact X_iret rfl rfl (x_RH_er (by unfold l_holeH; exact l_bi_er hEJ) (l_er_w hJ (x_kI_upd x_kI_rfl (by omega)) (Nat.le_succ p)) rfl) (Nat.le_of_ble_eq_true rfl) (Nat.le_of_ble_eq_true rfl)
  · rw [hEJ] at hRJ
    obtain ⟨J, hJ, rfl, hv⟩ := hRJ
    cases hv
    have hq := l_reads_ok hEJ (by omega)
    have hsk := l_sk_le (tx := tx) (show p + 1 ≤ n by omega)
    obtain ⟨j, hj, rfl⟩ := m_rngc (m := 3) rfl (by omega) hq.2
    have ej : n_ (nI j) = j := nI_clamp (by omega)
    refine X_st rfl rfl rfl ?_
    refine X_ld rfl rfl rfl rfl ?_
    refine X_get f_X11_63 rfl rfl rfl ?_
    refine X_if_eq rfl (fun c26 => ?_) (fun c26 => absurd hJ.2.2.1 c26)
    refine X_ld rfl rfl rfl rfl ?_
    refine X_get f_X11_188 rfl rfl rfl ?_
    refine X_push (v := .int 17) rfl (by decide +kernel) ?_
    refine X_ld rfl rfl rfl rfl ?_
    refine X_bin rfl rfl ?_
    refine X_scall l_X11_X11_statementAt (c_statementAt hG (d + 2) ) rfl rfl rfl (Nat.le_of_ble_eq_true rfl) (Nat.le_of_ble_eq_true rfl) (Nat.le_refl _) (Nat.le_of_ble_eq_true rfl) (Nat.le_of_ble_eq_true rfl) ?_
    refine X_st rfl rfl rfl ?_
    refine X_ld rfl rfl rfl rfl ?_
    refine X_get f_X11_13 rfl rfl rfl ?_
    refine X_ld rfl rfl rfl rfl ?_
    refine X_ildn (n := 2400) (275 + 30 * w + (17 + j)) (m_statementAt ((hJ.1 16 (by omega)).trans ((updI_ne (by decide)).trans hw)) (m_add (show (17 : Int32) = nI 17 from rfl) rfl)) (by omega) (by omega) rfl rfl ?_
    refine X_push (v := .int (-1)) rfl (by decide +kernel) ?_
    refine X_icmp_eq rfl (fun c52 => ?_) (fun c52 => ?_)
    · refine X_ld rfl rfl rfl rfl ?_
      refine X_get f_X11_13 rfl rfl rfl ?_
      refine X_ld rfl rfl rfl rfl ?_
      refine X_ld rfl rfl rfl rfl ?_
      refine X_mRst (275 + 30 * w + (17 + j)) (m_statementAt ((hJ.1 16 (by omega)).trans ((updI_ne (by decide)).trans hw)) (m_add (show (17 : Int32) = nI 17 from rfl) rfl)) (by omega) rfl ?_
      refine X_ld rfl rfl rfl rfl ?_
      exact X_iret rfl rfl (x_RH_ok ((l_bi_ok hEJ).trans (by show (if ¬ rd (275 + 30 * w + (17 + n_ (nI j))) = -1 ∧ ¬ rd (275 + 30 * w + (17 + n_ (nI j))) = x then (.inl (-6, p) : LE (Nat × Int32 × (Nat → Int32))) else .inr (q, nI j, upd rd (275 + 30 * w + (17 + n_ (nI j))) x)) = _; rw [ej]; exact if_neg (fun q => q.1 c52))) (l_ok_w hJ (x_kI_upd x_kI_rfl (by omega)) (updI_ne (by decide)))) (Nat.le_of_ble_eq_true rfl) (Nat.le_of_ble_eq_true rfl)
    · refine X_ld rfl rfl rfl rfl ?_
      refine X_get f_X11_13 rfl rfl rfl ?_
      refine X_ld rfl rfl rfl rfl ?_
      refine X_ildn (n := 2400) (275 + 30 * w + (17 + j)) (m_statementAt ((hJ.1 16 (by omega)).trans ((updI_ne (by decide)).trans hw)) (m_add (show (17 : Int32) = nI 17 from rfl) rfl)) (by omega) (by omega) rfl rfl ?_
      refine X_ld rfl rfl rfl rfl ?_
      refine X_icmp_eq rfl (fun c63 => ?_) (fun c63 => ?_)
      · refine X_ld rfl rfl rfl rfl ?_
        refine X_get f_X11_13 rfl rfl rfl ?_
        refine X_ld rfl rfl rfl rfl ?_
        refine X_ld rfl rfl rfl rfl ?_
        refine X_mRst (275 + 30 * w + (17 + j)) (m_statementAt ((hJ.1 16 (by omega)).trans ((updI_ne (by decide)).trans hw)) (m_add (show (17 : Int32) = nI 17 from rfl) rfl)) (by omega) rfl ?_
        refine X_ld rfl rfl rfl rfl ?_
        exact X_iret rfl rfl (x_RH_ok ((l_bi_ok hEJ).trans (by show (if ¬ rd (275 + 30 * w + (17 + n_ (nI j))) = -1 ∧ ¬ rd (275 + 30 * w + (17 + n_ (nI j))) = x then (.inl (-6, p) : LE (Nat × Int32 × (Nat → Int32))) else .inr (q, nI j, upd rd (275 + 30 * w + (17 + n_ (nI j))) x)) = _; rw [ej]; exact if_neg (fun q => q.2 c63))) (l_ok_w hJ (x_kI_upd x_kI_rfl (by omega)) (updI_ne (by decide)))) (Nat.le_of_ble_eq_true rfl) (Nat.le_of_ble_eq_true rfl)
      · refine X_ld rfl rfl rfl rfl ?_
        refine X_push (v := .int (-6)) rfl (by decide +kernel) ?_
        refine X_ld rfl rfl rfl rfl ?_
        refine X_mcallv l_X11_X11_fails (c_fails hG (d + 2) hJ.2.2.1) rfl rfl rfl rfl (Nat.le_of_ble_eq_true rfl) (Nat.le_of_ble_eq_true rfl) (Nat.le_refl _) (Nat.le_of_ble_eq_true rfl) (Nat.le_of_ble_eq_true rfl) ?_
        refine X_ld rfl rfl rfl rfl ?_
        refine X_get f_X11_13 rfl rfl rfl ?_
        refine X_ld rfl rfl rfl rfl ?_
        refine X_ld rfl rfl rfl rfl ?_
        refine X_mRst (275 + 30 * w + (17 + j)) (m_statementAt ((hJ.1 16 (by omega)).trans ((updI_ne (by decide)).trans hw)) (m_add (show (17 : Int32) = nI 17 from rfl) rfl)) (by omega) rfl ?_
        refine X_ld rfl rfl rfl rfl ?_
        exact X_iret rfl rfl (x_RH_er ((l_bi_ok hEJ).trans (by show (if ¬ rd (275 + 30 * w + (17 + n_ (nI j))) = -1 ∧ ¬ rd (275 + 30 * w + (17 + n_ (nI j))) = x then (.inl (-6, p) : LE (Nat × Int32 × (Nat → Int32))) else .inr (q, nI j, upd rd (275 + 30 * w + (17 + n_ (nI j))) x)) = _; rw [ej]; exact if_pos ⟨c52, c63⟩)) (l_er_mk (x_kI.trans (x_kI_upd x_kI_rfl (by omega)) hJ.1) ⟨by omega, hq.1.2⟩ hJ.2.1 (by decide) hp) (updI_ne (by omega))) (Nat.le_of_ble_eq_true rfl) (Nat.le_of_ble_eq_true rfl)
theorem c_columnHere {G : XE} (hG : x_Kn G) (hK : x_KS G) {B : XH} {I : Nat → Int32} {T : Int64} {S : Nat → Nat → Int32} {rd tx gv pl : Nat → Int32} (d : Nat) {n p : Nat} (hp : I 9 = nI p) (hn : I 8 = nI n) (hpn : p ≤ n) (hn8 : n ≤ 800) (he : I 10 = 0) (m : Nat) (hr0 : rd 0 = nI m) (hm5 : m ≤ 5) {x : Int32} : x_M G mX11_columnHere (d + 7) 0 0 [.ref 275, .int x] (mset B I T S rd tx gv pl) (x_RI B T S rd tx gv pl I p n (l_colH rd tx n m p x)) x_noX := by
  refine X_M hG okX11_columnHere rfl (L := [some (.ref 275), some (.int x), none]) rfl (Nat.le_of_ble_eq_true rfl) (fun ad0 nb0 => ?_)
  refine X_ld rfl rfl rfl rfl ?_
  refine X_mcallI l_X11_X11_knownColumn (c_knownColumn hG hK d hp hn hpn hn8 he m hr0 hm5) x_RK_i rfl rfl rfl rfl (Nat.le_of_ble_eq_true rfl) (Nat.le_of_ble_eq_true rfl) (Nat.le_refl _) (Nat.le_of_ble_eq_true rfl) (Nat.le_of_ble_eq_true rfl) (fun N1 vJ hRJ => ?_)
  rcases hEJ : l_known rd tx n p m with ⟨e, a⟩ | ⟨q, v1⟩
  · rw [hEJ] at hRJ
    obtain ⟨J, v2, hJ, rfl, hv⟩ := hRJ
    cases hv
    refine X_st rfl rfl rfl ?_
    refine X_ld rfl rfl rfl rfl ?_
    refine X_get f_X11_63 rfl rfl rfl ?_
    refine X_if_ne rfl (fun c9 => ?_) (fun c9 => absurd (hJ.2.2.1.symm.trans c9) hJ.2.2.2.1)
    refine X_ld rfl rfl rfl rfl ?_
    exact X_iret rfl rfl (x_RI_er (by unfold l_colH; exact l_bi_er hEJ) hJ) (Nat.le_of_ble_eq_true rfl) (Nat.le_of_ble_eq_true rfl)
  · rw [hEJ] at hRJ
    obtain ⟨J, hJ, h14J, rfl, hv⟩ := hRJ
    cases hv
    have hq := l_known_ok hEJ hpn (by omega)
    have hsk := l_sk_le (tx := tx) hpn
    obtain ⟨j, hj, rfl⟩ := hq.2
    have ej : n_ (nI j) = j := nI_clamp (by omega)
    refine X_st rfl rfl rfl ?_
    refine X_ld rfl rfl rfl rfl ?_
    refine X_get f_X11_63 rfl rfl rfl ?_
    refine X_if_ne rfl (fun c9 => absurd hJ.2.2.1 c9) (fun c9 => ?_)
    refine X_ld rfl rfl rfl rfl ?_
    refine X_get f_X11_13 rfl rfl rfl ?_
    refine X_ld rfl rfl rfl rfl ?_
    refine X_push (v := .int 8) rfl (by decide +kernel) ?_
    refine X_scall l_X11_X11_columnAt (c_columnAt hG (d + 6) ) rfl rfl rfl (Nat.le_of_ble_eq_true rfl) (Nat.le_of_ble_eq_true rfl) (Nat.le_refl _) (Nat.le_of_ble_eq_true rfl) (Nat.le_of_ble_eq_true rfl) ?_
    refine X_ildn (n := 2400) (10 + 13 * j + 8) (m_columnAt rfl (show (8 : Int32) = nI 8 from rfl)) (by omega) (by omega) rfl rfl ?_
    refine X_ld rfl rfl rfl rfl ?_
    refine X_icmp_eq rfl (fun c24 => ?_) (fun c24 => ?_)
    · refine X_ld rfl rfl rfl rfl ?_
      exact X_iret rfl rfl (x_RI_ok ((l_bi_ok hEJ).trans (by show (if rd (10 + 13 * n_ (nI j) + 8) = x then (.inr (q, nI j) : LE (Nat × Int32)) else .inl (-6, l_sk tx n p)) = _; rw [ej]; exact if_pos c24)) hJ) (Nat.le_of_ble_eq_true rfl) (Nat.le_of_ble_eq_true rfl)
    · refine X_ld rfl rfl rfl rfl ?_
      refine X_push (v := .int (-6)) rfl (by decide +kernel) ?_
      refine X_ld rfl rfl rfl rfl ?_
      refine X_get f_X11_125 rfl rfl rfl ?_
      refine X_mcallv l_X11_X11_fails (c_fails hG (d + 6) hJ.2.2.1) rfl rfl rfl rfl (Nat.le_of_ble_eq_true rfl) (Nat.le_of_ble_eq_true rfl) (Nat.le_refl _) (Nat.le_of_ble_eq_true rfl) (Nat.le_of_ble_eq_true rfl) ?_
      refine X_ld rfl rfl rfl rfl ?_
      exact X_iret rfl rfl (x_RI_er ((l_bi_ok hEJ).trans (by show (if rd (10 + 13 * n_ (nI j) + 8) = x then (.inr (q, nI j) : LE (Nat × Int32)) else .inl (-6, l_sk tx n p)) = _; rw [ej]; exact if_neg c24)) (l_er_mk hJ.1 ⟨by omega, hq.1.2⟩ hJ.2.1 (by decide) h14J)) (Nat.le_of_ble_eq_true rfl) (Nat.le_of_ble_eq_true rfl)
theorem l_holeH_9 {rd tx rd1 : Nat → Int32} {n w p q : Nat} {t v : Int32} (h : l_holeH rd tx n w p t = .inr (q, v, rd1)) : rd1 9 = rd 9 := by
  obtain ⟨x, -, h2⟩ := l_bi_inr h
  by_cases hc : ¬ rd (275 + 30 * w + (17 + n_ x.2)) = -1 ∧ ¬ rd (275 + 30 * w + (17 + n_ x.2)) = t
  · rw [if_pos hc] at h2; cases h2
  · rw [if_neg hc] at h2
    cases h2
    exact updI_ne (by omega)
theorem l_sk_lt3 {tx : Nat → Int32} {n p : Nat} (h : l_see tx n p = 63) : l_sk tx n p < n := l_see_lt (by rw [h]; decide)
theorem c_comparison {G : XE} (hG : x_Kn G) (hK : x_KS G) {B : XH} {I : Nat → Int32} {T : Int64} {S : Nat → Nat → Int32} {rd tx gv pl : Nat → Int32} (d : Nat) {n p : Nat} (hp : I 9 = nI p) (hn : I 8 = nI n) (hpn : p ≤ n) (hn8 : n ≤ 800) (he : I 10 = 0) (m : Nat) (hr0 : rd 0 = nI m) (hm5 : m ≤ 5) (w : Nat) (hw : I 16 = nI w) (hw6 : w < 6) (k : Nat) (hk : rd 9 = nI k) (hk5 : 5 * k ≤ 2 * p) (z : Bool) : x_M G mX11_comparison (d + 8) 0 0 [.ref 275, .int (b2 z)] (mset B I T S rd tx gv pl) (x_RC B T S tx gv pl I p n k (l_cmp tx n m w k z p rd)) x_noX := by
  refine X_M hG okX11_comparison rfl (L := [some (.ref 275), some (.int (b2 z)), none, none, none, none, none, none]) rfl (Nat.le_of_ble_eq_true rfl) (fun ad0 nb0 => ?_)
  refine X_ld rfl rfl rfl rfl ?_
  refine X_mcallI l_X11_X11_knownColumn (c_knownColumn hG hK (d + 1) hp hn hpn hn8 he m hr0 hm5) x_RK_i rfl rfl rfl rfl (Nat.le_of_ble_eq_true rfl) (Nat.le_of_ble_eq_true rfl) (Nat.le_refl _) (Nat.le_of_ble_eq_true rfl) (Nat.le_of_ble_eq_true rfl) (fun N1 vJ hRJ => ?_)
  rcases hEJ : l_known rd tx n p m with ⟨e, a⟩ | ⟨q, v1⟩
  · rw [hEJ] at hRJ
    obtain ⟨J, v2, hJ, rfl, hv⟩ := hRJ
    cases hv
    refine X_st rfl rfl rfl ?_
    refine X_ld rfl rfl rfl rfl ?_
    refine X_get f_X11_63 rfl rfl rfl ?_
    refine X_if_eq rfl (fun c9 => absurd (hJ.2.2.1.symm.trans c9) hJ.2.2.2.1) (fun c9 => ?_)
    exact X_vret rfl rfl (x_RC_er (by unfold l_cmp; exact l_bi_er hEJ) hJ hk) (Nat.le_of_ble_eq_true rfl) (Nat.le_of_ble_eq_true rfl)
  · rw [hEJ] at hRJ
    obtain ⟨J, hJ, h14J, rfl, hv⟩ := hRJ
    cases hv
    have hq := l_known_ok hEJ hpn (by omega)
    have hsk := l_sk_le (tx := tx) hpn
    obtain ⟨j, hj, rfl⟩ := hq.2
    have ej : n_ (nI j) = j := nI_clamp (by omega)
    have hsq := l_sk_le (tx := tx) hq.1.2
    refine X_st rfl rfl rfl ?_
    refine X_ld rfl rfl rfl rfl ?_
    refine X_get f_X11_63 rfl rfl rfl ?_
    refine X_if_eq rfl (fun c9 => ?_) (fun c9 => absurd hJ.2.2.1 c9)
    refine X_ld rfl rfl rfl rfl ?_
    refine X_mcall l_X11_X11_sees (c_sees hG (d + 7) hJ.2.1 ((hJ.1 8 (by omega)).trans hn) hq.1.2 hn8) rfl rfl rfl rfl (Nat.le_of_ble_eq_true rfl) (Nat.le_of_ble_eq_true rfl) (Nat.le_refl _) (Nat.le_of_ble_eq_true rfl) (Nat.le_of_ble_eq_true rfl) ?_
    refine X_st rfl rfl rfl ?_
    have K146 : ∀ (J4 rd1 : Nat → Int32) (q4 : Nat) (kd wi : Int32), l_ok I J4 q4 → rd1 9 = nI k → (l_cmp tx n m w k z p rd) = .inr (q4, s_cmpc rd1 k z (nI j) (l_see tx n q) kd wi) → x_W G mX11_comparison (x_Z G (d + 8) 0 0 ad0 nb0 (x_RC B T S tx gv pl I p n k (l_cmp tx n m w k z p rd)) x_noX) (mset B J4 T S rd1 tx gv pl) 0 0 146 [some (.ref 275), some (.int (b2 z)), some (.int (nI j)), some (.int (l_see tx n q)), some (.int (rd (10 + 13 * j + 8))), some (.int kd), some (.int wi), none] [] := by
      intro J4 rd1 q4 kd wi hJ4 h9 hS
      refine X_ld rfl rfl rfl rfl ?_
      refine X_push (v := .int 0) rfl (by decide +kernel) ?_
      refine X_ld rfl rfl rfl rfl ?_
      refine X_if_eq rfl (fun c149 => ?_) (fun c149 => ?_)
      · have h149 : (z) = false := b2_0 c149
        refine X_push (v := .int 0) rfl (by decide +kernel) ?_
        refine X_mcall l_X11_X11_codes (c_codes hG (d + 6) k h9 (by omega)) rfl rfl rfl rfl (Nat.le_of_ble_eq_true rfl) (Nat.le_of_ble_eq_true rfl) (Nat.le_refl _) (Nat.le_of_ble_eq_true rfl) (Nat.le_of_ble_eq_true rfl) ?_
        refine X_st rfl rfl rfl ?_
        refine X_ld rfl rfl rfl rfl ?_
        refine X_get f_X11_13 rfl rfl rfl ?_
        refine X_ld rfl rfl rfl rfl ?_
        refine X_push (v := .int 1) rfl (by decide +kernel) ?_
        refine X_scall l_X11_X11_codeAt (c_codeAt hG (d + 7) ) rfl rfl rfl (Nat.le_of_ble_eq_true rfl) (Nat.le_of_ble_eq_true rfl) (Nat.le_refl _) (Nat.le_of_ble_eq_true rfl) (Nat.le_of_ble_eq_true rfl) ?_
        refine X_ld rfl rfl rfl rfl ?_
        refine X_mRst (455 + 6 * k + 1) (m_codeAt rfl (show (1 : Int32) = nI 1 from rfl)) (by omega) rfl ?_
        refine X_ld rfl rfl rfl rfl ?_
        refine X_get f_X11_13 rfl rfl rfl ?_
        refine X_ld rfl rfl rfl rfl ?_
        refine X_push (v := .int 2) rfl (by decide +kernel) ?_
        refine X_scall l_X11_X11_codeAt (c_codeAt hG (d + 7) ) rfl rfl rfl (Nat.le_of_ble_eq_true rfl) (Nat.le_of_ble_eq_true rfl) (Nat.le_refl _) (Nat.le_of_ble_eq_true rfl) (Nat.le_of_ble_eq_true rfl) ?_
        refine X_ld rfl rfl rfl rfl ?_
        refine X_mRst (455 + 6 * k + 2) (m_codeAt rfl (show (2 : Int32) = nI 2 from rfl)) (by omega) rfl ?_
        refine X_ld rfl rfl rfl rfl ?_
        refine X_get f_X11_13 rfl rfl rfl ?_
        refine X_ld rfl rfl rfl rfl ?_
        refine X_push (v := .int 3) rfl (by decide +kernel) ?_
        refine X_scall l_X11_X11_codeAt (c_codeAt hG (d + 7) ) rfl rfl rfl (Nat.le_of_ble_eq_true rfl) (Nat.le_of_ble_eq_true rfl) (Nat.le_refl _) (Nat.le_of_ble_eq_true rfl) (Nat.le_of_ble_eq_true rfl) ?_
        refine X_ld rfl rfl rfl rfl ?_
        refine X_mRst (455 + 6 * k + 3) (m_codeAt rfl (show (3 : Int32) = nI 3 from rfl)) (by omega) rfl ?_
        refine X_ld rfl rfl rfl rfl ?_
        refine X_get f_X11_13 rfl rfl rfl ?_
        refine X_ld rfl rfl rfl rfl ?_
        refine X_push (v := .int 4) rfl (by decide +kernel) ?_
        refine X_scall l_X11_X11_codeAt (c_codeAt hG (d + 7) ) rfl rfl rfl (Nat.le_of_ble_eq_true rfl) (Nat.le_of_ble_eq_true rfl) (Nat.le_refl _) (Nat.le_of_ble_eq_true rfl) (Nat.le_of_ble_eq_true rfl) ?_
        refine X_ld rfl rfl rfl rfl ?_
        refine X_mRst (455 + 6 * k + 4) (m_codeAt rfl (show (4 : Int32) = nI 4 from rfl)) (by omega) rfl ?_
        exact X_vret rfl rfl (x_RC_ok (by rw [hS]; unfold s_cmpc; rw [if_neg (fun q => absurd q.1 (by rw [h149]; decide))]) hJ4) (Nat.le_of_ble_eq_true rfl) (Nat.le_of_ble_eq_true rfl)
      · have h149 : (z) = true := b2_1 c149
        refine X_ld rfl rfl rfl rfl ?_
        refine X_push (v := .int 1) rfl (by decide +kernel) ?_
        refine X_icmp_eq rfl (fun c155 => ?_) (fun c155 => ?_)
        · refine X_push (v := .int 0) rfl (by decide +kernel) ?_
          refine X_mcall l_X11_X11_codes (c_codes hG (d + 6) k h9 (by omega)) rfl rfl rfl rfl (Nat.le_of_ble_eq_true rfl) (Nat.le_of_ble_eq_true rfl) (Nat.le_refl _) (Nat.le_of_ble_eq_true rfl) (Nat.le_of_ble_eq_true rfl) ?_
          refine X_st rfl rfl rfl ?_
          refine X_ld rfl rfl rfl rfl ?_
          refine X_get f_X11_13 rfl rfl rfl ?_
          refine X_ld rfl rfl rfl rfl ?_
          refine X_push (v := .int 1) rfl (by decide +kernel) ?_
          refine X_scall l_X11_X11_codeAt (c_codeAt hG (d + 7) ) rfl rfl rfl (Nat.le_of_ble_eq_true rfl) (Nat.le_of_ble_eq_true rfl) (Nat.le_refl _) (Nat.le_of_ble_eq_true rfl) (Nat.le_of_ble_eq_true rfl) ?_
          refine X_ld rfl rfl rfl rfl ?_
          refine X_mRst (455 + 6 * k + 1) (m_codeAt rfl (show (1 : Int32) = nI 1 from rfl)) (by omega) rfl ?_
          refine X_ld rfl rfl rfl rfl ?_
          refine X_get f_X11_13 rfl rfl rfl ?_
          refine X_ld rfl rfl rfl rfl ?_
          refine X_push (v := .int 2) rfl (by decide +kernel) ?_
          refine X_scall l_X11_X11_codeAt (c_codeAt hG (d + 7) ) rfl rfl rfl (Nat.le_of_ble_eq_true rfl) (Nat.le_of_ble_eq_true rfl) (Nat.le_refl _) (Nat.le_of_ble_eq_true rfl) (Nat.le_of_ble_eq_true rfl) ?_
          refine X_ld rfl rfl rfl rfl ?_
          refine X_mRst (455 + 6 * k + 2) (m_codeAt rfl (show (2 : Int32) = nI 2 from rfl)) (by omega) rfl ?_
          refine X_ld rfl rfl rfl rfl ?_
          refine X_get f_X11_13 rfl rfl rfl ?_
          refine X_ld rfl rfl rfl rfl ?_
          refine X_push (v := .int 3) rfl (by decide +kernel) ?_
          refine X_scall l_X11_X11_codeAt (c_codeAt hG (d + 7) ) rfl rfl rfl (Nat.le_of_ble_eq_true rfl) (Nat.le_of_ble_eq_true rfl) (Nat.le_refl _) (Nat.le_of_ble_eq_true rfl) (Nat.le_of_ble_eq_true rfl) ?_
          refine X_ld rfl rfl rfl rfl ?_
          refine X_mRst (455 + 6 * k + 3) (m_codeAt rfl (show (3 : Int32) = nI 3 from rfl)) (by omega) rfl ?_
          refine X_ld rfl rfl rfl rfl ?_
          refine X_get f_X11_13 rfl rfl rfl ?_
          refine X_ld rfl rfl rfl rfl ?_
          refine X_push (v := .int 4) rfl (by decide +kernel) ?_
          refine X_scall l_X11_X11_codeAt (c_codeAt hG (d + 7) ) rfl rfl rfl (Nat.le_of_ble_eq_true rfl) (Nat.le_of_ble_eq_true rfl) (Nat.le_refl _) (Nat.le_of_ble_eq_true rfl) (Nat.le_of_ble_eq_true rfl) ?_
          refine X_ld rfl rfl rfl rfl ?_
          refine X_mRst (455 + 6 * k + 4) (m_codeAt rfl (show (4 : Int32) = nI 4 from rfl)) (by omega) rfl ?_
          exact X_vret rfl rfl (x_RC_ok (by rw [hS]; unfold s_cmpc; rw [if_neg (fun q => q.2 c155)]) hJ4) (Nat.le_of_ble_eq_true rfl) (Nat.le_of_ble_eq_true rfl)
        · refine X_push (v := .int 1) rfl (by decide +kernel) ?_
          refine X_goto rfl ?_
          refine X_mcall l_X11_X11_codes (c_codes hG (d + 6) k h9 (by omega)) rfl rfl rfl rfl (Nat.le_of_ble_eq_true rfl) (Nat.le_of_ble_eq_true rfl) (Nat.le_refl _) (Nat.le_of_ble_eq_true rfl) (Nat.le_of_ble_eq_true rfl) ?_
          refine X_st rfl rfl rfl ?_
          refine X_ld rfl rfl rfl rfl ?_
          refine X_get f_X11_13 rfl rfl rfl ?_
          refine X_ld rfl rfl rfl rfl ?_
          refine X_push (v := .int 1) rfl (by decide +kernel) ?_
          refine X_scall l_X11_X11_codeAt (c_codeAt hG (d + 7) ) rfl rfl rfl (Nat.le_of_ble_eq_true rfl) (Nat.le_of_ble_eq_true rfl) (Nat.le_refl _) (Nat.le_of_ble_eq_true rfl) (Nat.le_of_ble_eq_true rfl) ?_
          refine X_ld rfl rfl rfl rfl ?_
          refine X_mRst (455 + 6 * k + 1) (m_codeAt rfl (show (1 : Int32) = nI 1 from rfl)) (by omega) rfl ?_
          refine X_ld rfl rfl rfl rfl ?_
          refine X_get f_X11_13 rfl rfl rfl ?_
          refine X_ld rfl rfl rfl rfl ?_
          refine X_push (v := .int 2) rfl (by decide +kernel) ?_
          refine X_scall l_X11_X11_codeAt (c_codeAt hG (d + 7) ) rfl rfl rfl (Nat.le_of_ble_eq_true rfl) (Nat.le_of_ble_eq_true rfl) (Nat.le_refl _) (Nat.le_of_ble_eq_true rfl) (Nat.le_of_ble_eq_true rfl) ?_
          refine X_ld rfl rfl rfl rfl ?_
          refine X_mRst (455 + 6 * k + 2) (m_codeAt rfl (show (2 : Int32) = nI 2 from rfl)) (by omega) rfl ?_
          refine X_ld rfl rfl rfl rfl ?_
          refine X_get f_X11_13 rfl rfl rfl ?_
          refine X_ld rfl rfl rfl rfl ?_
          refine X_push (v := .int 3) rfl (by decide +kernel) ?_
          refine X_scall l_X11_X11_codeAt (c_codeAt hG (d + 7) ) rfl rfl rfl (Nat.le_of_ble_eq_true rfl) (Nat.le_of_ble_eq_true rfl) (Nat.le_refl _) (Nat.le_of_ble_eq_true rfl) (Nat.le_of_ble_eq_true rfl) ?_
          refine X_ld rfl rfl rfl rfl ?_
          refine X_mRst (455 + 6 * k + 3) (m_codeAt rfl (show (3 : Int32) = nI 3 from rfl)) (by omega) rfl ?_
          refine X_ld rfl rfl rfl rfl ?_
          refine X_get f_X11_13 rfl rfl rfl ?_
          refine X_ld rfl rfl rfl rfl ?_
          refine X_push (v := .int 4) rfl (by decide +kernel) ?_
          refine X_scall l_X11_X11_codeAt (c_codeAt hG (d + 7) ) rfl rfl rfl (Nat.le_of_ble_eq_true rfl) (Nat.le_of_ble_eq_true rfl) (Nat.le_refl _) (Nat.le_of_ble_eq_true rfl) (Nat.le_of_ble_eq_true rfl) ?_
          refine X_ld rfl rfl rfl rfl ?_
          refine X_mRst (455 + 6 * k + 4) (m_codeAt rfl (show (4 : Int32) = nI 4 from rfl)) (by omega) rfl ?_
          exact X_vret rfl rfl (x_RC_ok (by rw [hS]; unfold s_cmpc; rw [if_pos ⟨h149, c155⟩]) hJ4) (Nat.le_of_ble_eq_true rfl) (Nat.le_of_ble_eq_true rfl)
    have K47 : ((l_see tx n q) = 60 ∨ (l_see tx n q) = 61 ∨ (l_see tx n q) = 62) → x_W G mX11_comparison (x_Z G (d + 8) 0 0 ad0 nb0 (x_RC B T S tx gv pl I p n k (l_cmp tx n m w k z p rd)) x_noX) (mset B (upd J 9 (nI (l_sk tx n q))) T S rd tx gv pl) 0 0 47 [some (.ref 275), some (.int (b2 z)), some (.int (nI j)), some (.int (l_see tx n q)), none, none, none, none] [] := by
      intro hsg
      have hlt : l_sk tx n q < n := l_see_lt (by rcases hsg with h | h | h <;> rw [h] <;> decide)
      refine X_ld rfl rfl rfl rfl ?_
      refine X_dup rfl rfl ?_
      refine X_get f_X11_69 rfl rfl rfl ?_
      refine X_push (v := .int 1) rfl (by decide +kernel) ?_
      refine X_bin rfl rfl ?_
      refine X_mput f_X11_69 rfl rfl ?_
      refine X_heap (N' := mset B (upd J 9 (nI (l_sk tx n q + 1))) T S rd tx gv pl) (by rw [upd_upd, show upd J 9 (nI (l_sk tx n q)) 9 + 1 = nI (l_sk tx n q + 1) from m_add (b := 1) updI_eq rfl]) ?_
      refine X_nameI (fun J2 hJ0 => ?_)
      have hJ2 : l_ok I J2 (l_sk tx n q + 1) := by rw [hJ0]; exact ⟨x_kI_upd hJ.1 (by omega), updI_eq, (updI_ne (by decide)).trans hJ.2.2.1, (updI_ne (by decide)).trans hJ.2.2.2⟩
      have hn2 : J2 8 = nI n := (hJ2.1 8 (by omega)).trans hn
      have hw2 : J2 16 = nI w := (hJ2.1 16 (by omega)).trans hw
      refine X_ld rfl rfl rfl rfl ?_
      refine X_get f_X11_13 rfl rfl rfl ?_
      refine X_ld rfl rfl rfl rfl ?_
      refine X_push (v := .int 8) rfl (by decide +kernel) ?_
      refine X_scall l_X11_X11_columnAt (c_columnAt hG (d + 7) ) rfl rfl rfl (Nat.le_of_ble_eq_true rfl) (Nat.le_of_ble_eq_true rfl) (Nat.le_refl _) (Nat.le_of_ble_eq_true rfl) (Nat.le_of_ble_eq_true rfl) ?_
      refine X_ildn (n := 2400) (10 + 13 * j + 8) (m_columnAt rfl (show (8 : Int32) = nI 8 from rfl)) (by omega) (by omega) rfl rfl ?_
      refine X_st rfl rfl rfl ?_
      refine X_ld rfl rfl rfl rfl ?_
      refine X_mcall l_X11_X11_isDigit (c_isDigit hG (d + 6) hJ2.2.1 hn2 (by omega) hn8) rfl rfl rfl rfl (Nat.le_of_ble_eq_true rfl) (Nat.le_of_ble_eq_true rfl) (Nat.le_refl _) (Nat.le_of_ble_eq_true rfl) (Nat.le_of_ble_eq_true rfl) ?_
      refine X_nameI (fun J3 hJ0 => ?_)
      have hJ3 : l_ok I J3 (l_sk tx n (l_sk tx n q + 1)) := by rw [hJ0]; exact ⟨x_kI_upd hJ2.1 (by omega), updI_eq, (updI_ne (by decide)).trans hJ2.2.2.1, (updI_ne (by decide)).trans hJ2.2.2.2⟩
      have hn3 : J3 8 = nI n := (hJ3.1 8 (by omega)).trans hn
      have hw3 : J3 16 = nI w := (hJ3.1 16 (by omega)).trans hw
      have hs3 := l_sk_le (tx := tx) (show (l_sk tx n q + 1) ≤ n by omega)
      refine X_if_eq rfl (fun c74 => ?_) (fun c74 => ?_)
      · have h74 : ¬ ((48 : Int32) ≤ l_see tx n (l_sk tx n q + 1) ∧ l_see tx n (l_sk tx n q + 1) ≤ 57) := fun q => bI_ne.mpr q c74
        refine X_ld rfl rfl rfl rfl ?_
        refine X_mcall l_X11_X11_sees (c_seesS hG (d + 7) hJ3.2.1 hn3 (by omega) hn8) rfl rfl rfl rfl (Nat.le_of_ble_eq_true rfl) (Nat.le_of_ble_eq_true rfl) (Nat.le_refl _) (Nat.le_of_ble_eq_true rfl) (Nat.le_of_ble_eq_true rfl) ?_
        refine X_push (v := .int 63) rfl (by decide +kernel) ?_
        refine X_icmp_ne rfl (fun c87 => ?_) (fun c87 => ?_)
        · refine X_push (v := .int 1) rfl (by decide +kernel) ?_
          refine X_st rfl rfl rfl ?_
          refine X_ld rfl rfl rfl rfl ?_
          refine X_if_ne rfl (fun c99 => ?_) (fun c99 => absurd c99 (by decide))
          refine X_ld rfl rfl rfl rfl ?_
          refine X_push (v := .int 2) rfl (by decide +kernel) ?_
          refine X_icmp_ne rfl (fun c118 => ?_) (fun c118 => absurd c118 (by decide))
          refine X_ld rfl rfl rfl rfl ?_
          refine X_ld rfl rfl rfl rfl ?_
          refine X_mcallI l_X11_X11_columnHere (c_columnHere hG hK d hJ3.2.1 hn3 (by omega) hn8 hJ3.2.2.1 m hr0 hm5) x_RI_i rfl rfl rfl rfl (Nat.le_of_ble_eq_true rfl) (Nat.le_of_ble_eq_true rfl) (Nat.le_refl _) (Nat.le_of_ble_eq_true rfl) (Nat.le_of_ble_eq_true rfl) (fun N1 vJ4 hRJ4 => ?_)
          rcases hEJ4 : l_colH rd tx n m (l_sk tx n (l_sk tx n q + 1)) (rd (10 + 13 * j + 8)) with ⟨e, a⟩ | ⟨q4, v1⟩
          · rw [hEJ4] at hRJ4
            obtain ⟨J4, v2, hJ4, rfl, hv⟩ := hRJ4
            cases hv
            refine X_st rfl rfl rfl ?_
            refine X_ld rfl rfl rfl rfl ?_
            refine X_get f_X11_63 rfl rfl rfl ?_
            refine X_if_eq rfl (fun c142 => absurd (hJ4.2.2.1.symm.trans c142) hJ4.2.2.2.1) (fun c142 => ?_)
            exact X_vret rfl rfl (x_RC_er ((l_bi_ok hEJ).trans ((if_pos hsg).trans (l_bi_er (by show l_opd tx n m w (l_sk tx n q + 1) (rd (10 + 13 * n_ (nI j) + 8)) rd = _; rw [ej]; unfold l_opd; exact (if_neg h74).trans ((if_neg c87).trans (l_bi_er hEJ4)))))) (l_er_w hJ4 hJ3.1 (by omega)) (hk)) (Nat.le_of_ble_eq_true rfl) (Nat.le_of_ble_eq_true rfl)
          · rw [hEJ4] at hRJ4
            obtain ⟨J4, hJ4, rfl, hv⟩ := hRJ4
            cases hv
            refine X_st rfl rfl rfl ?_
            refine X_ld rfl rfl rfl rfl ?_
            refine X_get f_X11_63 rfl rfl rfl ?_
            refine X_if_eq rfl (fun c142 => ?_) (fun c142 => absurd hJ4.2.2.1 c142)
            exact K146 J4 rd q4 1 vJ4 (l_ok_w hJ4 hJ3.1 hJ3.2.2.2) hk ((l_bi_ok hEJ).trans ((if_pos hsg).trans ((l_bi_ok (x := (1, q4, vJ4, rd)) (by show l_opd tx n m w (l_sk tx n q + 1) (rd (10 + 13 * n_ (nI j) + 8)) rd = _; rw [ej]; unfold l_opd; exact (if_neg h74).trans ((if_neg c87).trans (l_bi_ok hEJ4)))).trans rfl)))
        · refine X_push (v := .int 2) rfl (by decide +kernel) ?_
          refine X_goto rfl ?_
          refine X_st rfl rfl rfl ?_
          refine X_ld rfl rfl rfl rfl ?_
          refine X_if_ne rfl (fun c99 => ?_) (fun c99 => absurd c99 (by decide))
          refine X_ld rfl rfl rfl rfl ?_
          refine X_push (v := .int 2) rfl (by decide +kernel) ?_
          refine X_icmp_ne rfl (fun c118 => absurd (by decide) c118) (fun c118 => ?_)
          refine X_ld rfl rfl rfl rfl ?_
          refine X_ld rfl rfl rfl rfl ?_
          refine X_mcallI l_X11_X11_holeHere (c_holeHere hG (d + 4) hJ3.2.1 hn3 (l_sk_lt3 c87) hn8 hJ3.2.2.1 w hw3 hw6) x_RH_i rfl rfl rfl rfl (Nat.le_of_ble_eq_true rfl) (Nat.le_of_ble_eq_true rfl) (Nat.le_refl _) (Nat.le_of_ble_eq_true rfl) (Nat.le_of_ble_eq_true rfl) (fun N1 vJ4 hRJ4 => ?_)
          rcases hEJ4 : l_holeH rd tx n w (l_sk tx n (l_sk tx n q + 1)) (rd (10 + 13 * j + 8)) with ⟨e, a⟩ | ⟨q4, v1, rd1⟩
          · rw [hEJ4] at hRJ4
            obtain ⟨J4, rd1, v2, hJ4, h9, rfl, hv⟩ := hRJ4
            cases hv
            refine X_goto rfl ?_
            refine X_st rfl rfl rfl ?_
            refine X_ld rfl rfl rfl rfl ?_
            refine X_get f_X11_63 rfl rfl rfl ?_
            refine X_if_eq rfl (fun c142 => absurd (hJ4.2.2.1.symm.trans c142) hJ4.2.2.2.1) (fun c142 => ?_)
            exact X_vret rfl rfl (x_RC_er ((l_bi_ok hEJ).trans ((if_pos hsg).trans (l_bi_er (by show l_opd tx n m w (l_sk tx n q + 1) (rd (10 + 13 * n_ (nI j) + 8)) rd = _; rw [ej]; unfold l_opd; exact (if_neg h74).trans ((if_pos c87).trans (l_bi_er hEJ4)))))) (l_er_w hJ4 hJ3.1 (by omega)) (h9.trans hk)) (Nat.le_of_ble_eq_true rfl) (Nat.le_of_ble_eq_true rfl)
          · rw [hEJ4] at hRJ4
            obtain ⟨J4, hJ4, rfl, hv⟩ := hRJ4
            cases hv
            refine X_goto rfl ?_
            refine X_st rfl rfl rfl ?_
            refine X_ld rfl rfl rfl rfl ?_
            refine X_get f_X11_63 rfl rfl rfl ?_
            refine X_if_eq rfl (fun c142 => ?_) (fun c142 => absurd hJ4.2.2.1 c142)
            exact K146 J4 rd1 q4 2 vJ4 (l_ok_w hJ4 hJ3.1 hJ3.2.2.2) ((l_holeH_9 hEJ4).trans hk) ((l_bi_ok hEJ).trans ((if_pos hsg).trans ((l_bi_ok (x := (2, q4, vJ4, rd1)) (by show l_opd tx n m w (l_sk tx n q + 1) (rd (10 + 13 * n_ (nI j) + 8)) rd = _; rw [ej]; unfold l_opd; exact (if_neg h74).trans ((if_pos c87).trans (l_bi_ok hEJ4)))).trans rfl)))
      · have h74 : (48 : Int32) ≤ l_see tx n (l_sk tx n q + 1) ∧ l_see tx n (l_sk tx n q + 1) ≤ 57 := bI_ne.mp c74
        refine X_push (v := .int 0) rfl (by decide +kernel) ?_
        refine X_goto rfl ?_
        refine X_st rfl rfl rfl ?_
        refine X_ld rfl rfl rfl rfl ?_
        refine X_if_ne rfl (fun c99 => absurd (by decide) c99) (fun c99 => ?_)
        refine X_ld rfl rfl rfl rfl ?_
        refine X_push (v := .int 0) rfl (by decide +kernel) ?_
        refine X_ld rfl rfl rfl rfl ?_
        refine X_scall l_X11_X11_mostOf (c_mostOf hG (d + 7) ) rfl rfl rfl (Nat.le_of_ble_eq_true rfl) (Nat.le_of_ble_eq_true rfl) (Nat.le_refl _) (Nat.le_of_ble_eq_true rfl) (Nat.le_of_ble_eq_true rfl) ?_
        refine X_mcallI l_X11_X11_reads (c_reads hG (d + 5) hJ3.2.1 hn3 (by omega) hn8 hJ3.2.2.1) x_RI_i rfl rfl rfl rfl (Nat.le_of_ble_eq_true rfl) (Nat.le_of_ble_eq_true rfl) (Nat.le_refl _) (Nat.le_of_ble_eq_true rfl) (Nat.le_of_ble_eq_true rfl) (fun N1 vJ4 hRJ4 => ?_)
        rcases hEJ4 : l_reads tx n (l_sk tx n (l_sk tx n q + 1)) (s_most (rd (10 + 13 * j + 8))) with ⟨e, a⟩ | ⟨q4, v1⟩
        · rw [hEJ4] at hRJ4
          obtain ⟨J4, v2, hJ4, rfl, hv⟩ := hRJ4
          cases hv
          refine X_goto rfl ?_
          refine X_st rfl rfl rfl ?_
          refine X_ld rfl rfl rfl rfl ?_
          refine X_get f_X11_63 rfl rfl rfl ?_
          refine X_if_eq rfl (fun c142 => absurd (hJ4.2.2.1.symm.trans c142) hJ4.2.2.2.1) (fun c142 => ?_)
          exact X_vret rfl rfl (x_RC_er ((l_bi_ok hEJ).trans ((if_pos hsg).trans (l_bi_er (by show l_opd tx n m w (l_sk tx n q + 1) (rd (10 + 13 * n_ (nI j) + 8)) rd = _; rw [ej]; unfold l_opd; exact (if_pos h74).trans (l_bi_er hEJ4))))) (l_er_w hJ4 hJ3.1 (by omega)) (hk)) (Nat.le_of_ble_eq_true rfl) (Nat.le_of_ble_eq_true rfl)
        · rw [hEJ4] at hRJ4
          obtain ⟨J4, hJ4, rfl, hv⟩ := hRJ4
          cases hv
          refine X_goto rfl ?_
          refine X_st rfl rfl rfl ?_
          refine X_ld rfl rfl rfl rfl ?_
          refine X_get f_X11_63 rfl rfl rfl ?_
          refine X_if_eq rfl (fun c142 => ?_) (fun c142 => absurd hJ4.2.2.1 c142)
          exact K146 J4 rd q4 0 vJ4 (l_ok_w hJ4 hJ3.1 hJ3.2.2.2) hk ((l_bi_ok hEJ).trans ((if_pos hsg).trans ((l_bi_ok (x := (0, q4, vJ4, rd)) (by show l_opd tx n m w (l_sk tx n q + 1) (rd (10 + 13 * n_ (nI j) + 8)) rd = _; rw [ej]; unfold l_opd; exact (if_pos h74).trans (l_bi_ok hEJ4))).trans rfl)))
    refine X_ld rfl rfl rfl rfl ?_
    refine X_push (v := .int 60) rfl (by decide +kernel) ?_
    refine X_icmp_eq rfl (fun c21 => ?_) (fun c21 => ?_)
    · exact K47 (Or.inl c21)
    · refine X_ld rfl rfl rfl rfl ?_
      refine X_push (v := .int 61) rfl (by decide +kernel) ?_
      refine X_icmp_eq rfl (fun c27 => ?_) (fun c27 => ?_)
      · exact K47 (Or.inr (Or.inl c27))
      · refine X_ld rfl rfl rfl rfl ?_
        refine X_push (v := .int 62) rfl (by decide +kernel) ?_
        refine X_icmp_eq rfl (fun c33 => ?_) (fun c33 => ?_)
        · exact K47 (Or.inr (Or.inr c33))
        · refine X_ld rfl rfl rfl rfl ?_
          refine X_push (v := .int (-2)) rfl (by decide +kernel) ?_
          refine X_ld rfl rfl rfl rfl ?_
          refine X_get f_X11_69 rfl rfl rfl ?_
          refine X_mcallv l_X11_X11_fails (c_fails hG (d + 7) ((updI_ne (by decide)).trans hJ.2.2.1)) rfl rfl rfl rfl (Nat.le_of_ble_eq_true rfl) (Nat.le_of_ble_eq_true rfl) (Nat.le_refl _) (Nat.le_of_ble_eq_true rfl) (Nat.le_of_ble_eq_true rfl) ?_
          exact X_vret rfl rfl (x_RC_er ((l_bi_ok hEJ).trans (if_neg (fun h => by rcases h with h | h | h; exact c21 h; exact c27 h; exact c33 h))) (l_er_mk (x_kI_upd hJ.1 (by omega)) ⟨by omega, hsq.2⟩ updI_eq (by decide) updI_eq) hk) (Nat.le_of_ble_eq_true rfl) (Nat.le_of_ble_eq_true rfl)
