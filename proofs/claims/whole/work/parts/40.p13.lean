/-! ===== the reference: load ===== -/
theorem l_rep_ok {tx : Nat → Int32} {n w : Nat} {g : Nat → Nat → (Nat → Int32) → LR} (hg : ∀ (a p : Nat) (rd rd1 : Nat → Int32) (q : Nat), s_iv n p rd → g a p rd = .inr (q, rd1) → s_iv n q rd1) : ∀ (f p : Nat) (rd rd1 : Nat → Int32) (q : Nat), s_iv n p rd → l_rep tx n w g f p rd = .inr (q, rd1) → s_iv n q rd1
  | 0, p, rd, rd1, q, hv, h => by cases h
  | f + 1, p, rd, rd1, q, hv, h => by
    change (if l_isw tx n p (x_w w) = true then l_bi (g (l_sk tx n p) (l_tk tx n p (x_w w)) rd) (fun x => l_rep tx n w g f x.1 x.2) else (.inr (l_sk tx n p, rd) : LR)) = .inr (q, rd1) at h
    by_cases hw : l_isw tx n p (x_w w) = true
    · rw [if_pos hw] at h
      obtain ⟨x, h1, h2⟩ := l_bi_inr h
      exact l_rep_ok hg f _ _ _ _ (hg _ _ _ _ _ (s_iv_tk hv) h1) h2
    · rw [if_neg hw] at h
      cases h
      exact s_iv_sk hv
theorem l_txt_ok {tx rd1 : Nat → Int32} {n q : Nat} (hn8 : n ≤ 800) (h : l_txt tx n = .inr (q, rd1)) : s_iv n q rd1 := by
  unfold l_txt at h
  by_cases h1 : l_isw tx n 0 (x_w 0) = true
  · rw [if_pos h1] at h
    have htk := l_tk_le (tx := tx) (w := x_w 0) (Nat.zero_le n)
    obtain ⟨x0, g0, h⟩ := l_bi_inr h
    obtain ⟨gw, gr⟩ := l_want_ok g0 (by decide) htk.2
    have v0 : s_iv n x0.1 x0.2 := by rw [gr]; exact ⟨gw.2, ⟨0, by omega, rfl⟩, ⟨0, by omega, rfl⟩, ⟨0, by omega, rfl⟩, 0, rfl, by omega⟩
    obtain ⟨x1, g1, h⟩ := l_bi_inr h
    have v1_ := l_rep_ok (fun a p rd rd1 q hv hR => (g_col_ok hv hR).1) _ _ _ _ _ v0 g1
    obtain ⟨x2, g2, h⟩ := l_bi_inr h
    have v2_ := l_rep_ok (fun a p rd rd1 q hv hR => (g_idx_ok hv hR).1) _ _ _ _ _ v1_ g2
    obtain ⟨x3, g3, h⟩ := l_bi_inr h
    have v3_ := l_rep_ok (fun a p rd rd1 q hv hR => (g_row_ok hv hR).1) _ _ _ _ _ v2_ g3
    obtain ⟨x4, g4, h⟩ := l_bi_inr h
    have v4_ := l_rep_ok (fun a p rd rd1 q hv hR => (g_prep_ok hn8 hv hR).1) _ _ _ _ _ v3_ g4
    obtain ⟨x5, g5, h⟩ := l_bi_inr h
    have v5_ : s_iv n x5.1 x5.2 := by
      by_cases hc : l_isw tx n x4.1 (x_w 11) = true
      · rw [if_pos hc] at g5; exact (l_costLine_ok (s_iv_tk v4_) g5).1
      · rw [if_neg hc] at g5; cases g5; exact s_iv_sk v4_
    obtain ⟨x6, g6, h⟩ := l_bi_inr h
    have v6_ : s_iv n x6.1 x6.2 := by
      by_cases hc : l_isw tx n x5.1 (x_w 12) = true
      · rw [if_pos hc] at g6; exact (l_triesLine_ok (s_iv_tk v5_) g6).1
      · rw [if_neg hc] at g6; cases g6; exact s_iv_sk v5_
    unfold l_t6 at h
    by_cases hc : l_see tx n x6.1 = -1
    · rw [if_pos hc] at h; cases h; exact s_iv_sk v6_
    · rw [if_neg hc] at h; cases h
  · rw [if_neg h1] at h; cases h
/-- the row that a setup text gives -/
def s_ldd (rd : Nat → Int32) : Nat → Int32 := s_look rd (s_lm rd) (s_cm rd)
def s_ldr (S : Nat → Nat → Int32) (w : Nat) (rd : Nat → Int32) (k : Nat) : Nat → Nat → Int32 := updR S w (fun j => if j < k then rd j else S w j)
theorem s_ldr_0 {S : Nat → Nat → Int32} {w : Nat} {rd : Nat → Int32} : S = s_ldr S w rd 0 := updR_self.trans (congrArg (updR S w) (by funext j; rw [if_neg (Nat.not_lt_zero j)]))
theorem s_ldr_1 {S : Nat → Nat → Int32} {w k : Nat} {rd : Nat → Int32} : updS (s_ldr S w rd k) w k (rd k) = s_ldr S w rd (k + 1) := by
  show updR (s_ldr S w rd k) w (upd (s_ldr S w rd k w) k (rd k)) = _
  unfold s_ldr
  rw [updR_updR, updR_eq]
  congr 1
  funext j
  unfold upd
  by_cases h : j = k
  · rw [if_pos h, if_pos (by omega), h]
  · rw [if_neg h]
    show (if j < k then rd j else S w j) = _
    by_cases h2 : j < k
    · rw [if_pos h2, if_pos (by omega)]
    · rw [if_neg h2, if_neg (by omega)]
theorem X_ldrE {G : XE} {M : XMI} {Z : XZ} {cells slots pc : Nat} {L : List (Option Value)} {st : List Value} {B : XH} {I : Nat → Int32} {T : Int64} {S : Nat → Nat → Int32} {rd rd1 tx gv pl : Nat → Int32} {w : Nat} (kk : x_W G M Z (mset B I T (updR S w rd1) rd tx gv pl) cells slots pc L st) : x_W G M Z (mset B I T (s_ldr S w rd1 2400) rd tx gv pl) cells slots pc L st := by
  refine X_arre (a := 276) (mu := true) (ty := .int) (n := 21600) (f := fun j => .int (s_ldr S w rd1 2400 (j / 2400) (j % 2400))) (f' := fun j => .int (updR S w rd1 (j / 2400) (j % 2400))) rfl (fun j hj => ?_) ?_
  · have hm : j % 2400 < 2400 := Nat.mod_lt _ (by decide)
    unfold s_ldr updR
    by_cases h : j / 2400 = w
    · rw [if_pos h, if_pos h, if_pos hm]
    · rw [if_neg h, if_neg h]
  · have e : x_set (mset B I T (s_ldr S w rd1 2400) rd tx gv pl) 276 (.inr (true, .int, 21600, fun j => .int (updR S w rd1 (j / 2400) (j % 2400)))) = mset B I T (updR S w rd1) rd tx gv pl := by
      funext j
      unfold x_set
      by_cases hj : j = 276
      · rw [if_pos hj, hj]; rfl
      · rw [if_neg hj]
        unfold mset
        rw [beq_ne hj]
        rfl
    rw [e]
    exact kk
/-- what load comes to: n bytes of text are read -/
def x_RLd (B : XH) (I : Nat → Int32) (T : Int64) (S : Nat → Nat → Int32) (rd tx gv pl : Nat → Int32) (w u b : Nat) (x : Int32) : XH → Option Value → Prop := fun N r =>
  if (0 : Int32) ≤ x ∧ x ≤ nI b then (match l_txt tx (n_ x) with
    | .inl (e, a) => ∃ (I' rd' : Nat → Int32), (I' 0 = 0 ∧ I' 3 = nI w ∧ I' 4 = nI u ∧ I' 6 = nI 0 ∧ I' 7 = nI a) ∧ N = mset B I' T S rd' tx gv pl ∧ r = some (.int e)
    | .inr (_, rd1) => ∃ (I' rd' : Nat → Int32), (I' 0 = 0 ∧ I' 3 = nI (s_nx w) ∧ I' 4 = nI (s_u8 u) ∧ I' 6 = nI 0 ∧ I' 7 = -1) ∧ N = mset B I' T (updR S (s_nx w) (s_ldd rd1)) rd' tx gv pl ∧ r = some (.int (rd1 2)))
  else N = mset B (upd I 0 1) T S rd tx gv pl ∧ r = some (.int 0)
section
variable {B : XH} {I J : Nat → Int32} {T : Int64} {S : Nat → Nat → Int32} {rd rd1 tx gv pl : Nat → Int32} {w u b L a q : Nat} {x e : Int32}
theorem x_RLd_er (hx : (0 : Int32) ≤ x ∧ x ≤ nI b) (hL : n_ x = L) (h : l_txt tx L = .inl (e, a)) (hJ : J 0 = 0 ∧ J 3 = nI w ∧ J 4 = nI u ∧ J 6 = nI 0 ∧ J 7 = nI a) : x_RLd B I T S rd tx gv pl w u b x (mset B J T S rd1 tx gv pl) (some (.int e)) := by
  unfold x_RLd
  rw [if_pos hx, hL, h]
  exact ⟨J, rd1, hJ, rfl, rfl⟩
theorem x_RLd_ok (hx : (0 : Int32) ≤ x ∧ x ≤ nI b) (hL : n_ x = L) (h : l_txt tx L = .inr (q, rd1)) (hJ : J 0 = 0 ∧ J 3 = nI (s_nx w) ∧ J 4 = nI (s_u8 u) ∧ J 6 = nI 0 ∧ J 7 = -1) : x_RLd B I T S rd tx gv pl w u b x (mset B J T (updR S (s_nx w) (s_ldd rd1)) rd1 tx gv pl) (some (.int (rd1 2))) := by
  unfold x_RLd
  rw [if_pos hx, hL, h]
  exact ⟨J, rd1, hJ, rfl, rfl⟩
theorem x_RLd_no (hx : ¬ ((0 : Int32) ≤ x ∧ x ≤ nI b)) : x_RLd B I T S rd tx gv pl w u b x (mset B (upd I 0 1) T S rd tx gv pl) (some (.int 0)) := by
  unfold x_RLd
  rw [if_neg hx]
  exact ⟨rfl, rfl⟩
end
theorem c_load {G : XE} (hG : x_Kn G) (hK : x_KS G) {B : XH} {I : Nat → Int32} {T : Int64} {S : Nat → Nat → Int32} {rd tx gv pl : Nat → Int32} (d : Nat) (w : Nat) (hw : I 3 = nI w) (hw9 : w < 9) (u : Nat) (hu : I 4 = nI u) (hu8 : u ≤ 8) (b : Nat) (hb : I 6 = nI b) (hb8 : b ≤ 800) {x : Int32} : x_M G mX11_load (d + 32) 0 0 [.ref 275, .int x] (mset B I T S rd tx gv pl) (x_RLd B I T S rd tx gv pl w u b x) x_noX := by
  refine X_M hG okX11_load rfl (L := [some (.ref 275), some (.int x), none]) rfl (Nat.le_of_ble_eq_true rfl) (fun ad0 nb0 => ?_)
  refine X_ld rfl rfl rfl rfl ?_
  refine X_push (v := .int 0) rfl (by decide +kernel) ?_
  refine X_mput f_X11_37 rfl rfl ?_
  refine X_ld rfl rfl rfl rfl ?_
  refine X_ld rfl rfl rfl rfl ?_
  refine X_un rfl rfl ?_
  refine X_push (v := .long 0) rfl (by decide +kernel) ?_
  refine X_ld rfl rfl rfl rfl ?_
  refine X_get f_X11_60 rfl rfl rfl ?_
  refine X_stk (congrArg (fun q => Value.int q :: _) ((updI_ne (by decide)).trans hb)) ?_
  refine X_un rfl rfl ?_
  refine X_scall l_X11_X11_isIn (c_isIn hG (d + 31) (x := x) (y := 0) (z := nI b) rfl (by decide) rfl) rfl rfl rfl (Nat.le_of_ble_eq_true rfl) (Nat.le_of_ble_eq_true rfl) (by omega) (Nat.le_of_ble_eq_true rfl) (Nat.le_of_ble_eq_true rfl) ?_
  refine X_push (v := .int 1) rfl (by decide +kernel) ?_
  by_cases h18 : (0 : Int32) ≤ x ∧ x ≤ nI b
  · refine X_mcall l_X11_X11_right (c_rightT hG (d + 31) h18 updI_eq) rfl rfl rfl rfl (Nat.le_of_ble_eq_true rfl) (Nat.le_of_ble_eq_true rfl) (by omega) (Nat.le_of_ble_eq_true rfl) (Nat.le_of_ble_eq_true rfl) ?_
    refine X_if_ne rfl (fun c21 => ?_) (fun c21 => absurd c21 (by decide))
    obtain ⟨L, hL1, hL2⟩ := m_rngc rfl (by omega) h18
    have eL : n_ x = L := by rw [hL2]; exact nI_clamp (by omega)
    refine X_ld rfl rfl rfl rfl ?_
    refine X_ld rfl rfl rfl rfl ?_
    refine X_mput f_X11_72 rfl rfl ?_
    refine X_ld rfl rfl rfl rfl ?_
    refine X_push (v := .int 0) rfl (by decide +kernel) ?_
    refine X_mput f_X11_60 rfl rfl ?_
    refine X_ld rfl rfl rfl rfl ?_
    refine X_push (v := .int (-1)) rfl (by decide +kernel) ?_
    refine X_mput f_X11_19 rfl rfl ?_
    refine X_nameI (fun J0 hJ0 => ?_)
    have j0 : J0 0 = 0 := by rw [hJ0, updI_ne (by decide), updI_ne (by decide), updI_ne (by decide)]; exact updI_eq
    have j3 : J0 3 = nI w := by rw [hJ0, updI_ne (by decide), updI_ne (by decide), updI_ne (by decide), updI_ne (by decide)]; exact hw
    have j4 : J0 4 = nI u := by rw [hJ0, updI_ne (by decide), updI_ne (by decide), updI_ne (by decide), updI_ne (by decide)]; exact hu
    have j6 : J0 6 = nI 0 := by rw [hJ0, updI_ne (by decide)]; exact updI_eq
    have j7 : J0 7 = -1 := by rw [hJ0]; exact updI_eq
    have j8 : J0 8 = nI L := by rw [hJ0, updI_ne (by decide), updI_ne (by decide), updI_eq]; exact hL2
    have hT : ∀ k, k < 9 → s_tI J0 k = J0 k := fun k hk => by show upd (upd (upd J0 9 0) 10 0) 13 0 k = J0 k; rw [updI_ne (by omega), updI_ne (by omega), updI_ne (by omega)]
    refine X_ld rfl rfl rfl rfl ?_
    refine X_mcallN l_X11_X11_texts (c_texts hG hK d j8 (by omega)) x_RL_n rfl rfl rfl rfl (Nat.le_of_ble_eq_true rfl) (Nat.le_of_ble_eq_true rfl) (by omega) (Nat.le_of_ble_eq_true rfl) (Nat.le_of_ble_eq_true rfl) (fun N1 hRJ => ?_)
    rcases hEJ : l_txt tx L with ⟨e, a⟩ | ⟨q, rd1⟩
    · rw [hEJ] at hRJ
      obtain ⟨J, rd1, hJ, rfl, -⟩ := hRJ
      have hk : ∀ k, k < 9 → J k = J0 k := fun k hk => (hJ.1 k (by omega)).trans (hT k hk)
      refine X_ld rfl rfl rfl rfl ?_
      refine X_get f_X11_63 rfl rfl rfl ?_
      refine X_if_eq rfl (fun c49 => absurd (hJ.2.2.1.symm.trans c49) hJ.2.2.2.1) (fun c49 => ?_)
      refine X_ld rfl rfl rfl rfl ?_
      refine X_ld rfl rfl rfl rfl ?_
      refine X_get f_X11_66 rfl rfl rfl ?_
      refine X_mput f_X11_19 rfl rfl ?_
      refine X_ld rfl rfl rfl rfl ?_
      refine X_get f_X11_63 rfl rfl rfl ?_
      exact X_iret rfl rfl (by rw [show upd J 7 (J 11) 10 = e from (updI_ne (by decide)).trans hJ.2.2.1]; exact x_RLd_er h18 eL hEJ ⟨(updI_ne (by decide)).trans ((hk 0 (by omega)).trans j0), (updI_ne (by decide)).trans ((hk 3 (by omega)).trans j3), (updI_ne (by decide)).trans ((hk 4 (by omega)).trans j4), (updI_ne (by decide)).trans ((hk 6 (by omega)).trans j6), updI_eq.trans hJ.2.2.2.2⟩) (Nat.le_of_ble_eq_true rfl) (Nat.le_of_ble_eq_true rfl)
    · rw [hEJ] at hRJ
      obtain ⟨J, hJ, rfl, -⟩ := hRJ
      have hk : ∀ k, k < 9 → J k = J0 k := fun k hk => (hJ.1 k (by omega)).trans (hT k hk)
      obtain ⟨m, hm5, hr0⟩ := (l_txt_ok (by omega) hEJ).2.1
      obtain ⟨l, hl40, hr1⟩ := (l_txt_ok (by omega) hEJ).2.2.1
      refine X_ld rfl rfl rfl rfl ?_
      refine X_get f_X11_63 rfl rfl rfl ?_
      refine X_if_eq rfl (fun c49 => ?_) (fun c49 => absurd hJ.2.2.1 c49)
      refine X_ld rfl rfl rfl rfl ?_
      refine X_mcallv l_X11_X11_change (c_change hG (d + 31) w ((hk 3 (by omega)).trans j3) hw9 u ((hk 4 (by omega)).trans j4) hu8) rfl rfl rfl rfl (Nat.le_of_ble_eq_true rfl) (Nat.le_of_ble_eq_true rfl) (by omega) (Nat.le_of_ble_eq_true rfl) (Nat.le_of_ble_eq_true rfl) ?_
      refine X_push (v := .int 0) rfl (by decide +kernel) ?_
      refine X_st rfl rfl rfl ?_
      have kk : ∀ j, j ≠ 3 → j ≠ 4 → s_ch J w u j = J j := fun j h3 h4 => by show upd (upd J 3 (nI (s_nx w))) 4 (nI (s_u8 u)) j = J j; rw [updI_ne h4, updI_ne h3]
      have hcm : s_cm rd1 = m := n_of hr0 (by omega)
      have hlm : s_lm rd1 = l := n_of hr1 (by omega)
      have hcm5 : s_cm rd1 ≤ 5 := by omega
      have loop : x_W G mX11_load (x_Z G (d + 32) 0 0 ad0 nb0 (x_RLd B I T S rd tx gv pl w u b x) x_noX) (mset B (s_ch J w u) T (s_ldr (updR S (s_nx w) (S w)) (s_nx w) rd1 2400) rd1 tx gv pl) 0 0 95 [some (.ref 275), some (.int x), some (.int (nI 2400))] [] → ∀ (f9 k : Nat), k + f9 = 2400 → x_W G mX11_load (x_Z G (d + 32) 0 0 ad0 nb0 (x_RLd B I T S rd tx gv pl w u b x) x_noX) (mset B (s_ch J w u) T (s_ldr (updR S (s_nx w) (S w)) (s_nx w) rd1 k) rd1 tx gv pl) 0 0 71 [some (.ref 275), some (.int x), some (.int (nI k))] [] := by
        intro K f9
        induction f9 with
        | zero =>
          intro k e0 
          obtain rfl : k = 2400 := by omega
          refine X_ld rfl rfl rfl rfl ?_
          refine X_push (v := .int 2400) rfl (by decide +kernel) ?_
          refine X_icmp_ge rfl (fun c75 => ?_) (fun c75 => absurd ((n_le (a := 2400) (show (2400 : Int32) = nI 2400 from rfl) rfl (by omega) (by omega)).mpr (by omega)) c75)
          exact K
        | succ f9 ih =>
          intro k e0 
          refine X_ld rfl rfl rfl rfl ?_
          refine X_push (v := .int 2400) rfl (by decide +kernel) ?_
          refine X_icmp_ge rfl (fun c75 => absurd ((n_le (a := 2400) (show (2400 : Int32) = nI 2400 from rfl) rfl (by omega) (by omega)).mp c75) (by omega)) (fun c75 => ?_)
          refine X_ld rfl rfl rfl rfl ?_
          refine X_ld rfl rfl rfl rfl ?_
          refine X_ld rfl rfl rfl rfl ?_
          refine X_get f_X11_13 rfl rfl rfl ?_
          refine X_ld rfl rfl rfl rfl ?_
          refine X_ildn (n := 2400) k rfl (by omega) (by omega) rfl rfl ?_
          refine X_mcallv l_X11_X11_put (c_put hG (d + 31) (s_nx w) ((updI_ne (by decide)).trans updI_eq) s_nx_lt k (by omega) rfl) rfl rfl rfl rfl (Nat.le_of_ble_eq_true rfl) (Nat.le_of_ble_eq_true rfl) (by omega) (Nat.le_of_ble_eq_true rfl) (Nat.le_of_ble_eq_true rfl) ?_
          refine X_iinc rfl rfl rfl ?_
          refine X_goto rfl ?_
          refine X_heap (N' := mset B (s_ch J w u) T (s_ldr (updR S (s_nx w) (S w)) (s_nx w) rd1 (k + 1)) rd1 tx gv pl) (by rw [s_ldr_1]) ?_
          refine X_loc (L' := [some (.ref 275), some (.int x), some (.int (nI (k + 1)))]) ⟨rfl, rfl, congrArg Value.int (m_inc rfl).symm, trivial⟩ ?_
          exact ih (k + 1) (by omega)
      refine X_heap (N' := mset B (s_ch J w u) T (s_ldr (updR S (s_nx w) (S w)) (s_nx w) rd1 0) rd1 tx gv pl) (by rw [← s_ldr_0]) ?_
      refine X_loc (L' := [some (.ref 275), some (.int x), some (.int (nI 0))]) ⟨rfl, rfl, rfl, trivial⟩ ?_
      refine loop ?_ _ 0 (Nat.zero_add _)
      refine X_ldrE ?_
      refine X_heap (N' := mset B (s_ch J w u) T (updR S (s_nx w) rd1) rd1 tx gv pl) (by rw [updR_updR]) ?_
      refine X_ld rfl rfl rfl rfl ?_
      refine X_mcallv l_X11_X11_looks (c_looks hG (d + 28) (s_nx w) ((updI_ne (by decide)).trans updI_eq) s_nx_lt (s_cm rd1) (by rw [updR_eq, hcm]; exact hr0) hcm5 (s_lm rd1) (by rw [updR_eq, hlm]; exact hr1) (by omega)) rfl rfl rfl rfl (Nat.le_of_ble_eq_true rfl) (Nat.le_of_ble_eq_true rfl) (by omega) (Nat.le_of_ble_eq_true rfl) (Nat.le_of_ble_eq_true rfl) ?_
      refine X_heap (N' := mset B (s_ch J w u) T (updR S (s_nx w) (s_ldd rd1)) rd1 tx gv pl) (by unfold s_ldd; rw [updR_updR, updR_eq]) ?_
      refine X_ld rfl rfl rfl rfl ?_
      refine X_push (v := .int 2) rfl (by decide +kernel) ?_
      refine X_mcall l_X11_X11_get (c_get hG (d + 31) (s_nx w) ((updI_ne (by decide)).trans updI_eq) s_nx_lt 2 (by omega) rfl) rfl rfl rfl rfl (Nat.le_of_ble_eq_true rfl) (Nat.le_of_ble_eq_true rfl) (by omega) (Nat.le_of_ble_eq_true rfl) (Nat.le_of_ble_eq_true rfl) ?_
      exact X_iret rfl rfl (by rw [show updR S (s_nx w) (s_ldd rd1) (s_nx w) 2 = rd1 2 from (congrFun updR_eq 2).trans (s_look_ag (c := rd1) (q := s_lm rd1) (s_cm rd1) hcm5 2 (Or.inl (by omega))).symm]; exact x_RLd_ok h18 eL hEJ ⟨kk 0 (by omega) (by omega) |>.trans ((hk 0 (by omega)).trans j0), (updI_ne (by decide)).trans updI_eq, updI_eq, kk 6 (by omega) (by omega) |>.trans ((hk 6 (by omega)).trans j6), kk 7 (by omega) (by omega) |>.trans ((hk 7 (by omega)).trans j7)⟩) (Nat.le_of_ble_eq_true rfl) (Nat.le_of_ble_eq_true rfl)
  · refine X_mcall l_X11_X11_right (c_rightF hG (d + 31) h18 updI_eq (by decide)) rfl rfl rfl rfl (Nat.le_of_ble_eq_true rfl) (Nat.le_of_ble_eq_true rfl) (by omega) (Nat.le_of_ble_eq_true rfl) (Nat.le_of_ble_eq_true rfl) ?_
    refine X_heap (N' := mset B (upd I 0 1) T S rd tx gv pl) (by rw [upd_upd]) ?_
    refine X_if_ne rfl (fun c21 => absurd (by decide) c21) (fun c21 => ?_)
    refine X_push (v := .int 0) rfl (by decide +kernel) ?_
    exact X_iret rfl rfl (x_RLd_no h18) (Nat.le_of_ble_eq_true rfl) (Nat.le_of_ble_eq_true rfl)
