/-! ===== the reference's reader: numbers, names, codes ===== -/
/-- all but the reader's own numbers -/
def x_kI (I I' : Nat → Int32) : Prop := ∀ k, (k < 9 ∨ 16 ≤ k) → I' k = I k
/-- the reader goes on at q -/
def l_ok (I I' : Nat → Int32) (q : Nat) : Prop := x_kI I I' ∧ I' 9 = nI q ∧ I' 10 = 0 ∧ I' 13 = I 13
/-- the reader has failed -/
def l_er (p : Nat) (I I' : Nat → Int32) (n : Nat) (e : Int32) (a : Nat) : Prop := x_kI I I' ∧ (∃ q, (p ≤ q ∧ q ≤ n) ∧ I' 9 = nI q) ∧ I' 10 = e ∧ ¬ e = 0 ∧ I' 11 = nI a
theorem x_kI_rfl {I : Nat → Int32} : x_kI I I := fun _ _ => rfl
theorem x_kI_upd {I J : Nat → Int32} {k : Nat} {v : Int32} (h : x_kI I J) (hk : 9 ≤ k ∧ k ≤ 15) : x_kI I (upd J k v) := fun i hi => by rw [updI_ne (by omega)]; exact h i hi
theorem x_kI.trans {I J K : Nat → Int32} (h : x_kI I J) (g : x_kI J K) : x_kI I K := fun i hi => (g i hi).trans (h i hi)
theorem l_er_mk {I J : Nat → Int32} {p n q a : Nat} {e x : Int32} (h : x_kI I J) (hq : p ≤ q ∧ q ≤ n) (h9 : J 9 = nI q) (he : ¬ e = 0) (hx : x = nI a) : l_er p I (upd (upd J 10 e) 11 x) n e a :=
  ⟨x_kI_upd (x_kI_upd h (by omega)) (by omega), ⟨q, hq, by rw [updI_ne (by decide), updI_ne (by decide)]; exact h9⟩, by rw [updI_ne (by decide), updI_eq], he, by rw [updI_eq]; exact hx⟩
theorem l_ok_mk {I : Nat → Int32} {n q : Nat} (he : I 10 = 0) : l_ok I (upd I 9 (nI q)) q := ⟨x_kI_upd x_kI_rfl (by omega), updI_eq, by rw [updI_ne (by decide)]; exact he, updI_ne (by decide)⟩
def x_RI (B : XH) (T : Int64) (S : Nat → Nat → Int32) (rd tx gv pl I : Nat → Int32) (p n : Nat) (R : (Int32 × Nat) ⊕ (Nat × Int32)) : XH → Option Value → Prop := fun N r => match R with
  | .inl (e, a) => ∃ (I' : Nat → Int32) (v : Int32), l_er p I I' n e a ∧ N = mset B I' T S rd tx gv pl ∧ r = some (.int v)
  | .inr (q, v) => ∃ (I' : Nat → Int32), l_ok I I' q ∧ N = mset B I' T S rd tx gv pl ∧ r = some (.int v)
def x_RVd (B : XH) (T : Int64) (S : Nat → Nat → Int32) (tx gv pl I : Nat → Int32) (p n : Nat) (R : (Int32 × Nat) ⊕ (Nat × (Nat → Int32))) : XH → Option Value → Prop := fun N r => match R with
  | .inl (e, a) => ∃ (I' rd' : Nat → Int32), l_er p I I' n e a ∧ N = mset B I' T S rd' tx gv pl ∧ r = none
  | .inr (q, rd1) => ∃ (I' : Nat → Int32), l_ok I I' q ∧ N = mset B I' T S rd1 tx gv pl ∧ r = none
section
variable {B : XH} {T : Int64} {S : Nat → Nat → Int32} {rd tx gv pl I J : Nat → Int32} {p n q a : Nat} {e v : Int32} {R : (Int32 × Nat) ⊕ (Nat × Int32)}
theorem x_RI_er (h : R = .inl (e, a)) (hJ : l_er p I J n e a) : x_RI B T S rd tx gv pl I p n R (mset B J T S rd tx gv pl) (some (.int v)) := by rw [h]; exact ⟨J, v, hJ, rfl, rfl⟩
theorem x_RI_ok (h : R = .inr (q, v)) (hJ : l_ok I J q) : x_RI B T S rd tx gv pl I p n R (mset B J T S rd tx gv pl) (some (.int v)) := by rw [h]; exact ⟨J, hJ, rfl, rfl⟩
end
section
variable {B : XH} {T : Int64} {S : Nat → Nat → Int32} {rd rd1 tx gv pl I J : Nat → Int32} {p n q a : Nat} {e v : Int32} {R : (Int32 × Nat) ⊕ (Nat × (Nat → Int32))}
theorem x_RV_er (h : R = .inl (e, a)) (hJ : l_er p I J n e a) : x_RVd B T S tx gv pl I p n R (mset B J T S rd tx gv pl) none := by rw [h]; exact ⟨J, rd, hJ, rfl, rfl⟩
theorem x_RV_ok (h : R = .inr (q, rd1)) (hJ : l_ok I J q) : x_RVd B T S tx gv pl I p n R (mset B J T S rd1 tx gv pl) none := by rw [h]; exact ⟨J, hJ, rfl, rfl⟩
theorem X_nameI {G : XE} {M : XMI} {Z : XZ} {cells slots pc : Nat} {L : List (Option Value)} {st : List Value} {I : Nat → Int32} (kk : ∀ J, J = I → x_W G M Z (mset B J T S rd tx gv pl) cells slots pc L st) : x_W G M Z (mset B I T S rd tx gv pl) cells slots pc L st := kk _ rfl
end
/-- the number that k digits from q tell -/
def l_v (tx : Nat → Int32) (q : Nat) : Nat → Int32
  | 0 => 0
  | k + 1 => x_min 1000000 (10 * l_v tx q k + tx (q + k) - 48)
def l_de (tx : Nat → Int32) (n p : Nat) : Nat := l_run l_dg tx n (l_sk tx n p)
def l_num (tx : Nat → Int32) (n p : Nat) : Int32 := l_v tx (l_sk tx n p) (l_de tx n p - l_sk tx n p)
/-- a number from 0 to most -/
def l_reads (tx : Nat → Int32) (n p : Nat) (most : Int32) : (Int32 × Nat) ⊕ (Nat × Int32) :=
  if (48 : Int32) ≤ l_see tx n p ∧ l_see tx n p ≤ 57 then (if (0 : Int32) ≤ l_num tx n p ∧ l_num tx n p ≤ most then .inr (l_de tx n p, l_num tx n p) else .inl (-3, l_sk tx n p)) else .inl (-2, l_sk tx n p)
theorem l_de_le {tx : Nat → Int32} {n p : Nat} (h : p ≤ n) : l_sk tx n p ≤ l_de tx n p ∧ l_de tx n p ≤ n := l_run_le (l_sk_le h).2
theorem c_reads {G : XE} (hG : x_Kn G) {B : XH} {I : Nat → Int32} {T : Int64} {S : Nat → Nat → Int32} {rd tx gv pl : Nat → Int32} (d : Nat) {n p : Nat} (hp : I 9 = nI p) (hn : I 8 = nI n) (hpn : p ≤ n) (hn8 : n ≤ 800) (he : I 10 = 0) {most : Int32} : x_M G mX11_reads (d + 2) 0 0 [.ref 275, .int 0, .int most] (mset B I T S rd tx gv pl) (x_RI B T S rd tx gv pl I p n (l_reads tx n p most)) x_noX := by
  refine X_M hG okX11_reads rfl (L := [some (.ref 275), some (.int 0), some (.int most), none]) rfl (Nat.le_of_ble_eq_true rfl) (fun ad0 nb0 => ?_)
  have hsk := l_sk_le (tx := tx) hpn
  have hde := l_de_le (tx := tx) hpn
  refine X_ld rfl rfl rfl rfl ?_
  refine X_get f_X11_63 rfl rfl rfl ?_
  refine X_if_eq rfl (fun c4 => ?_) (fun c4 => absurd he c4)
  refine X_ld rfl rfl rfl rfl ?_
  refine X_mcall l_X11_X11_isDigit (c_isDigit hG d hp hn hpn hn8) rfl rfl rfl rfl (Nat.le_of_ble_eq_true rfl) (Nat.le_of_ble_eq_true rfl) (Nat.le_refl _) (Nat.le_of_ble_eq_true rfl) (Nat.le_of_ble_eq_true rfl) ?_
  refine X_if_ne rfl (fun c13 => ?_) (fun c13 => ?_)
  · have h13 : (48 : Int32) ≤ l_see tx n p ∧ l_see tx n p ≤ 57 := bI_ne.mp c13
    refine X_ld rfl rfl rfl rfl ?_
    refine X_ld rfl rfl rfl rfl ?_
    refine X_get f_X11_69 rfl rfl rfl ?_
    refine X_mput f_X11_106 rfl rfl ?_
    refine X_push (v := .int 0) rfl (by decide +kernel) ?_
    refine X_st rfl rfl rfl ?_
    refine X_nameI (fun J hJ => ?_)
    have hJk : x_kI I J := by rw [hJ]; exact x_kI_upd (x_kI_upd x_kI_rfl (by omega)) (by omega)
    have hJ8 : J 8 = nI n := (hJk 8 (by omega)).trans hn
    have hJ9 : J 9 = nI (l_sk tx n p) := by rw [hJ, updI_ne (by decide)]; exact updI_eq
    have hJ10 : J 10 = 0 := by rw [hJ, updI_ne (by decide), updI_ne (by decide)]; exact he
    have hJ12 : J 12 = nI (l_sk tx n p) := by rw [hJ, updI_eq]; exact updI_eq
    have hJ13 : J 13 = I 13 := by rw [hJ, updI_ne (by decide), updI_ne (by decide)]
    have hJ16 : J 16 = I 16 := by rw [hJ, updI_ne (by decide), updI_ne (by decide)]
    have loop : x_W G mX11_reads (x_Z G (d + 2) 0 0 ad0 nb0 (x_RI B T S rd tx gv pl I p n (l_reads tx n p most)) x_noX) (mset B (upd J 9 (nI (l_de tx n p))) T S rd tx gv pl) 0 0 113 [some (.ref 275), some (.int 0), some (.int most), some (.int (l_v tx (l_sk tx n p) (l_de tx n p - l_sk tx n p)))] [] → ∀ (f9 j : Nat), j + f9 = (n - l_sk tx n p) → l_run l_dg tx n (l_sk tx n p + j) = (l_de tx n p) → x_W G mX11_reads (x_Z G (d + 2) 0 0 ad0 nb0 (x_RI B T S rd tx gv pl I p n (l_reads tx n p most)) x_noX) (mset B (upd J 9 (nI (l_sk tx n p + j))) T S rd tx gv pl) 0 0 38 [some (.ref 275), some (.int 0), some (.int most), some (.int (l_v tx (l_sk tx n p) j))] [] := by
      intro K f9
      induction f9 with
      | zero =>
        intro j e0 hR
        obtain rfl : j = (n - l_sk tx n p) := by omega
        refine X_ld rfl rfl rfl rfl ?_
        refine X_get f_X11_69 rfl rfl rfl ?_
        refine X_ld rfl rfl rfl rfl ?_
        refine X_get f_X11_72 rfl rfl rfl ?_
        refine X_icmp_ge rfl (fun c46 => ?_) (fun c46 => absurd ((n_le ((updI_ne (by decide)).trans hJ8) updI_eq (by omega) (by omega)).mpr (by omega)) c46)
        have e : l_sk tx n p + (n - l_sk tx n p) = l_de tx n p := (l_run_ge (P := l_dg) (by omega)).symm.trans hR
        have e2 : n - l_sk tx n p = (l_de tx n p - l_sk tx n p) := by omega
        refine X_heap (N' := mset B (upd J 9 (nI (l_de tx n p))) T S rd tx gv pl) (by rw [e]) ?_
        refine X_loc (L' := [some (.ref 275), some (.int 0), some (.int most), some (.int (l_v tx (l_sk tx n p) (l_de tx n p - l_sk tx n p)))]) ⟨rfl, rfl, rfl, congrArg (fun q => Value.int (l_v tx (l_sk tx n p) q)) e2.symm, trivial⟩ ?_
        exact K
      | succ f9 ih =>
        intro j e0 hR
        refine X_ld rfl rfl rfl rfl ?_
        refine X_get f_X11_69 rfl rfl rfl ?_
        refine X_ld rfl rfl rfl rfl ?_
        refine X_get f_X11_72 rfl rfl rfl ?_
        refine X_icmp_ge rfl (fun c46 => absurd ((n_le ((updI_ne (by decide)).trans hJ8) updI_eq (by omega) (by omega)).mp c46) (by omega)) (fun c46 => ?_)
        refine X_ld rfl rfl rfl rfl ?_
        refine X_get f_X11_16 rfl rfl rfl ?_
        refine X_ld rfl rfl rfl rfl ?_
        refine X_get f_X11_69 rfl rfl rfl ?_
        refine X_ildn (n := 800) (l_sk tx n p + j) updI_eq (by omega) (by omega) rfl rfl ?_
        refine X_push (v := .int 48) rfl (by decide +kernel) ?_
        refine X_icmp_lt rfl (fun c60 => ?_) (fun c60 => ?_)
        · have e : l_sk tx n p + j = l_de tx n p := (l_run_n (P := l_dg) (by omega) (decide_eq_false (fun q => absurd c60 (Int32.not_lt.mpr q.1)))).symm.trans hR
          obtain rfl : j = (l_de tx n p - l_sk tx n p) := by omega
          refine X_heap (N' := mset B (upd J 9 (nI (l_de tx n p))) T S rd tx gv pl) (by rw [e]) ?_
          exact K
        · refine X_ld rfl rfl rfl rfl ?_
          refine X_get f_X11_16 rfl rfl rfl ?_
          refine X_ld rfl rfl rfl rfl ?_
          refine X_get f_X11_69 rfl rfl rfl ?_
          refine X_ildn (n := 800) (l_sk tx n p + j) updI_eq (by omega) (by omega) rfl rfl ?_
          refine X_push (v := .int 57) rfl (by decide +kernel) ?_
          refine X_icmp_gt rfl (fun c74 => ?_) (fun c74 => ?_)
          · have e : l_sk tx n p + j = l_de tx n p := (l_run_n (P := l_dg) (by omega) (decide_eq_false (fun q => absurd c74 (Int32.not_lt.mpr q.2)))).symm.trans hR
            obtain rfl : j = (l_de tx n p - l_sk tx n p) := by omega
            refine X_heap (N' := mset B (upd J 9 (nI (l_de tx n p))) T S rd tx gv pl) (by rw [e]) ?_
            exact K
          · refine X_ldc k_X11_109 rfl ?_
            refine X_push (v := .int 10) rfl (by decide +kernel) ?_
            refine X_ld rfl rfl rfl rfl ?_
            refine X_bin rfl rfl ?_
            refine X_ld rfl rfl rfl rfl ?_
            refine X_get f_X11_16 rfl rfl rfl ?_
            refine X_ld rfl rfl rfl rfl ?_
            refine X_get f_X11_69 rfl rfl rfl ?_
            refine X_ildn (n := 800) (l_sk tx n p + j) updI_eq (by omega) (by omega) rfl rfl ?_
            refine X_bin rfl rfl ?_
            refine X_push (v := .int 48) rfl (by decide +kernel) ?_
            refine X_bin rfl rfl ?_
            refine X_min lmin_X11 rfl (by omega) (Nat.le_of_ble_eq_true rfl) (Nat.le_of_ble_eq_true rfl) (Nat.le_of_ble_eq_true rfl) ?_
            refine X_st rfl rfl rfl ?_
            refine X_ld rfl rfl rfl rfl ?_
            refine X_dup rfl rfl ?_
            refine X_get f_X11_69 rfl rfl rfl ?_
            refine X_push (v := .int 1) rfl (by decide +kernel) ?_
            refine X_bin rfl rfl ?_
            refine X_mput f_X11_69 rfl rfl ?_
            refine X_goto rfl ?_
            refine X_heap (N' := mset B (upd J 9 (nI (l_sk tx n p + (j + 1)))) T S rd tx gv pl) (by rw [upd_upd, show upd J 9 (nI (l_sk tx n p + j)) 9 + 1 = nI (l_sk tx n p + (j + 1)) from m_add (b := 1) updI_eq rfl]) ?_
            exact ih (j + 1) (by omega) ((l_run_y (P := l_dg) (by omega) (decide_eq_true ⟨Int32.not_lt.mp c60, Int32.not_lt.mp c74⟩)).symm.trans hR)
    refine X_heap (N' := mset B (upd J 9 (nI (l_sk tx n p + 0))) T S rd tx gv pl) (by rw [Nat.add_zero, ← hJ9, upd_self]) ?_
    refine X_loc (L' := [some (.ref 275), some (.int 0), some (.int most), some (.int (l_v tx (l_sk tx n p) 0))]) ⟨rfl, rfl, rfl, rfl, trivial⟩ ?_
    refine loop ?_ (n - l_sk tx n p) 0 (Nat.zero_add _) rfl
    refine X_loc (L' := [some (.ref 275), some (.int 0), some (.int most), some (.int (l_num tx n p))]) ⟨rfl, rfl, rfl, rfl, trivial⟩ ?_
    refine X_ld rfl rfl rfl rfl ?_
    refine X_un rfl rfl ?_
    refine X_ld rfl rfl rfl rfl ?_
    refine X_un rfl rfl ?_
    refine X_ld rfl rfl rfl rfl ?_
    refine X_un rfl rfl ?_
    refine X_scall l_X11_X11_isIn (c_isIn hG (d + 1) (x := l_num tx n p) (y := 0) (z := most) rfl rfl rfl) rfl rfl rfl (Nat.le_of_ble_eq_true rfl) (Nat.le_of_ble_eq_true rfl) (Nat.le_refl _) (Nat.le_of_ble_eq_true rfl) (Nat.le_of_ble_eq_true rfl) ?_
    refine X_if_ne rfl (fun c122 => ?_) (fun c122 => ?_)
    · have h122 : (0 : Int32) ≤ l_num tx n p ∧ l_num tx n p ≤ most := bI_ne.mp c122
      refine X_ld rfl rfl rfl rfl ?_
      refine X_get f_X11_63 rfl rfl rfl ?_
      refine X_if_ne rfl (fun c139 => absurd ((updI_ne (by decide)).trans hJ10) c139) (fun c139 => ?_)
      refine X_ld rfl rfl rfl rfl ?_
      refine X_goto rfl ?_
      exact X_iret rfl rfl (x_RI_ok (by unfold l_reads; rw [if_pos h13]; exact if_pos h122) ⟨x_kI_upd hJk (by omega), updI_eq, (updI_ne (by decide)).trans hJ10, (updI_ne (by decide)).trans hJ13⟩) (Nat.le_of_ble_eq_true rfl) (Nat.le_of_ble_eq_true rfl)
    · have h122 : ¬ ((0 : Int32) ≤ l_num tx n p ∧ l_num tx n p ≤ most) := fun q => bI_ne.mpr q c122
      refine X_ld rfl rfl rfl rfl ?_
      refine X_push (v := .int (-3)) rfl (by decide +kernel) ?_
      refine X_ld rfl rfl rfl rfl ?_
      refine X_get f_X11_106 rfl rfl rfl ?_
      refine X_mcallv l_X11_X11_fails (c_fails hG (d + 1) ((updI_ne (by decide)).trans hJ10)) rfl rfl rfl rfl (Nat.le_of_ble_eq_true rfl) (Nat.le_of_ble_eq_true rfl) (Nat.le_refl _) (Nat.le_of_ble_eq_true rfl) (Nat.le_of_ble_eq_true rfl) ?_
      refine X_ld rfl rfl rfl rfl ?_
      refine X_get f_X11_63 rfl rfl rfl ?_
      refine X_if_ne rfl (fun c139 => ?_) (fun c139 => absurd (((updI_ne (by decide)).trans updI_eq).symm.trans c139) (by decide))
      refine X_push (v := .int 0) rfl (by decide +kernel) ?_
      exact X_iret rfl rfl (x_RI_er (by unfold l_reads; rw [if_pos h13]; exact if_neg h122) (l_er_mk (x_kI_upd hJk (by omega)) ⟨Nat.le_trans hsk.1 hde.1, hde.2⟩ updI_eq (by decide) ((updI_ne (by decide)).trans hJ12))) (Nat.le_of_ble_eq_true rfl) (Nat.le_of_ble_eq_true rfl)
  · have h13 : ¬ ((48 : Int32) ≤ l_see tx n p ∧ l_see tx n p ≤ 57) := fun q => bI_ne.mpr q c13
    refine X_ld rfl rfl rfl rfl ?_
    refine X_push (v := .int (-2)) rfl (by decide +kernel) ?_
    refine X_ld rfl rfl rfl rfl ?_
    refine X_get f_X11_69 rfl rfl rfl ?_
    refine X_mcallv l_X11_X11_fails (c_fails hG (d + 1) ((updI_ne (by decide)).trans he)) rfl rfl rfl rfl (Nat.le_of_ble_eq_true rfl) (Nat.le_of_ble_eq_true rfl) (Nat.le_refl _) (Nat.le_of_ble_eq_true rfl) (Nat.le_of_ble_eq_true rfl) ?_
    refine X_push (v := .int 0) rfl (by decide +kernel) ?_
    exact X_iret rfl rfl (x_RI_er (by unfold l_reads; rw [if_neg h13]) (l_er_mk (x_kI_upd x_kI_rfl (by omega)) hsk updI_eq (by decide) updI_eq)) (Nat.le_of_ble_eq_true rfl) (Nat.le_of_ble_eq_true rfl)
theorem c_readsE {G : XE} (hG : x_Kn G) {B : XH} {I : Nat → Int32} {T : Int64} {S : Nat → Nat → Int32} {rd tx gv pl : Nat → Int32} (d : Nat) (he : ¬ I 10 = 0) {x y : Int32} : x_M G mX11_reads d 0 0 [.ref 275, .int x, .int y] (mset B I T S rd tx gv pl) (x_Ret (mset B I T S rd tx gv pl) (.int 0)) x_noX := by
  refine X_M hG okX11_reads rfl (L := [some (.ref 275), some (.int x), some (.int y), none]) rfl (Nat.le_of_ble_eq_true rfl) (fun ad0 nb0 => ?_)
  refine X_ld rfl rfl rfl rfl ?_
  refine X_get f_X11_63 rfl rfl rfl ?_
  refine X_if_eq rfl (fun c4 => absurd c4 he) (fun c4 => ?_)
  refine X_push (v := .int 0) rfl (by decide +kernel) ?_
  exact X_iret rfl rfl ⟨rfl, rfl⟩ (Nat.le_of_ble_eq_true rfl) (Nat.le_of_ble_eq_true rfl)
theorem c_reach {G : XE} (hG : x_Kn G) {B : XH} {I : Nat → Int32} {T : Int64} {S : Nat → Nat → Int32} {rd tx gv pl : Nat → Int32} (d : Nat) {n p : Nat} (hp : I 9 = nI (l_sk tx n p)) (hn : I 8 = nI n) (hpn : p ≤ n) (hn8 : n ≤ 800) : x_M G mX11_reach (d + 2) 0 0 [.ref 275] (mset B I T S rd tx gv pl) (x_RetV (mset B (upd (upd I 14 (nI (l_sk tx n p))) 15 (nI (l_we tx n p))) T S rd tx gv pl)) x_noX := by
  refine X_M hG okX11_reach rfl (L := [some (.ref 275)]) rfl (Nat.le_of_ble_eq_true rfl) (fun ad0 nb0 => ?_)
  refine X_ld rfl rfl rfl rfl ?_
  refine X_ld rfl rfl rfl rfl ?_
  refine X_get f_X11_69 rfl rfl rfl ?_
  refine X_mput f_X11_125 rfl rfl ?_
  refine X_heap (N' := mset B (upd I 14 (nI (l_sk tx n p))) T S rd tx gv pl) (by rw [hp]) ?_
  refine X_ld rfl rfl rfl rfl ?_
  refine X_ld rfl rfl rfl rfl ?_
  refine X_mcall l_X11_X11_wordEnd (c_wordEndS hG d ((updI_ne (by decide)).trans hp) ((updI_ne (by decide)).trans hn) hpn hn8) rfl rfl rfl rfl (Nat.le_of_ble_eq_true rfl) (Nat.le_of_ble_eq_true rfl) (Nat.le_refl _) (Nat.le_of_ble_eq_true rfl) (Nat.le_of_ble_eq_true rfl) ?_
  refine X_mput f_X11_128 rfl rfl ?_
  exact X_vret rfl rfl ⟨rfl, rfl⟩ (Nat.le_of_ble_eq_true rfl) (Nat.le_of_ble_eq_true rfl)
/-- the word from a to e is written at at_ -/
def s_nmi (rd tx : Nat → Int32) (a e at_ : Nat) : Nat → Nat → Int32
  | 0 => rd
  | k + 1 => upd (s_nmi rd tx a e at_ k) (at_ + k) (s_ltr tx a e k)
theorem c_nameInto {G : XE} (hG : x_Kn G) {B : XH} {I : Nat → Int32} {T : Int64} {S : Nat → Nat → Int32} {rd tx gv pl : Nat → Int32} (d : Nat) (a e : Nat) (h14 : I 14 = nI a) (h15 : I 15 = nI e) (ha8 : a ≤ 800) (hae : e ≤ 800) (b : Nat) (hb : b + 8 ≤ 2400) {x : Int32} (hx : x = nI b) : x_M G mX11_nameInto d 0 0 [.ref 275, .int x] (mset B I T S rd tx gv pl) (x_RetV (mset B I T S (s_nmi rd tx a e b 8) tx gv pl)) x_noX := by
  refine X_M hG okX11_nameInto rfl (L := [some (.ref 275), some (.int x), none]) rfl (Nat.le_of_ble_eq_true rfl) (fun ad0 nb0 => ?_)
  have loop : x_W G mX11_nameInto (x_Z G d 0 0 ad0 nb0 (x_RetV (mset B I T S (s_nmi rd tx a e b 8) tx gv pl)) x_noX) (mset B I T S (s_nmi rd tx a e b 8) tx gv pl) 0 0 50 [some (.ref 275), some (.int x), some (.int (nI 8))] [] → ∀ (f9 k : Nat), k + f9 = 8 → x_W G mX11_nameInto (x_Z G d 0 0 ad0 nb0 (x_RetV (mset B I T S (s_nmi rd tx a e b 8) tx gv pl)) x_noX) (mset B I T S (s_nmi rd tx a e b k) tx gv pl) 0 0 2 [some (.ref 275), some (.int x), some (.int (nI k))] [] := by
    intro K f9
    induction f9 with
    | zero =>
      intro k e0 
      obtain rfl : k = 8 := by omega
      refine X_ld rfl rfl rfl rfl ?_
      refine X_push (v := .int 8) rfl (by decide +kernel) ?_
      refine X_icmp_ge rfl (fun c5 => ?_) (fun c5 => absurd ((n_le (a := 8) (show (8 : Int32) = nI 8 from rfl) rfl (by omega) (by omega)).mpr (by omega)) c5)
      exact K
    | succ f9 ih =>
      intro k e0 
      refine X_ld rfl rfl rfl rfl ?_
      refine X_push (v := .int 8) rfl (by decide +kernel) ?_
      refine X_icmp_ge rfl (fun c5 => absurd ((n_le (a := 8) (show (8 : Int32) = nI 8 from rfl) rfl (by omega) (by omega)).mp c5) (by omega)) (fun c5 => ?_)
      refine X_ld rfl rfl rfl rfl ?_
      refine X_get f_X11_13 rfl rfl rfl ?_
      refine X_ld rfl rfl rfl rfl ?_
      refine X_ld rfl rfl rfl rfl ?_
      refine X_bin rfl rfl ?_
      refine X_ld rfl rfl rfl rfl ?_
      refine X_get f_X11_125 rfl rfl rfl ?_
      refine X_ld rfl rfl rfl rfl ?_
      refine X_bin rfl rfl ?_
      refine X_ld rfl rfl rfl rfl ?_
      refine X_get f_X11_128 rfl rfl rfl ?_
      refine X_icmp_ge rfl (fun c25 => ?_) (fun c25 => ?_)
      · have n25 := (n_le h15 (m_add h14 rfl) (by omega) (by omega)).mp c25
        refine X_push (v := .int 0) rfl (by decide +kernel) ?_
        refine X_mRst (b + k) (m_add hx rfl) (by omega) rfl ?_
        refine X_iinc rfl rfl rfl ?_
        refine X_goto rfl ?_
        refine X_heap (N' := mset B I T S (s_nmi rd tx a e b (k + 1)) tx gv pl) (by rw [show s_nmi rd tx a e b (k + 1) = upd (s_nmi rd tx a e b k) (b + k) (s_ltr tx a e k) from rfl, show s_ltr tx a e k = _ from if_neg (Nat.not_lt.mpr n25)]) ?_
        refine X_loc (L' := [some (.ref 275), some (.int x), some (.int (nI (k + 1)))]) ⟨rfl, rfl, congrArg Value.int (m_inc rfl).symm, trivial⟩ ?_
        exact ih (k + 1) (by omega)
      · have n25 := mt (n_le h15 (m_add h14 rfl) (by omega) (by omega)).mpr c25
        refine X_ld rfl rfl rfl rfl ?_
        refine X_get f_X11_16 rfl rfl rfl ?_
        refine X_ld rfl rfl rfl rfl ?_
        refine X_get f_X11_125 rfl rfl rfl ?_
        refine X_ld rfl rfl rfl rfl ?_
        refine X_bin rfl rfl ?_
        refine X_ildn (n := 800) (a + k) (m_add h14 rfl) (by omega) (by omega) rfl rfl ?_
        refine X_goto rfl ?_
        refine X_mRst (b + k) (m_add hx rfl) (by omega) rfl ?_
        refine X_iinc rfl rfl rfl ?_
        refine X_goto rfl ?_
        refine X_heap (N' := mset B I T S (s_nmi rd tx a e b (k + 1)) tx gv pl) (by rw [show s_nmi rd tx a e b (k + 1) = upd (s_nmi rd tx a e b k) (b + k) (s_ltr tx a e k) from rfl, show s_ltr tx a e k = _ from if_pos (Nat.not_le.mp n25)]) ?_
        refine X_loc (L' := [some (.ref 275), some (.int x), some (.int (nI (k + 1)))]) ⟨rfl, rfl, congrArg Value.int (m_inc rfl).symm, trivial⟩ ?_
        exact ih (k + 1) (by omega)
  refine X_push (v := .int 0) rfl (by decide +kernel) ?_
  refine X_st rfl rfl rfl ?_
  refine X_heap (N' := mset B I T S (s_nmi rd tx a e b 0) tx gv pl) rfl ?_
  refine X_loc (L' := [some (.ref 275), some (.int x), some (.int (nI 0))]) ⟨rfl, rfl, rfl, trivial⟩ ?_
  refine loop ?_ _ 0 (Nat.zero_add _)
  exact X_vret rfl rfl ⟨rfl, rfl⟩ (Nat.le_of_ble_eq_true rfl) (Nat.le_of_ble_eq_true rfl)
/-- the first of m things, each cells apart, whose name is the word from a to e; -1 -/
def s_sk (rd tx : Nat → Int32) (f each m a e : Nat) : Int32 := s_first (fun t => s_eqn rd tx (f + each * t) a e 8) m
theorem c_seek {G : XE} (hG : x_Kn G) {B : XH} {I : Nat → Int32} {T : Int64} {S : Nat → Nat → Int32} {rd tx gv pl : Nat → Int32} (d : Nat) (a e : Nat) (h14 : I 14 = nI a) (h15 : I 15 = nI e) (ha8 : a ≤ 800) (hae : e ≤ 800) (f g m : Nat) (hm : m < 1000) (hb : f + g * m + 8 ≤ 2400) (hg : 8 ≤ g) {x y z : Int32} (hx : x = nI f) (hy : y = nI g) (hz : z = nI m) : x_M G mX11_seek d 0 0 [.ref 275, .int x, .int y, .int z] (mset B I T S rd tx gv pl) (x_Ret (mset B I T S rd tx gv pl) (.int (s_sk rd tx f g m a e))) x_noX := by
  refine X_M hG okX11_seek rfl (L := [some (.ref 275), some (.int x), some (.int y), some (.int z), none, none, none, none]) rfl (Nat.le_of_ble_eq_true rfl) (fun ad0 nb0 => ?_)
  have hgm : ∀ t, t < m → g * t + g ≤ g * m := fun t ht => by have h := Nat.mul_le_mul_left g (show t + 1 ≤ m from ht); rw [Nat.mul_add, Nat.mul_one] at h; exact h
  have inner : ∀ (t : Nat) (_ : t < m), x_W G mX11_seek (x_Z G d 0 0 ad0 nb0 (x_Ret (mset B I T S rd tx gv pl) (.int (s_sk rd tx f g m a e))) x_noX) (mset B I T S rd tx gv pl) 0 0 96 [some (.ref 275), some (.int x), some (.int y), some (.int z), some (.int (-1)), some (.int (nI t)), some (.int (b2 (s_eqn rd tx (f + g * t) a e 8))), none] [] → ∀ (f9 k : Nat), k + f9 = 8 → x_W G mX11_seek (x_Z G d 0 0 ad0 nb0 (x_Ret (mset B I T S rd tx gv pl) (.int (s_sk rd tx f g m a e))) x_noX) (mset B I T S rd tx gv pl) 0 0 24 [some (.ref 275), some (.int x), some (.int y), some (.int z), some (.int (-1)), some (.int (nI t)), some (.int (b2 (s_eqn rd tx (f + g * t) a e k))), some (.int (nI k))] [] := by
    intro t ht K f9
    induction f9 with
    | zero =>
      intro k e0 
      obtain rfl : k = 8 := by omega
      refine X_ld rfl rfl rfl rfl ?_
      refine X_push (v := .int 8) rfl (by decide +kernel) ?_
      refine X_icmp_ge rfl (fun c28 => ?_) (fun c28 => absurd ((n_le (a := 8) (show (8 : Int32) = nI 8 from rfl) rfl (by omega) (by omega)).mpr (by omega)) c28)
      refine X_loc (L' := [some (.ref 275), some (.int x), some (.int y), some (.int z), some (.int (-1)), some (.int (nI t)), some (.int (b2 (s_eqn rd tx (f + g * t) a e 8))), none]) ⟨rfl, rfl, rfl, rfl, rfl, rfl, rfl, trivial⟩ ?_
      exact K
    | succ f9 ih =>
      intro k e0 
      have hgt := hgm t ht
      refine X_ld rfl rfl rfl rfl ?_
      refine X_push (v := .int 8) rfl (by decide +kernel) ?_
      refine X_icmp_ge rfl (fun c28 => absurd ((n_le (a := 8) (show (8 : Int32) = nI 8 from rfl) rfl (by omega) (by omega)).mp c28) (by omega)) (fun c28 => ?_)
      refine X_ld rfl rfl rfl rfl ?_
      refine X_if_eq rfl (fun c33 => ?_) (fun c33 => ?_)
      · have h33 : (s_eqn rd tx (f + g * t) a e k) = false := b2_0 c33
        have e1 : s_eqn rd tx (f + g * t) a e 8 = false := s_eqn_f 8 k h33 (by omega)
        refine X_loc (L' := [some (.ref 275), some (.int x), some (.int y), some (.int z), some (.int (-1)), some (.int (nI t)), some (.int (b2 (s_eqn rd tx (f + g * t) a e 8))), none]) ⟨rfl, rfl, rfl, rfl, rfl, rfl, congrArg (fun q => Value.int (b2 q)) (e1.trans h33.symm), trivial⟩ ?_
        exact K
      · have h33 : (s_eqn rd tx (f + g * t) a e k) = true := b2_1 c33
        refine X_ld rfl rfl rfl rfl ?_
        refine X_get f_X11_13 rfl rfl rfl ?_
        refine X_ld rfl rfl rfl rfl ?_
        refine X_ld rfl rfl rfl rfl ?_
        refine X_ld rfl rfl rfl rfl ?_
        refine X_bin rfl rfl ?_
        refine X_bin rfl rfl ?_
        refine X_ld rfl rfl rfl rfl ?_
        refine X_bin rfl rfl ?_
        refine X_ildn (n := 2400) ((f + (g * t)) + k) (m_add (m_add hx (by rw [hy]; exact pk_mul g t)) rfl) (by omega) (by omega) rfl rfl ?_
        refine X_ld rfl rfl rfl rfl ?_
        refine X_get f_X11_125 rfl rfl rfl ?_
        refine X_ld rfl rfl rfl rfl ?_
        refine X_bin rfl rfl ?_
        refine X_ld rfl rfl rfl rfl ?_
        refine X_get f_X11_128 rfl rfl rfl ?_
        refine X_icmp_ge rfl (fun c61 => ?_) (fun c61 => ?_)
        · have n61 := (n_le h15 (m_add h14 rfl) (by omega) (by omega)).mp c61
          refine X_push (v := .int 0) rfl (by decide +kernel) ?_
          refine X_icmp_ne rfl (fun c80 => ?_) (fun c80 => ?_)
          · refine X_push (v := .int 0) rfl (by decide +kernel) ?_
            refine X_st rfl rfl rfl ?_
            refine X_iinc rfl rfl rfl ?_
            refine X_goto rfl ?_
            have e1 : s_eqn rd tx (f + g * t) a e (k + 1) = false := (show (s_eqn rd tx (f + g * t) a e k && decide (rd (f + g * t + k) = s_ltr tx a e k)) = _ from by rw [h33, show s_ltr tx a e k = _ from if_neg (Nat.not_lt.mpr n61), decide_eq_false c80]; rfl)
            refine X_loc (L' := [some (.ref 275), some (.int x), some (.int y), some (.int z), some (.int (-1)), some (.int (nI t)), some (.int (b2 (s_eqn rd tx (f + g * t) a e (k + 1)))), some (.int (nI (k + 1)))]) ⟨rfl, rfl, rfl, rfl, rfl, rfl, congrArg (fun q => Value.int (b2 q)) e1, congrArg Value.int (m_inc rfl).symm, trivial⟩ ?_
            exact ih (k + 1) (by omega)
          · refine X_push (v := .int 1) rfl (by decide +kernel) ?_
            refine X_goto rfl ?_
            refine X_st rfl rfl rfl ?_
            refine X_iinc rfl rfl rfl ?_
            refine X_goto rfl ?_
            have e1 : s_eqn rd tx (f + g * t) a e (k + 1) = true := (show (s_eqn rd tx (f + g * t) a e k && decide (rd (f + g * t + k) = s_ltr tx a e k)) = _ from by rw [h33, show s_ltr tx a e k = _ from if_neg (Nat.not_lt.mpr n61), decide_eq_true c80]; rfl)
            refine X_loc (L' := [some (.ref 275), some (.int x), some (.int y), some (.int z), some (.int (-1)), some (.int (nI t)), some (.int (b2 (s_eqn rd tx (f + g * t) a e (k + 1)))), some (.int (nI (k + 1)))]) ⟨rfl, rfl, rfl, rfl, rfl, rfl, congrArg (fun q => Value.int (b2 q)) e1, congrArg Value.int (m_inc rfl).symm, trivial⟩ ?_
            exact ih (k + 1) (by omega)
        · have n61 := mt (n_le h15 (m_add h14 rfl) (by omega) (by omega)).mpr c61
          refine X_ld rfl rfl rfl rfl ?_
          refine X_get f_X11_16 rfl rfl rfl ?_
          refine X_ld rfl rfl rfl rfl ?_
          refine X_get f_X11_125 rfl rfl rfl ?_
          refine X_ld rfl rfl rfl rfl ?_
          refine X_bin rfl rfl ?_
          refine X_ildn (n := 800) (a + k) (m_add h14 rfl) (by omega) (by omega) rfl rfl ?_
          refine X_goto rfl ?_
          refine X_icmp_ne rfl (fun c80 => ?_) (fun c80 => ?_)
          · refine X_push (v := .int 0) rfl (by decide +kernel) ?_
            refine X_st rfl rfl rfl ?_
            refine X_iinc rfl rfl rfl ?_
            refine X_goto rfl ?_
            have e1 : s_eqn rd tx (f + g * t) a e (k + 1) = false := (show (s_eqn rd tx (f + g * t) a e k && decide (rd (f + g * t + k) = s_ltr tx a e k)) = _ from by rw [h33, show s_ltr tx a e k = _ from if_pos (Nat.not_le.mp n61), decide_eq_false c80]; rfl)
            refine X_loc (L' := [some (.ref 275), some (.int x), some (.int y), some (.int z), some (.int (-1)), some (.int (nI t)), some (.int (b2 (s_eqn rd tx (f + g * t) a e (k + 1)))), some (.int (nI (k + 1)))]) ⟨rfl, rfl, rfl, rfl, rfl, rfl, congrArg (fun q => Value.int (b2 q)) e1, congrArg Value.int (m_inc rfl).symm, trivial⟩ ?_
            exact ih (k + 1) (by omega)
          · refine X_push (v := .int 1) rfl (by decide +kernel) ?_
            refine X_goto rfl ?_
            refine X_st rfl rfl rfl ?_
            refine X_iinc rfl rfl rfl ?_
            refine X_goto rfl ?_
            have e1 : s_eqn rd tx (f + g * t) a e (k + 1) = true := (show (s_eqn rd tx (f + g * t) a e k && decide (rd (f + g * t + k) = s_ltr tx a e k)) = _ from by rw [h33, show s_ltr tx a e k = _ from if_pos (Nat.not_le.mp n61), decide_eq_true c80]; rfl)
            refine X_loc (L' := [some (.ref 275), some (.int x), some (.int y), some (.int z), some (.int (-1)), some (.int (nI t)), some (.int (b2 (s_eqn rd tx (f + g * t) a e (k + 1)))), some (.int (nI (k + 1)))]) ⟨rfl, rfl, rfl, rfl, rfl, rfl, congrArg (fun q => Value.int (b2 q)) e1, congrArg Value.int (m_inc rfl).symm, trivial⟩ ?_
            exact ih (k + 1) (by omega)
  have loop : (∀ v, v = s_sk rd tx f g m a e → x_W G mX11_seek (x_Z G d 0 0 ad0 nb0 (x_Ret (mset B I T S rd tx gv pl) (.int (s_sk rd tx f g m a e))) x_noX) (mset B I T S rd tx gv pl) 0 0 115 [some (.ref 275), some (.int x), some (.int y), some (.int z), some (.int v), none, none, none] []) → ∀ (f9 t : Nat), t + f9 = m → (∀ j, j < t → (fun t => s_eqn rd tx (f + g * t) a e 8) j = false) → x_W G mX11_seek (x_Z G d 0 0 ad0 nb0 (x_Ret (mset B I T S rd tx gv pl) (.int (s_sk rd tx f g m a e))) x_noX) (mset B I T S rd tx gv pl) 0 0 6 [some (.ref 275), some (.int x), some (.int y), some (.int z), some (.int (-1)), some (.int (nI t)), none, none] [] := by
    intro K f9
    induction f9 with
    | zero =>
      intro t e0 hno
      obtain e9 : t = m := by omega
      subst t
      refine X_ld rfl rfl rfl rfl ?_
      refine X_ld rfl rfl rfl rfl ?_
      refine X_icmp_ge rfl (fun c9 => ?_) (fun c9 => absurd ((n_le hz rfl (by omega) (by omega)).mpr (by omega)) c9)
      refine X_loc (L' := [some (.ref 275), some (.int x), some (.int y), some (.int z), some (.int (-1)), none, none, none]) ⟨rfl, rfl, rfl, rfl, rfl, trivial⟩ ?_
      have K := K _ (s_first_no _ hno).symm
      exact K
    | succ f9 ih =>
      intro t e0 hno
      refine X_ld rfl rfl rfl rfl ?_
      refine X_ld rfl rfl rfl rfl ?_
      refine X_icmp_ge rfl (fun c9 => absurd ((n_le hz rfl (by omega) (by omega)).mp c9) (by omega)) (fun c9 => ?_)
      refine X_ld rfl rfl rfl rfl ?_
      refine X_push (v := .int (-1)) rfl (by decide +kernel) ?_
      refine X_icmp_ne rfl (fun c15 => absurd (by decide) c15) (fun c15 => ?_)
      refine X_push (v := .int 1) rfl (by decide +kernel) ?_
      refine X_st rfl rfl rfl ?_
      refine X_push (v := .int 0) rfl (by decide +kernel) ?_
      refine X_st rfl rfl rfl ?_
      refine X_loc (L' := [some (.ref 275), some (.int x), some (.int y), some (.int z), some (.int (-1)), some (.int (nI t)), some (.int (b2 (s_eqn rd tx (f + g * t) a e 0))), some (.int (nI 0))]) ⟨rfl, rfl, rfl, rfl, rfl, rfl, rfl, rfl, trivial⟩ ?_
      refine inner t (by omega) ?_ _ 0 (Nat.zero_add _)
      refine X_ld rfl rfl rfl rfl ?_
      refine X_if_eq rfl (fun c98 => ?_) (fun c98 => ?_)
      · have h98 : (s_eqn rd tx (f + g * t) a e 8) = false := b2_0 c98
        refine X_push (v := .int (-1)) rfl (by decide +kernel) ?_
        refine X_st rfl rfl rfl ?_
        refine X_iinc rfl rfl rfl ?_
        refine X_goto rfl ?_
        refine X_loc (L' := [some (.ref 275), some (.int x), some (.int y), some (.int z), some (.int (-1)), some (.int (nI (t + 1))), none, none]) ⟨rfl, rfl, rfl, rfl, rfl, congrArg Value.int (m_inc rfl).symm, trivial⟩ ?_
        exact ih (t + 1) (by omega) (m_below hno h98)
      · have h98 : (s_eqn rd tx (f + g * t) a e 8) = true := b2_1 c98
        refine X_ld rfl rfl rfl rfl ?_
        refine X_goto rfl ?_
        refine X_st rfl rfl rfl ?_
        refine X_iinc rfl rfl rfl ?_
        refine X_goto rfl ?_
        refine X_ld rfl rfl rfl rfl ?_
        refine X_ld rfl rfl rfl rfl ?_
        refine X_icmp_ge rfl (fun c9 => ?_) (fun c9 => ?_)
        · refine X_loc (L' := [some (.ref 275), some (.int x), some (.int y), some (.int z), some (.int (nI t)), none, none, none]) ⟨rfl, rfl, rfl, rfl, rfl, trivial⟩ ?_
          exact K _ (s_first_yes (P := fun t => s_eqn rd tx (f + g * t) a e 8) (by omega) h98 hno _ (by omega)).symm
        · refine X_ld rfl rfl rfl rfl ?_
          refine X_push (v := .int (-1)) rfl (by decide +kernel) ?_
          refine X_icmp_ne rfl (fun c15 => ?_) (fun c15 => absurd c15 (nI_ne_m1 (by omega)))
          refine X_loc (L' := [some (.ref 275), some (.int x), some (.int y), some (.int z), some (.int (nI t)), none, none, none]) ⟨rfl, rfl, rfl, rfl, rfl, trivial⟩ ?_
          exact K _ (s_first_yes (P := fun t => s_eqn rd tx (f + g * t) a e 8) (by omega) h98 hno _ (by omega)).symm
  refine X_push (v := .int (-1)) rfl (by decide +kernel) ?_
  refine X_st rfl rfl rfl ?_
  refine X_push (v := .int 0) rfl (by decide +kernel) ?_
  refine X_st rfl rfl rfl ?_
  refine X_loc (L' := [some (.ref 275), some (.int x), some (.int y), some (.int z), some (.int (-1)), some (.int (nI 0)), none, none]) ⟨rfl, rfl, rfl, rfl, rfl, rfl, trivial⟩ ?_
  refine loop (fun v hv => ?_) m 0 (Nat.zero_add _) (fun j hj => absurd hj (Nat.not_lt_zero _))
  refine X_ld rfl rfl rfl rfl ?_
  exact X_iret rfl rfl ⟨rfl, by rw [hv]⟩ (Nat.le_of_ble_eq_true rfl) (Nat.le_of_ble_eq_true rfl)
/-- a code more -/
def s_code (rd : Nat → Int32) (k : Nat) (op pl : Int32) : Nat → Int32 := upd (upd (upd rd (455 + 6 * k + 0) op) (455 + 6 * k + 5) pl) 9 (nI (k + 1))
theorem c_codes {G : XE} (hG : x_Kn G) {B : XH} {I : Nat → Int32} {T : Int64} {S : Nat → Nat → Int32} {rd tx gv pl : Nat → Int32} (d : Nat) (k : Nat) (hk : rd 9 = nI k) (hk9 : k < 324) {x y : Int32} : x_M G mX11_codes (d + 1) 0 0 [.ref 275, .int x, .int y] (mset B I T S rd tx gv pl) (x_Ret (mset B I T S (s_code rd k x y) tx gv pl) (.int (nI k))) x_noX := by
  refine X_M hG okX11_codes rfl (L := [some (.ref 275), some (.int x), some (.int y), none]) rfl (Nat.le_of_ble_eq_true rfl) (fun ad0 nb0 => ?_)
  refine X_ld rfl rfl rfl rfl ?_
  refine X_get f_X11_13 rfl rfl rfl ?_
  refine X_push (v := .int 9) rfl (by decide +kernel) ?_
  refine X_ildn (n := 2400) 9 (show (9 : Int32) = nI 9 from rfl) (by omega) (by omega) rfl rfl ?_
  refine X_st rfl rfl rfl ?_
  refine X_ld rfl rfl rfl rfl ?_
  refine X_get f_X11_13 rfl rfl rfl ?_
  refine X_ld rfl rfl rfl rfl ?_
  refine X_push (v := .int 0) rfl (by decide +kernel) ?_
  refine X_scall l_X11_X11_codeAt (c_codeAt hG d ) rfl rfl rfl (Nat.le_of_ble_eq_true rfl) (Nat.le_of_ble_eq_true rfl) (Nat.le_refl _) (Nat.le_of_ble_eq_true rfl) (Nat.le_of_ble_eq_true rfl) ?_
  refine X_ld rfl rfl rfl rfl ?_
  refine X_mRst (455 + 6 * k + 0) (m_codeAt hk (show (0 : Int32) = nI 0 from rfl)) (by omega) rfl ?_
  refine X_ld rfl rfl rfl rfl ?_
  refine X_get f_X11_13 rfl rfl rfl ?_
  refine X_ld rfl rfl rfl rfl ?_
  refine X_push (v := .int 5) rfl (by decide +kernel) ?_
  refine X_scall l_X11_X11_codeAt (c_codeAt hG d ) rfl rfl rfl (Nat.le_of_ble_eq_true rfl) (Nat.le_of_ble_eq_true rfl) (Nat.le_refl _) (Nat.le_of_ble_eq_true rfl) (Nat.le_of_ble_eq_true rfl) ?_
  refine X_ld rfl rfl rfl rfl ?_
  refine X_mRst (455 + 6 * k + 5) (m_codeAt hk (show (5 : Int32) = nI 5 from rfl)) (by omega) rfl ?_
  refine X_ld rfl rfl rfl rfl ?_
  refine X_get f_X11_13 rfl rfl rfl ?_
  refine X_push (v := .int 9) rfl (by decide +kernel) ?_
  refine X_dup2 rfl rfl rfl ?_
  refine X_ildn (n := 2400) 9 (show (9 : Int32) = nI 9 from rfl) (by omega) (by omega) rfl rfl ?_
  refine X_push (v := .int 1) rfl (by decide +kernel) ?_
  refine X_bin rfl rfl ?_
  refine X_mRst 9 (show (9 : Int32) = nI 9 from rfl) (by omega) rfl ?_
  refine X_ld rfl rfl rfl rfl ?_
  exact X_iret rfl rfl ⟨by unfold s_code; rw [show upd (upd rd (455 + 6 * k + 0) x) (455 + 6 * k + 5) y 9 + 1 = nI (k + 1) from m_add (b := 1) ((updI_ne (by omega)).trans ((updI_ne (by omega)).trans hk)) rfl], congrArg (fun q => some (Value.int q)) hk⟩ (Nat.le_of_ble_eq_true rfl) (Nat.le_of_ble_eq_true rfl)
