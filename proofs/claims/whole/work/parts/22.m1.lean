/-! ===== the reference: its small methods ===== -/
theorem c_get {G : XE} (hG : x_Kn G) {B : XH} {I : Nat → Int32} {T : Int64} {S : Nat → Nat → Int32} {rd tx gv pl : Nat → Int32} (d : Nat) (w : Nat) (hw : I 3 = nI w) (hw9 : w < 9) (k : Nat) (hk : k < 2400) {x : Int32} (hx : x = nI k) : x_M G mX11_get d 0 0 [.ref 275, .int x] (mset B I T S rd tx gv pl) (x_Ret (mset B I T S rd tx gv pl) (.int (S w k))) x_noX := by
  refine X_M hG okX11_get rfl (L := [some (.ref 275), some (.int x)]) rfl (Nat.le_of_ble_eq_true rfl) (fun ad0 nb0 => ?_)
  refine X_ld rfl rfl rfl rfl ?_
  refine X_get f_X11_7 rfl rfl rfl ?_
  refine X_push (v := .int 2400) rfl (by decide +kernel) ?_
  refine X_ld rfl rfl rfl rfl ?_
  refine X_get f_X11_40 rfl rfl rfl ?_
  refine X_bin rfl rfl ?_
  refine X_ld rfl rfl rfl rfl ?_
  refine X_bin rfl rfl ?_
  refine X_mSld w k (m_ix hw hx) hw9 hk rfl ?_
  exact X_iret rfl rfl ⟨rfl, rfl⟩ (Nat.le_of_ble_eq_true rfl) (Nat.le_of_ble_eq_true rfl)
theorem c_put {G : XE} (hG : x_Kn G) {B : XH} {I : Nat → Int32} {T : Int64} {S : Nat → Nat → Int32} {rd tx gv pl : Nat → Int32} (d : Nat) (w : Nat) (hw : I 3 = nI w) (hw9 : w < 9) (k : Nat) (hk : k < 2400) {x v : Int32} (hx : x = nI k) : x_M G mX11_put d 0 0 [.ref 275, .int x, .int v] (mset B I T S rd tx gv pl) (x_RetV (mset B I T (updS S w k v) rd tx gv pl)) x_noX := by
  refine X_M hG okX11_put rfl (L := [some (.ref 275), some (.int x), some (.int v)]) rfl (Nat.le_of_ble_eq_true rfl) (fun ad0 nb0 => ?_)
  refine X_ld rfl rfl rfl rfl ?_
  refine X_get f_X11_7 rfl rfl rfl ?_
  refine X_push (v := .int 2400) rfl (by decide +kernel) ?_
  refine X_ld rfl rfl rfl rfl ?_
  refine X_get f_X11_40 rfl rfl rfl ?_
  refine X_bin rfl rfl ?_
  refine X_ld rfl rfl rfl rfl ?_
  refine X_bin rfl rfl ?_
  refine X_ld rfl rfl rfl rfl ?_
  refine X_mSst w k (m_ix hw hx) hw9 hk rfl ?_
  exact X_vret rfl rfl ⟨rfl, rfl⟩ (Nat.le_of_ble_eq_true rfl) (Nat.le_of_ble_eq_true rfl)
theorem c_add {G : XE} (hG : x_Kn G) {B : XH} {I : Nat → Int32} {T : Int64} {S : Nat → Nat → Int32} {rd tx gv pl : Nat → Int32} (d : Nat) (w : Nat) (hw : I 3 = nI w) (hw9 : w < 9) (k : Nat) (hk : k < 2400) {x v : Int32} (hx : x = nI k) : x_M G mX11_add d 0 0 [.ref 275, .int x, .int v] (mset B I T S rd tx gv pl) (x_RetV (mset B I T (updS S w k (S w k + v)) rd tx gv pl)) x_noX := by
  refine X_M hG okX11_add rfl (L := [some (.ref 275), some (.int x), some (.int v)]) rfl (Nat.le_of_ble_eq_true rfl) (fun ad0 nb0 => ?_)
  refine X_ld rfl rfl rfl rfl ?_
  refine X_get f_X11_7 rfl rfl rfl ?_
  refine X_push (v := .int 2400) rfl (by decide +kernel) ?_
  refine X_ld rfl rfl rfl rfl ?_
  refine X_get f_X11_40 rfl rfl rfl ?_
  refine X_bin rfl rfl ?_
  refine X_ld rfl rfl rfl rfl ?_
  refine X_bin rfl rfl ?_
  refine X_dup2 rfl rfl rfl ?_
  refine X_mSld w k (m_ix hw hx) hw9 hk rfl ?_
  refine X_ld rfl rfl rfl rfl ?_
  refine X_bin rfl rfl ?_
  refine X_mSst w k (m_ix hw hx) hw9 hk rfl ?_
  exact X_vret rfl rfl ⟨rfl, rfl⟩ (Nat.le_of_ble_eq_true rfl) (Nat.le_of_ble_eq_true rfl)
theorem c_columnAt {G : XE} (hG : x_Kn G) {N : XH} (d : Nat) {x y : Int32} : x_M G mX11_columnAt d 0 0 [.int x, .int y] (N) (x_Ret N (.int (10 + 13 * x + y))) x_noX := by
  refine X_M hG okX11_columnAt rfl (L := [some (.int x), some (.int y)]) rfl (Nat.le_of_ble_eq_true rfl) (fun ad0 nb0 => ?_)
  refine X_push (v := .int 10) rfl (by decide +kernel) ?_
  refine X_push (v := .int 13) rfl (by decide +kernel) ?_
  refine X_ld rfl rfl rfl rfl ?_
  refine X_bin rfl rfl ?_
  refine X_bin rfl rfl ?_
  refine X_ld rfl rfl rfl rfl ?_
  refine X_bin rfl rfl ?_
  exact X_iret rfl rfl ⟨rfl, rfl⟩ (Nat.le_of_ble_eq_true rfl) (Nat.le_of_ble_eq_true rfl)
theorem c_valueAt {G : XE} (hG : x_Kn G) {N : XH} (d : Nat) {x y : Int32} : x_M G mX11_valueAt d 0 0 [.int x, .int y] (N) (x_Ret N (.int (75 + 5 * x + y))) x_noX := by
  refine X_M hG okX11_valueAt rfl (L := [some (.int x), some (.int y)]) rfl (Nat.le_of_ble_eq_true rfl) (fun ad0 nb0 => ?_)
  refine X_push (v := .int 75) rfl (by decide +kernel) ?_
  refine X_push (v := .int 5) rfl (by decide +kernel) ?_
  refine X_ld rfl rfl rfl rfl ?_
  refine X_bin rfl rfl ?_
  refine X_bin rfl rfl ?_
  refine X_ld rfl rfl rfl rfl ?_
  refine X_bin rfl rfl ?_
  exact X_iret rfl rfl ⟨rfl, rfl⟩ (Nat.le_of_ble_eq_true rfl) (Nat.le_of_ble_eq_true rfl)
theorem c_statementAt {G : XE} (hG : x_Kn G) {N : XH} (d : Nat) {x y : Int32} : x_M G mX11_statementAt d 0 0 [.int x, .int y] (N) (x_Ret N (.int (275 + 30 * x + y))) x_noX := by
  refine X_M hG okX11_statementAt rfl (L := [some (.int x), some (.int y)]) rfl (Nat.le_of_ble_eq_true rfl) (fun ad0 nb0 => ?_)
  refine X_push (v := .int 275) rfl (by decide +kernel) ?_
  refine X_push (v := .int 30) rfl (by decide +kernel) ?_
  refine X_ld rfl rfl rfl rfl ?_
  refine X_bin rfl rfl ?_
  refine X_bin rfl rfl ?_
  refine X_ld rfl rfl rfl rfl ?_
  refine X_bin rfl rfl ?_
  exact X_iret rfl rfl ⟨rfl, rfl⟩ (Nat.le_of_ble_eq_true rfl) (Nat.le_of_ble_eq_true rfl)
theorem c_codeAt {G : XE} (hG : x_Kn G) {N : XH} (d : Nat) {x y : Int32} : x_M G mX11_codeAt d 0 0 [.int x, .int y] (N) (x_Ret N (.int (455 + 6 * x + y))) x_noX := by
  refine X_M hG okX11_codeAt rfl (L := [some (.int x), some (.int y)]) rfl (Nat.le_of_ble_eq_true rfl) (fun ad0 nb0 => ?_)
  refine X_push (v := .int 455) rfl (by decide +kernel) ?_
  refine X_push (v := .int 6) rfl (by decide +kernel) ?_
  refine X_ld rfl rfl rfl rfl ?_
  refine X_bin rfl rfl ?_
  refine X_bin rfl rfl ?_
  refine X_ld rfl rfl rfl rfl ?_
  refine X_bin rfl rfl ?_
  exact X_iret rfl rfl ⟨rfl, rfl⟩ (Nat.le_of_ble_eq_true rfl) (Nat.le_of_ble_eq_true rfl)
theorem m_columnAt {x y : Int32} {a b : Nat} (hx : x = nI a) (hy : y = nI b) : (10 : Int32) + 13 * x + y = nI (10 + 13 * a + b) := by
  rw [hx, hy, show (13 : Int32) * nI a = nI (13 * a) from pk_mul 13 a, show (10 : Int32) + nI (13 * a) = nI (10 + 13 * a) from nI_add _ _, nI_add]
theorem c_ofColumn {G : XE} (hG : x_Kn G) {B : XH} {I : Nat → Int32} {T : Int64} {S : Nat → Nat → Int32} {rd tx gv pl : Nat → Int32} (d : Nat) (w : Nat) (hw : I 3 = nI w) (hw9 : w < 9) (a b : Nat) (hk : 10 + 13 * a + b < 2400) {x y : Int32} (hx : x = nI a) (hy : y = nI b) : x_M G mX11_ofColumn (d + 1) 0 0 [.ref 275, .int x, .int y] (mset B I T S rd tx gv pl) (x_Ret (mset B I T S rd tx gv pl) (.int (S w (10 + 13 * a + b)))) x_noX := by
  refine X_M hG okX11_ofColumn rfl (L := [some (.ref 275), some (.int x), some (.int y)]) rfl (Nat.le_of_ble_eq_true rfl) (fun ad0 nb0 => ?_)
  refine X_ld rfl rfl rfl rfl ?_
  refine X_ld rfl rfl rfl rfl ?_
  refine X_ld rfl rfl rfl rfl ?_
  refine X_scall l_X11_X11_columnAt (c_columnAt hG d) rfl rfl rfl (Nat.le_of_ble_eq_true rfl) (Nat.le_of_ble_eq_true rfl) (Nat.le_refl _) (Nat.le_of_ble_eq_true rfl) (Nat.le_of_ble_eq_true rfl) ?_
  refine X_mcall l_X11_X11_get (c_get hG d w hw hw9 (10 + 13 * a + b) hk (m_columnAt hx hy)) rfl rfl rfl rfl (Nat.le_of_ble_eq_true rfl) (Nat.le_of_ble_eq_true rfl) (Nat.le_refl _) (Nat.le_of_ble_eq_true rfl) (Nat.le_of_ble_eq_true rfl) ?_
  exact X_iret rfl rfl ⟨rfl, rfl⟩ (Nat.le_of_ble_eq_true rfl) (Nat.le_of_ble_eq_true rfl)
theorem m_statementAt {x y : Int32} {a b : Nat} (hx : x = nI a) (hy : y = nI b) : (275 : Int32) + 30 * x + y = nI (275 + 30 * a + b) := by
  rw [hx, hy, show (30 : Int32) * nI a = nI (30 * a) from pk_mul 30 a, show (275 : Int32) + nI (30 * a) = nI (275 + 30 * a) from nI_add _ _, nI_add]
theorem c_ofStatement {G : XE} (hG : x_Kn G) {B : XH} {I : Nat → Int32} {T : Int64} {S : Nat → Nat → Int32} {rd tx gv pl : Nat → Int32} (d : Nat) (w : Nat) (hw : I 3 = nI w) (hw9 : w < 9) (a b : Nat) (hk : 275 + 30 * a + b < 2400) {x y : Int32} (hx : x = nI a) (hy : y = nI b) : x_M G mX11_ofStatement (d + 1) 0 0 [.ref 275, .int x, .int y] (mset B I T S rd tx gv pl) (x_Ret (mset B I T S rd tx gv pl) (.int (S w (275 + 30 * a + b)))) x_noX := by
  refine X_M hG okX11_ofStatement rfl (L := [some (.ref 275), some (.int x), some (.int y)]) rfl (Nat.le_of_ble_eq_true rfl) (fun ad0 nb0 => ?_)
  refine X_ld rfl rfl rfl rfl ?_
  refine X_ld rfl rfl rfl rfl ?_
  refine X_ld rfl rfl rfl rfl ?_
  refine X_scall l_X11_X11_statementAt (c_statementAt hG d) rfl rfl rfl (Nat.le_of_ble_eq_true rfl) (Nat.le_of_ble_eq_true rfl) (Nat.le_refl _) (Nat.le_of_ble_eq_true rfl) (Nat.le_of_ble_eq_true rfl) ?_
  refine X_mcall l_X11_X11_get (c_get hG d w hw hw9 (275 + 30 * a + b) hk (m_statementAt hx hy)) rfl rfl rfl rfl (Nat.le_of_ble_eq_true rfl) (Nat.le_of_ble_eq_true rfl) (Nat.le_refl _) (Nat.le_of_ble_eq_true rfl) (Nat.le_of_ble_eq_true rfl) ?_
  exact X_iret rfl rfl ⟨rfl, rfl⟩ (Nat.le_of_ble_eq_true rfl) (Nat.le_of_ble_eq_true rfl)
theorem m_codeAt {x y : Int32} {a b : Nat} (hx : x = nI a) (hy : y = nI b) : (455 : Int32) + 6 * x + y = nI (455 + 6 * a + b) := by
  rw [hx, hy, show (6 : Int32) * nI a = nI (6 * a) from pk_mul 6 a, show (455 : Int32) + nI (6 * a) = nI (455 + 6 * a) from nI_add _ _, nI_add]
theorem c_ofCode {G : XE} (hG : x_Kn G) {B : XH} {I : Nat → Int32} {T : Int64} {S : Nat → Nat → Int32} {rd tx gv pl : Nat → Int32} (d : Nat) (w : Nat) (hw : I 3 = nI w) (hw9 : w < 9) (a b : Nat) (hk : 455 + 6 * a + b < 2400) {x y : Int32} (hx : x = nI a) (hy : y = nI b) : x_M G mX11_ofCode (d + 1) 0 0 [.ref 275, .int x, .int y] (mset B I T S rd tx gv pl) (x_Ret (mset B I T S rd tx gv pl) (.int (S w (455 + 6 * a + b)))) x_noX := by
  refine X_M hG okX11_ofCode rfl (L := [some (.ref 275), some (.int x), some (.int y)]) rfl (Nat.le_of_ble_eq_true rfl) (fun ad0 nb0 => ?_)
  refine X_ld rfl rfl rfl rfl ?_
  refine X_ld rfl rfl rfl rfl ?_
  refine X_ld rfl rfl rfl rfl ?_
  refine X_scall l_X11_X11_codeAt (c_codeAt hG d) rfl rfl rfl (Nat.le_of_ble_eq_true rfl) (Nat.le_of_ble_eq_true rfl) (Nat.le_refl _) (Nat.le_of_ble_eq_true rfl) (Nat.le_of_ble_eq_true rfl) ?_
  refine X_mcall l_X11_X11_get (c_get hG d w hw hw9 (455 + 6 * a + b) hk (m_codeAt hx hy)) rfl rfl rfl rfl (Nat.le_of_ble_eq_true rfl) (Nat.le_of_ble_eq_true rfl) (Nat.le_refl _) (Nat.le_of_ble_eq_true rfl) (Nat.le_of_ble_eq_true rfl) ?_
  exact X_iret rfl rfl ⟨rfl, rfl⟩ (Nat.le_of_ble_eq_true rfl) (Nat.le_of_ble_eq_true rfl)
theorem m_valueAt {x y : Int32} {a b : Nat} (hx : x = nI a) (hy : y = nI b) : (75 : Int32) + 5 * x + y = nI (75 + 5 * a + b) := by
  rw [hx, hy, show (5 : Int32) * nI a = nI (5 * a) from pk_mul 5 a, show (75 : Int32) + nI (5 * a) = nI (75 + 5 * a) from nI_add _ _, nI_add]
def s_most (t : Int32) : Int32 := if t = 0 then 9999 else if t = 1 then 999 else 1
theorem c_mostOf {G : XE} (hG : x_Kn G) {N : XH} (d : Nat) {x : Int32} : x_M G mX11_mostOf d 0 0 [.int x] (N) (x_Ret N (.int (s_most x))) x_noX := by
  refine X_M hG okX11_mostOf rfl (L := [some (.int x)]) rfl (Nat.le_of_ble_eq_true rfl) (fun ad0 nb0 => ?_)
  refine X_ld rfl rfl rfl rfl ?_
  refine X_if_ne rfl (fun c => ?_) (fun c => ?_)
  · refine X_ld rfl rfl rfl rfl ?_
    refine X_push (v := .int 1) rfl (by decide +kernel) ?_
    refine X_icmp_ne rfl (fun c2 => ?_) (fun c2 => ?_)
    · refine X_push (v := .int 1) rfl (by decide +kernel) ?_
      exact X_iret rfl rfl ⟨rfl, by unfold s_most; rw [if_neg c, if_neg c2]⟩ (Nat.le_of_ble_eq_true rfl) (Nat.le_of_ble_eq_true rfl)
    · refine X_push (v := .int 999) rfl (by decide +kernel) ?_
      refine X_goto rfl ?_
      exact X_iret rfl rfl ⟨rfl, by unfold s_most; rw [if_neg c, if_pos c2]⟩ (Nat.le_of_ble_eq_true rfl) (Nat.le_of_ble_eq_true rfl)
  · refine X_push (v := .int 9999) rfl (by decide +kernel) ?_
    refine X_goto rfl ?_
    exact X_iret rfl rfl ⟨rfl, by unfold s_most; rw [if_pos c]⟩ (Nat.le_of_ble_eq_true rfl) (Nat.le_of_ble_eq_true rfl)
theorem m_nlt {x y : Int64} (h : ¬ lg_cmp x y < 0) : y ≤ x := by
  have h1 : ¬ x < y := fun q => h (lg_lt0.mpr q)
  rw [Int64.lt_iff_toInt_lt] at h1
  rw [Int64.le_iff_toInt_le]
  omega
theorem m_ngt {x y : Int64} (h : ¬ 0 < lg_cmp x y) : x ≤ y := by
  have h1 : ¬ y < x := fun q => h (lg_gt0.mpr q)
  rw [Int64.lt_iff_toInt_lt] at h1
  rw [Int64.le_iff_toInt_le]
  omega
theorem c_isIn {G : XE} (hG : x_Kn G) {N : XH} (d : Nat) {x y z : Int32} {lx ly lz : Int64} (hx : lx = x.toInt64) (hy : ly = y.toInt64) (hz : lz = z.toInt64) : x_M G mX11_isIn d 0 0 [.long lx, .long ly, .long lz] (N) (x_Ret N (.int (bI (y ≤ x ∧ x ≤ z)))) x_noX := by
  subst hx hy hz
  refine X_M hG okX11_isIn rfl (L := [some (.long x.toInt64), none, some (.long y.toInt64), none, some (.long z.toInt64), none]) rfl (Nat.le_of_ble_eq_true rfl) (fun ad0 nb0 => ?_)
  refine X_ld rfl rfl rfl rfl ?_
  refine X_ld rfl rfl rfl rfl ?_
  refine X_bin rfl rfl ?_
  refine X_if_lt rfl (fun c => ?_) (fun c => ?_)
  · refine X_push (v := .int 0) rfl (by decide +kernel) ?_
    exact X_zret rfl rfl rfl ⟨rfl, by rw [bI_f (fun q => absurd (i2l_le.mpr q.1) (lg_lt_not_le (lg_lt0.mp c)))]⟩ (Nat.le_of_ble_eq_true rfl) (Nat.le_of_ble_eq_true rfl)
  · refine X_ld rfl rfl rfl rfl ?_
    refine X_ld rfl rfl rfl rfl ?_
    refine X_bin rfl rfl ?_
    refine X_if_gt rfl (fun c2 => ?_) (fun c2 => ?_)
    · refine X_push (v := .int 0) rfl (by decide +kernel) ?_
      exact X_zret rfl rfl rfl ⟨rfl, by rw [bI_f (fun q => absurd (i2l_le.mpr q.2) (lg_lt_not_le (lg_gt0.mp c2)))]⟩ (Nat.le_of_ble_eq_true rfl) (Nat.le_of_ble_eq_true rfl)
    · refine X_push (v := .int 1) rfl (by decide +kernel) ?_
      refine X_goto rfl ?_
      exact X_zret rfl rfl rfl ⟨rfl, by rw [bI_t ⟨i2l_le.mp (m_nlt c), i2l_le.mp (m_ngt c2)⟩]⟩ (Nat.le_of_ble_eq_true rfl) (Nat.le_of_ble_eq_true rfl)
theorem c_right {G : XE} (hG : x_Kn G) {B : XH} {I : Nat → Int32} {T : Int64} {S : Nat → Nat → Int32} {rd tx gv pl : Nat → Int32} (d : Nat) {p : Prop} [Decidable p] (h0 : I 0 = 0) {code : Int32} (hc : ¬ code = 0) : x_M G mX11_right d 0 0 [.ref 275, .int (bI p), .int code] (mset B I T S rd tx gv pl) (x_Ret (mset B (if p then I else upd I 0 code) T S rd tx gv pl) (.int (bI p))) x_noX := by
  refine X_M hG okX11_right rfl (L := [some (.ref 275), some (.int (bI p)), some (.int code)]) rfl (Nat.le_of_ble_eq_true rfl) (fun ad0 nb0 => ?_)
  refine X_ld rfl rfl rfl rfl ?_
  refine X_get f_X11_37 rfl rfl rfl ?_
  refine X_if_ne rfl (fun c => absurd h0 c) (fun _ => ?_)
  refine X_ld rfl rfl rfl rfl ?_
  refine X_if_ne rfl (fun c => ?_) (fun c => ?_)
  · refine X_ld rfl rfl rfl rfl ?_
    refine X_get f_X11_37 rfl rfl rfl ?_
    refine X_if_ne rfl (fun c3 => absurd h0 c3) (fun _ => ?_)
    refine X_push (v := .int 1) rfl (by decide +kernel) ?_
    refine X_goto rfl ?_
    exact X_zret rfl rfl rfl ⟨by rw [if_pos (bI_ne.mp c)], by rw [bI_t (bI_ne.mp c)]⟩ (Nat.le_of_ble_eq_true rfl) (Nat.le_of_ble_eq_true rfl)
  · refine X_ld rfl rfl rfl rfl ?_
    refine X_ld rfl rfl rfl rfl ?_
    refine X_mput f_X11_37 rfl rfl ?_
    refine X_ld rfl rfl rfl rfl ?_
    refine X_get f_X11_37 rfl rfl rfl ?_
    refine X_if_ne rfl (fun c3 => ?_) (fun c3 => absurd (updI_eq.symm.trans c3) hc)
    refine X_push (v := .int 0) rfl (by decide +kernel) ?_
    exact X_zret rfl rfl rfl ⟨by rw [if_neg (fun q => (bI_ne.mpr q) c)], by rw [bI_f (fun q => (bI_ne.mpr q) c)]⟩ (Nat.le_of_ble_eq_true rfl) (Nat.le_of_ble_eq_true rfl)
