/-! ===== the reference: checksum, append, named, and what the reader begins with ===== -/
def s_add (t : Int64) (x : Int32) : Int64 := 31 * t + x.toInt64
def s_fold (f : Nat → Int32) (t : Int64) : Nat → Int64
  | 0 => t
  | n + 1 => s_add (s_fold f t n) (f n)
def s_foldF (f : Nat → Int64 → Int64) (t : Int64) : Nat → Int64
  | 0 => t
  | n + 1 => f n (s_foldF f t n)
def s_sumS (c : Nat → Int32) (s : Nat) (t : Int64) : Int64 := s_fold (fun j => s_st c s (21 + j)) (s_fold (fun h => s_st c s (17 + h)) (s_add (s_fold (fun n => s_told c s n) t 6) (s_st c s 14)) 4) (s_cm c)
def s_sum (c : Nat → Int32) : Int64 :=
  s_foldF (fun s t => s_sumS c s t) (s_foldF (fun l t => s_fold (fun j => s_val c l j) t (s_cm c)) (s_foldF (fun j t => s_fold (fun n => s_col c j (8 + n)) t 5) (s_fold (fun n => c n) 0 9) (s_cm c)) (s_lm c)) (s_sm c)
theorem c_adds {G : XE} (hG : x_Kn G) {B : XH} {I : Nat → Int32} {T : Int64} {S : Nat → Nat → Int32} {rd tx gv pl : Nat → Int32} (d : Nat) {x : Int32} {lx : Int64} (hx : lx = x.toInt64) : x_M G mX11_adds d 0 0 [.ref 275, .long lx] (mset B I T S rd tx gv pl) (x_RetV (mset B I (s_add T x) S rd tx gv pl)) x_noX := by
  refine X_M hG okX11_adds rfl (L := [some (.ref 275), some (.long lx), none]) rfl (Nat.le_of_ble_eq_true rfl) (fun ad0 nb0 => ?_)
  subst hx
  refine X_ld rfl rfl rfl rfl ?_
  refine X_ldc2 k_X11_357 rfl ?_
  refine X_ld rfl rfl rfl rfl ?_
  refine X_get f_X11_359 rfl rfl rfl ?_
  refine X_bin rfl rfl ?_
  refine X_ld rfl rfl rfl rfl ?_
  refine X_bin rfl rfl ?_
  refine X_mputT f_X11_359 rfl ?_
  exact X_vret rfl rfl ⟨rfl, rfl⟩ (Nat.le_of_ble_eq_true rfl) (Nat.le_of_ble_eq_true rfl)
theorem c_addsStatement {G : XE} (hG : x_Kn G) {B : XH} {I : Nat → Int32} {T : Int64} {S : Nat → Nat → Int32} {rd tx gv pl : Nat → Int32} (d : Nat) (w : Nat) (hw : I 3 = nI w) (hw9 : w < 9) (hwf : s_wf (S w)) (s : Nat) (hs : s < 6) {x : Int32} (hx : x = nI s) : x_M G mX11_addsStatement (d + 4) 0 0 [.ref 275, .int x] (mset B I T S rd tx gv pl) (x_RetV (mset B I (s_sumS (S w) s T) S rd tx gv pl)) x_noX := by
  refine X_M hG okX11_addsStatement rfl (L := [some (.ref 275), some (.int x), none]) rfl (Nat.le_of_ble_eq_true rfl) (fun ad0 nb0 => ?_)
  have hcm5 := hwf.cmE.2
  have hlm40 := hwf.lmE.2
  have hsm6 := hwf.smE.2
  have loopC : x_W G mX11_addsStatement (x_Z G (d + 4) 0 0 ad0 nb0 (x_RetV (mset B I (s_sumS (S w) s T) S rd tx gv pl)) x_noX) (mset B I (s_fold (fun j => s_st (S w) s (21 + j)) (s_fold (fun h => s_st (S w) s (17 + h)) (s_add (s_fold (fun n => s_told (S w) s n) T 6) (s_st (S w) s 14)) 4) (s_cm (S w))) S rd tx gv pl) 0 0 95 [some (.ref 275), some (.int x), some (.int (nI (s_cm (S w))))] [] → ∀ (f9 k : Nat), k + f9 = (s_cm (S w)) → x_W G mX11_addsStatement (x_Z G (d + 4) 0 0 ad0 nb0 (x_RetV (mset B I (s_sumS (S w) s T) S rd tx gv pl)) x_noX) (mset B I (s_fold (fun j => s_st (S w) s (21 + j)) (s_fold (fun h => s_st (S w) s (17 + h)) (s_add (s_fold (fun n => s_told (S w) s n) T 6) (s_st (S w) s 14)) 4) k) S rd tx gv pl) 0 0 66 [some (.ref 275), some (.int x), some (.int (nI k))] [] := by
    intro K f9
    induction f9 with
    | zero =>
      intro k e0 
      obtain rfl : k = (s_cm (S w)) := by omega
      refine X_ld rfl rfl rfl rfl ?_
      refine X_ld rfl rfl rfl rfl ?_
      refine X_push (v := .int 0) rfl (by decide +kernel) ?_
      refine X_mcall l_X11_X11_get (c_get hG (d + 3) w hw hw9 0 (by omega) (show (0 : Int32) = nI 0 from rfl)) rfl rfl rfl rfl (Nat.le_of_ble_eq_true rfl) (Nat.le_of_ble_eq_true rfl) (Nat.le_refl _) (Nat.le_of_ble_eq_true rfl) (Nat.le_of_ble_eq_true rfl) ?_
      refine X_icmp_ge rfl (fun c72 => ?_) (fun c72 => absurd ((n_le hwf.cmE.1 rfl (by omega) (by omega)).mpr (by omega)) c72)
      exact K
    | succ f9 ih =>
      intro k e0 
      refine X_ld rfl rfl rfl rfl ?_
      refine X_ld rfl rfl rfl rfl ?_
      refine X_push (v := .int 0) rfl (by decide +kernel) ?_
      refine X_mcall l_X11_X11_get (c_get hG (d + 3) w hw hw9 0 (by omega) (show (0 : Int32) = nI 0 from rfl)) rfl rfl rfl rfl (Nat.le_of_ble_eq_true rfl) (Nat.le_of_ble_eq_true rfl) (Nat.le_refl _) (Nat.le_of_ble_eq_true rfl) (Nat.le_of_ble_eq_true rfl) ?_
      refine X_icmp_ge rfl (fun c72 => absurd ((n_le hwf.cmE.1 rfl (by omega) (by omega)).mp c72) (by omega)) (fun c72 => ?_)
      refine X_ld rfl rfl rfl rfl ?_
      refine X_ld rfl rfl rfl rfl ?_
      refine X_ld rfl rfl rfl rfl ?_
      refine X_push (v := .int 21) rfl (by decide +kernel) ?_
      refine X_ld rfl rfl rfl rfl ?_
      refine X_bin rfl rfl ?_
      refine X_mcall l_X11_X11_ofStatement (c_ofStatement hG (d + 2) w hw hw9 s (21 + k) (by omega) hx (m_add (show (21 : Int32) = nI 21 from rfl) rfl)) rfl rfl rfl rfl (Nat.le_of_ble_eq_true rfl) (Nat.le_of_ble_eq_true rfl) (Nat.le_refl _) (Nat.le_of_ble_eq_true rfl) (Nat.le_of_ble_eq_true rfl) ?_
      refine X_un rfl rfl ?_
      refine X_mcallv l_X11_X11_adds (c_adds hG (d + 3) (x := S w (275 + 30 * s + (21 + k))) rfl) rfl rfl rfl rfl (Nat.le_of_ble_eq_true rfl) (Nat.le_of_ble_eq_true rfl) (Nat.le_refl _) (Nat.le_of_ble_eq_true rfl) (Nat.le_of_ble_eq_true rfl) ?_
      refine X_iinc rfl rfl rfl ?_
      refine X_goto rfl ?_
      refine X_heap (N' := mset B I (s_fold (fun j => s_st (S w) s (21 + j)) (s_fold (fun h => s_st (S w) s (17 + h)) (s_add (s_fold (fun n => s_told (S w) s n) T 6) (s_st (S w) s 14)) 4) (k + 1)) S rd tx gv pl) rfl ?_
      refine X_loc (L' := [some (.ref 275), some (.int x), some (.int (nI (k + 1)))]) ⟨rfl, rfl, congrArg Value.int (m_inc rfl).symm, trivial⟩ ?_
      exact ih (k + 1) (by omega)
  have loopB : x_W G mX11_addsStatement (x_Z G (d + 4) 0 0 ad0 nb0 (x_RetV (mset B I (s_sumS (S w) s T) S rd tx gv pl)) x_noX) (mset B I (s_fold (fun h => s_st (S w) s (17 + h)) (s_add (s_fold (fun n => s_told (S w) s n) T 6) (s_st (S w) s 14)) 4) S rd tx gv pl) 0 0 64 [some (.ref 275), some (.int x), some (.int (nI 4))] [] → ∀ (f9 k : Nat), k + f9 = 4 → x_W G mX11_addsStatement (x_Z G (d + 4) 0 0 ad0 nb0 (x_RetV (mset B I (s_sumS (S w) s T) S rd tx gv pl)) x_noX) (mset B I (s_fold (fun h => s_st (S w) s (17 + h)) (s_add (s_fold (fun n => s_told (S w) s n) T 6) (s_st (S w) s 14)) k) S rd tx gv pl) 0 0 39 [some (.ref 275), some (.int x), some (.int (nI k))] [] := by
    intro K f9
    induction f9 with
    | zero =>
      intro k e0 
      obtain rfl : k = 4 := by omega
      refine X_ld rfl rfl rfl rfl ?_
      refine X_push (v := .int 4) rfl (by decide +kernel) ?_
      refine X_icmp_ge rfl (fun c41 => ?_) (fun c41 => absurd ((n_le (a := 4) (show (4 : Int32) = nI 4 from rfl) rfl (by omega) (by omega)).mpr (by omega)) c41)
      exact K
    | succ f9 ih =>
      intro k e0 
      refine X_ld rfl rfl rfl rfl ?_
      refine X_push (v := .int 4) rfl (by decide +kernel) ?_
      refine X_icmp_ge rfl (fun c41 => absurd ((n_le (a := 4) (show (4 : Int32) = nI 4 from rfl) rfl (by omega) (by omega)).mp c41) (by omega)) (fun c41 => ?_)
      refine X_ld rfl rfl rfl rfl ?_
      refine X_ld rfl rfl rfl rfl ?_
      refine X_ld rfl rfl rfl rfl ?_
      refine X_push (v := .int 17) rfl (by decide +kernel) ?_
      refine X_ld rfl rfl rfl rfl ?_
      refine X_bin rfl rfl ?_
      refine X_mcall l_X11_X11_ofStatement (c_ofStatement hG (d + 2) w hw hw9 s (17 + k) (by omega) hx (m_add (show (17 : Int32) = nI 17 from rfl) rfl)) rfl rfl rfl rfl (Nat.le_of_ble_eq_true rfl) (Nat.le_of_ble_eq_true rfl) (Nat.le_refl _) (Nat.le_of_ble_eq_true rfl) (Nat.le_of_ble_eq_true rfl) ?_
      refine X_un rfl rfl ?_
      refine X_mcallv l_X11_X11_adds (c_adds hG (d + 3) (x := s_st (S w) s (17 + k)) rfl) rfl rfl rfl rfl (Nat.le_of_ble_eq_true rfl) (Nat.le_of_ble_eq_true rfl) (Nat.le_refl _) (Nat.le_of_ble_eq_true rfl) (Nat.le_of_ble_eq_true rfl) ?_
      refine X_iinc rfl rfl rfl ?_
      refine X_goto rfl ?_
      refine X_heap (N' := mset B I (s_fold (fun h => s_st (S w) s (17 + h)) (s_add (s_fold (fun n => s_told (S w) s n) T 6) (s_st (S w) s 14)) (k + 1)) S rd tx gv pl) rfl ?_
      refine X_loc (L' := [some (.ref 275), some (.int x), some (.int (nI (k + 1)))]) ⟨rfl, rfl, congrArg Value.int (m_inc rfl).symm, trivial⟩ ?_
      exact ih (k + 1) (by omega)
  have loopA : x_W G mX11_addsStatement (x_Z G (d + 4) 0 0 ad0 nb0 (x_RetV (mset B I (s_sumS (S w) s T) S rd tx gv pl)) x_noX) (mset B I (s_fold (fun n => s_told (S w) s n) T 6) S rd tx gv pl) 0 0 25 [some (.ref 275), some (.int x), some (.int (nI 6))] [] → ∀ (f9 k : Nat), k + f9 = 6 → x_W G mX11_addsStatement (x_Z G (d + 4) 0 0 ad0 nb0 (x_RetV (mset B I (s_sumS (S w) s T) S rd tx gv pl)) x_noX) (mset B I (s_fold (fun n => s_told (S w) s n) T k) S rd tx gv pl) 0 0 2 [some (.ref 275), some (.int x), some (.int (nI k))] [] := by
    intro K f9
    induction f9 with
    | zero =>
      intro k e0 
      obtain rfl : k = 6 := by omega
      refine X_ld rfl rfl rfl rfl ?_
      refine X_push (v := .int 6) rfl (by decide +kernel) ?_
      refine X_icmp_ge rfl (fun c5 => ?_) (fun c5 => absurd ((n_le (a := 6) (show (6 : Int32) = nI 6 from rfl) rfl (by omega) (by omega)).mpr (by omega)) c5)
      exact K
    | succ f9 ih =>
      intro k e0 
      refine X_ld rfl rfl rfl rfl ?_
      refine X_push (v := .int 6) rfl (by decide +kernel) ?_
      refine X_icmp_ge rfl (fun c5 => absurd ((n_le (a := 6) (show (6 : Int32) = nI 6 from rfl) rfl (by omega) (by omega)).mp c5) (by omega)) (fun c5 => ?_)
      refine X_ld rfl rfl rfl rfl ?_
      refine X_ld rfl rfl rfl rfl ?_
      refine X_ld rfl rfl rfl rfl ?_
      refine X_ld rfl rfl rfl rfl ?_
      refine X_mcall l_X11_X11_toldOf (c_toldOf hG d w hw hw9 s (by omega) hx k (by omega) rfl) rfl rfl rfl rfl (Nat.le_of_ble_eq_true rfl) (Nat.le_of_ble_eq_true rfl) (Nat.le_refl _) (Nat.le_of_ble_eq_true rfl) (Nat.le_of_ble_eq_true rfl) ?_
      refine X_un rfl rfl ?_
      refine X_mcallv l_X11_X11_adds (c_adds hG (d + 3) (x := s_told (S w) s k) rfl) rfl rfl rfl rfl (Nat.le_of_ble_eq_true rfl) (Nat.le_of_ble_eq_true rfl) (Nat.le_refl _) (Nat.le_of_ble_eq_true rfl) (Nat.le_of_ble_eq_true rfl) ?_
      refine X_iinc rfl rfl rfl ?_
      refine X_goto rfl ?_
      refine X_heap (N' := mset B I (s_fold (fun n => s_told (S w) s n) T (k + 1)) S rd tx gv pl) rfl ?_
      refine X_loc (L' := [some (.ref 275), some (.int x), some (.int (nI (k + 1)))]) ⟨rfl, rfl, congrArg Value.int (m_inc rfl).symm, trivial⟩ ?_
      exact ih (k + 1) (by omega)
  refine X_push (v := .int 0) rfl (by decide +kernel) ?_
  refine X_st rfl rfl rfl ?_
  refine X_heap (N' := mset B I (s_fold (fun n => s_told (S w) s n) T 0) S rd tx gv pl) rfl ?_
  refine X_loc (L' := [some (.ref 275), some (.int x), some (.int (nI 0))]) ⟨rfl, rfl, rfl, trivial⟩ ?_
  refine loopA ?_ _ 0 (Nat.zero_add _)
  refine X_ld rfl rfl rfl rfl ?_
  refine X_ld rfl rfl rfl rfl ?_
  refine X_ld rfl rfl rfl rfl ?_
  refine X_push (v := .int 14) rfl (by decide +kernel) ?_
  refine X_mcall l_X11_X11_ofStatement (c_ofStatement hG (d + 2) w hw hw9 s 14 (by omega) hx (show (14 : Int32) = nI 14 from rfl)) rfl rfl rfl rfl (Nat.le_of_ble_eq_true rfl) (Nat.le_of_ble_eq_true rfl) (Nat.le_refl _) (Nat.le_of_ble_eq_true rfl) (Nat.le_of_ble_eq_true rfl) ?_
  refine X_un rfl rfl ?_
  refine X_mcallv l_X11_X11_adds (c_adds hG (d + 3) (x := s_st (S w) s 14) rfl) rfl rfl rfl rfl (Nat.le_of_ble_eq_true rfl) (Nat.le_of_ble_eq_true rfl) (Nat.le_refl _) (Nat.le_of_ble_eq_true rfl) (Nat.le_of_ble_eq_true rfl) ?_
  refine X_push (v := .int 0) rfl (by decide +kernel) ?_
  refine X_st rfl rfl rfl ?_
  refine X_heap (N' := mset B I (s_fold (fun h => s_st (S w) s (17 + h)) (s_add (s_fold (fun n => s_told (S w) s n) T 6) (s_st (S w) s 14)) 0) S rd tx gv pl) rfl ?_
  refine X_loc (L' := [some (.ref 275), some (.int x), some (.int (nI 0))]) ⟨rfl, rfl, rfl, trivial⟩ ?_
  refine loopB ?_ _ 0 (Nat.zero_add _)
  refine X_push (v := .int 0) rfl (by decide +kernel) ?_
  refine X_st rfl rfl rfl ?_
  refine X_heap (N' := mset B I (s_fold (fun j => s_st (S w) s (21 + j)) (s_fold (fun h => s_st (S w) s (17 + h)) (s_add (s_fold (fun n => s_told (S w) s n) T 6) (s_st (S w) s 14)) 4) 0) S rd tx gv pl) rfl ?_
  refine X_loc (L' := [some (.ref 275), some (.int x), some (.int (nI 0))]) ⟨rfl, rfl, rfl, trivial⟩ ?_
  refine loopC ?_ _ 0 (Nat.zero_add _)
  exact X_vret rfl rfl ⟨rfl, rfl⟩ (Nat.le_of_ble_eq_true rfl) (Nat.le_of_ble_eq_true rfl)
theorem c_checksum {G : XE} (hG : x_Kn G) {B : XH} {I : Nat → Int32} {T : Int64} {S : Nat → Nat → Int32} {rd tx gv pl : Nat → Int32} (d : Nat) (w : Nat) (hw : I 3 = nI w) (hw9 : w < 9) (hwf : s_wf (S w)) : x_M G mX11_checksum (d + 5) 0 0 [.ref 275] (mset B I T S rd tx gv pl) (x_Ret (mset B (upd I 0 0) (s_sum (S w)) S rd tx gv pl) (.long (s_sum (S w)))) x_noX := by
  refine X_M hG okX11_checksum rfl (L := [some (.ref 275), none, none]) rfl (Nat.le_of_ble_eq_true rfl) (fun ad0 nb0 => ?_)
  have hcm5 := hwf.cmE.2
  have hlm40 := hwf.lmE.2
  have hsm6 := hwf.smE.2
  have loop4 : x_W G mX11_checksum (x_Z G (d + 5) 0 0 ad0 nb0 (x_Ret (mset B (upd I 0 0) (s_sum (S w)) S rd tx gv pl) (.long (s_sum (S w)))) x_noX) (mset B (upd I 0 0) (s_foldF (fun s t => s_sumS (S w) s t) (s_foldF (fun l t => s_fold (fun j => s_val (S w) l j) t (s_cm (S w))) (s_foldF (fun j t => s_fold (fun n => s_col (S w) j (8 + n)) t 5) (s_fold (fun n => S w n) 0 9) (s_cm (S w))) (s_lm (S w))) (s_sm (S w))) S rd tx gv pl) 0 0 148 [some (.ref 275), some (.int (nI (s_sm (S w)))), none] [] → ∀ (f9 s : Nat), s + f9 = (s_sm (S w)) → x_W G mX11_checksum (x_Z G (d + 5) 0 0 ad0 nb0 (x_Ret (mset B (upd I 0 0) (s_sum (S w)) S rd tx gv pl) (.long (s_sum (S w)))) x_noX) (mset B (upd I 0 0) (s_foldF (fun s t => s_sumS (S w) s t) (s_foldF (fun l t => s_fold (fun j => s_val (S w) l j) t (s_cm (S w))) (s_foldF (fun j t => s_fold (fun n => s_col (S w) j (8 + n)) t 5) (s_fold (fun n => S w n) 0 9) (s_cm (S w))) (s_lm (S w))) s) S rd tx gv pl) 0 0 128 [some (.ref 275), some (.int (nI s)), none] [] := by
    intro K f9
    induction f9 with
    | zero =>
      intro s e0 
      obtain rfl : s = (s_sm (S w)) := by omega
      refine X_ld rfl rfl rfl rfl ?_
      refine X_ld rfl rfl rfl rfl ?_
      refine X_push (v := .int 2) rfl (by decide +kernel) ?_
      refine X_mcall l_X11_X11_get (c_get hG (d + 4) w (updI_I3 hw) hw9 2 (by omega) (show (2 : Int32) = nI 2 from rfl)) rfl rfl rfl rfl (Nat.le_of_ble_eq_true rfl) (Nat.le_of_ble_eq_true rfl) (Nat.le_refl _) (Nat.le_of_ble_eq_true rfl) (Nat.le_of_ble_eq_true rfl) ?_
      refine X_icmp_ge rfl (fun c134 => ?_) (fun c134 => absurd ((n_le hwf.smE.1 rfl (by omega) (by omega)).mpr (by omega)) c134)
      exact K
    | succ f9 ih =>
      intro s e0 
      refine X_ld rfl rfl rfl rfl ?_
      refine X_ld rfl rfl rfl rfl ?_
      refine X_push (v := .int 2) rfl (by decide +kernel) ?_
      refine X_mcall l_X11_X11_get (c_get hG (d + 4) w (updI_I3 hw) hw9 2 (by omega) (show (2 : Int32) = nI 2 from rfl)) rfl rfl rfl rfl (Nat.le_of_ble_eq_true rfl) (Nat.le_of_ble_eq_true rfl) (Nat.le_refl _) (Nat.le_of_ble_eq_true rfl) (Nat.le_of_ble_eq_true rfl) ?_
      refine X_icmp_ge rfl (fun c134 => absurd ((n_le hwf.smE.1 rfl (by omega) (by omega)).mp c134) (by omega)) (fun c134 => ?_)
      refine X_ld rfl rfl rfl rfl ?_
      refine X_ld rfl rfl rfl rfl ?_
      refine X_mcallv l_X11_X11_addsStatement (c_addsStatement hG d w (updI_I3 hw) hw9 hwf s (by omega) rfl) rfl rfl rfl rfl (Nat.le_of_ble_eq_true rfl) (Nat.le_of_ble_eq_true rfl) (Nat.le_refl _) (Nat.le_of_ble_eq_true rfl) (Nat.le_of_ble_eq_true rfl) ?_
      refine X_iinc rfl rfl rfl ?_
      refine X_goto rfl ?_
      refine X_heap (N' := mset B (upd I 0 0) (s_foldF (fun s t => s_sumS (S w) s t) (s_foldF (fun l t => s_fold (fun j => s_val (S w) l j) t (s_cm (S w))) (s_foldF (fun j t => s_fold (fun n => s_col (S w) j (8 + n)) t 5) (s_fold (fun n => S w n) 0 9) (s_cm (S w))) (s_lm (S w))) (s + 1)) S rd tx gv pl) rfl ?_
      refine X_loc (L' := [some (.ref 275), some (.int (nI (s + 1))), none]) ⟨rfl, congrArg Value.int (m_inc rfl).symm, trivial⟩ ?_
      exact ih (s + 1) (by omega)
  have in3 : ∀ (l : Nat) (_ : l < (s_lm (S w))), x_W G mX11_checksum (x_Z G (d + 5) 0 0 ad0 nb0 (x_Ret (mset B (upd I 0 0) (s_sum (S w)) S rd tx gv pl) (.long (s_sum (S w)))) x_noX) (mset B (upd I 0 0) (s_fold (fun j => s_val (S w) l j) (s_foldF (fun l t => s_fold (fun j => s_val (S w) l j) t (s_cm (S w))) (s_foldF (fun j t => s_fold (fun n => s_col (S w) j (8 + n)) t 5) (s_fold (fun n => S w n) 0 9) (s_cm (S w))) l) (s_cm (S w))) S rd tx gv pl) 0 0 120 [some (.ref 275), some (.int (nI l)), some (.int (nI (s_cm (S w))))] [] → ∀ (f9 j : Nat), j + f9 = (s_cm (S w)) → x_W G mX11_checksum (x_Z G (d + 5) 0 0 ad0 nb0 (x_Ret (mset B (upd I 0 0) (s_sum (S w)) S rd tx gv pl) (.long (s_sum (S w)))) x_noX) (mset B (upd I 0 0) (s_fold (fun j => s_val (S w) l j) (s_foldF (fun l t => s_fold (fun j => s_val (S w) l j) t (s_cm (S w))) (s_foldF (fun j t => s_fold (fun n => s_col (S w) j (8 + n)) t 5) (s_fold (fun n => S w n) 0 9) (s_cm (S w))) l) j) S rd tx gv pl) 0 0 91 [some (.ref 275), some (.int (nI l)), some (.int (nI j))] [] := by
    intro l hl K f9
    induction f9 with
    | zero =>
      intro j e0 
      obtain rfl : j = (s_cm (S w)) := by omega
      refine X_ld rfl rfl rfl rfl ?_
      refine X_ld rfl rfl rfl rfl ?_
      refine X_push (v := .int 0) rfl (by decide +kernel) ?_
      refine X_mcall l_X11_X11_get (c_get hG (d + 4) w (updI_I3 hw) hw9 0 (by omega) (show (0 : Int32) = nI 0 from rfl)) rfl rfl rfl rfl (Nat.le_of_ble_eq_true rfl) (Nat.le_of_ble_eq_true rfl) (Nat.le_refl _) (Nat.le_of_ble_eq_true rfl) (Nat.le_of_ble_eq_true rfl) ?_
      refine X_icmp_ge rfl (fun c97 => ?_) (fun c97 => absurd ((n_le hwf.cmE.1 rfl (by omega) (by omega)).mpr (by omega)) c97)
      exact K
    | succ f9 ih =>
      intro j e0 
      refine X_ld rfl rfl rfl rfl ?_
      refine X_ld rfl rfl rfl rfl ?_
      refine X_push (v := .int 0) rfl (by decide +kernel) ?_
      refine X_mcall l_X11_X11_get (c_get hG (d + 4) w (updI_I3 hw) hw9 0 (by omega) (show (0 : Int32) = nI 0 from rfl)) rfl rfl rfl rfl (Nat.le_of_ble_eq_true rfl) (Nat.le_of_ble_eq_true rfl) (Nat.le_refl _) (Nat.le_of_ble_eq_true rfl) (Nat.le_of_ble_eq_true rfl) ?_
      refine X_icmp_ge rfl (fun c97 => absurd ((n_le hwf.cmE.1 rfl (by omega) (by omega)).mp c97) (by omega)) (fun c97 => ?_)
      refine X_ld rfl rfl rfl rfl ?_
      refine X_ld rfl rfl rfl rfl ?_
      refine X_ld rfl rfl rfl rfl ?_
      refine X_ld rfl rfl rfl rfl ?_
      refine X_scall l_X11_X11_valueAt (c_valueAt hG (d + 4) ) rfl rfl rfl (Nat.le_of_ble_eq_true rfl) (Nat.le_of_ble_eq_true rfl) (Nat.le_refl _) (Nat.le_of_ble_eq_true rfl) (Nat.le_of_ble_eq_true rfl) ?_
      refine X_mcall l_X11_X11_get (c_get hG (d + 4) w (updI_I3 hw) hw9 (75 + 5 * l + j) (by omega) (m_valueAt rfl rfl)) rfl rfl rfl rfl (Nat.le_of_ble_eq_true rfl) (Nat.le_of_ble_eq_true rfl) (Nat.le_refl _) (Nat.le_of_ble_eq_true rfl) (Nat.le_of_ble_eq_true rfl) ?_
      refine X_un rfl rfl ?_
      refine X_mcallv l_X11_X11_adds (c_adds hG (d + 4) (x := s_val (S w) l j) rfl) rfl rfl rfl rfl (Nat.le_of_ble_eq_true rfl) (Nat.le_of_ble_eq_true rfl) (Nat.le_refl _) (Nat.le_of_ble_eq_true rfl) (Nat.le_of_ble_eq_true rfl) ?_
      refine X_iinc rfl rfl rfl ?_
      refine X_goto rfl ?_
      refine X_heap (N' := mset B (upd I 0 0) (s_fold (fun j => s_val (S w) l j) (s_foldF (fun l t => s_fold (fun j => s_val (S w) l j) t (s_cm (S w))) (s_foldF (fun j t => s_fold (fun n => s_col (S w) j (8 + n)) t 5) (s_fold (fun n => S w n) 0 9) (s_cm (S w))) l) (j + 1)) S rd tx gv pl) rfl ?_
      refine X_loc (L' := [some (.ref 275), some (.int (nI l)), some (.int (nI (j + 1)))]) ⟨rfl, rfl, congrArg Value.int (m_inc rfl).symm, trivial⟩ ?_
      exact ih (j + 1) (by omega)
  have loop3 : x_W G mX11_checksum (x_Z G (d + 5) 0 0 ad0 nb0 (x_Ret (mset B (upd I 0 0) (s_sum (S w)) S rd tx gv pl) (.long (s_sum (S w)))) x_noX) (mset B (upd I 0 0) (s_foldF (fun l t => s_fold (fun j => s_val (S w) l j) t (s_cm (S w))) (s_foldF (fun j t => s_fold (fun n => s_col (S w) j (8 + n)) t 5) (s_fold (fun n => S w n) 0 9) (s_cm (S w))) (s_lm (S w))) S rd tx gv pl) 0 0 126 [some (.ref 275), some (.int (nI (s_lm (S w)))), none] [] → ∀ (f9 l : Nat), l + f9 = (s_lm (S w)) → x_W G mX11_checksum (x_Z G (d + 5) 0 0 ad0 nb0 (x_Ret (mset B (upd I 0 0) (s_sum (S w)) S rd tx gv pl) (.long (s_sum (S w)))) x_noX) (mset B (upd I 0 0) (s_foldF (fun l t => s_fold (fun j => s_val (S w) l j) t (s_cm (S w))) (s_foldF (fun j t => s_fold (fun n => s_col (S w) j (8 + n)) t 5) (s_fold (fun n => S w n) 0 9) (s_cm (S w))) l) S rd tx gv pl) 0 0 80 [some (.ref 275), some (.int (nI l)), none] [] := by
    intro K f9
    induction f9 with
    | zero =>
      intro l e0 
      obtain rfl : l = (s_lm (S w)) := by omega
      refine X_ld rfl rfl rfl rfl ?_
      refine X_ld rfl rfl rfl rfl ?_
      refine X_push (v := .int 1) rfl (by decide +kernel) ?_
      refine X_mcall l_X11_X11_get (c_get hG (d + 4) w (updI_I3 hw) hw9 1 (by omega) (show (1 : Int32) = nI 1 from rfl)) rfl rfl rfl rfl (Nat.le_of_ble_eq_true rfl) (Nat.le_of_ble_eq_true rfl) (Nat.le_refl _) (Nat.le_of_ble_eq_true rfl) (Nat.le_of_ble_eq_true rfl) ?_
      refine X_icmp_ge rfl (fun c86 => ?_) (fun c86 => absurd ((n_le hwf.lmE.1 rfl (by omega) (by omega)).mpr (by omega)) c86)
      exact K
    | succ f9 ih =>
      intro l e0 
      refine X_ld rfl rfl rfl rfl ?_
      refine X_ld rfl rfl rfl rfl ?_
      refine X_push (v := .int 1) rfl (by decide +kernel) ?_
      refine X_mcall l_X11_X11_get (c_get hG (d + 4) w (updI_I3 hw) hw9 1 (by omega) (show (1 : Int32) = nI 1 from rfl)) rfl rfl rfl rfl (Nat.le_of_ble_eq_true rfl) (Nat.le_of_ble_eq_true rfl) (Nat.le_refl _) (Nat.le_of_ble_eq_true rfl) (Nat.le_of_ble_eq_true rfl) ?_
      refine X_icmp_ge rfl (fun c86 => absurd ((n_le hwf.lmE.1 rfl (by omega) (by omega)).mp c86) (by omega)) (fun c86 => ?_)
      refine X_push (v := .int 0) rfl (by decide +kernel) ?_
      refine X_st rfl rfl rfl ?_
      refine X_heap (N' := mset B (upd I 0 0) (s_fold (fun j => s_val (S w) l j) (s_foldF (fun l t => s_fold (fun j => s_val (S w) l j) t (s_cm (S w))) (s_foldF (fun j t => s_fold (fun n => s_col (S w) j (8 + n)) t 5) (s_fold (fun n => S w n) 0 9) (s_cm (S w))) l) 0) S rd tx gv pl) rfl ?_
      refine X_loc (L' := [some (.ref 275), some (.int (nI l)), some (.int (nI 0))]) ⟨rfl, rfl, rfl, trivial⟩ ?_
      refine in3 l (by omega) ?_ _ 0 (Nat.zero_add _)
      refine X_iinc rfl rfl rfl ?_
      refine X_goto rfl ?_
      refine X_heap (N' := mset B (upd I 0 0) (s_foldF (fun l t => s_fold (fun j => s_val (S w) l j) t (s_cm (S w))) (s_foldF (fun j t => s_fold (fun n => s_col (S w) j (8 + n)) t 5) (s_fold (fun n => S w n) 0 9) (s_cm (S w))) (l + 1)) S rd tx gv pl) rfl ?_
      refine X_loc (L' := [some (.ref 275), some (.int (nI (l + 1))), none]) ⟨rfl, congrArg Value.int (m_inc rfl).symm, trivial⟩ ?_
      exact ih (l + 1) (by omega)
  have in2 : ∀ (j : Nat) (_ : j < (s_cm (S w))), x_W G mX11_checksum (x_Z G (d + 5) 0 0 ad0 nb0 (x_Ret (mset B (upd I 0 0) (s_sum (S w)) S rd tx gv pl) (.long (s_sum (S w)))) x_noX) (mset B (upd I 0 0) (s_fold (fun n => s_col (S w) j (8 + n)) (s_foldF (fun j t => s_fold (fun n => s_col (S w) j (8 + n)) t 5) (s_fold (fun n => S w n) 0 9) j) 5) S rd tx gv pl) 0 0 72 [some (.ref 275), some (.int (nI j)), some (.int (nI 5))] [] → ∀ (f9 q : Nat), q + f9 = 5 → x_W G mX11_checksum (x_Z G (d + 5) 0 0 ad0 nb0 (x_Ret (mset B (upd I 0 0) (s_sum (S w)) S rd tx gv pl) (.long (s_sum (S w)))) x_noX) (mset B (upd I 0 0) (s_fold (fun n => s_col (S w) j (8 + n)) (s_foldF (fun j t => s_fold (fun n => s_col (S w) j (8 + n)) t 5) (s_fold (fun n => S w n) 0 9) j) q) S rd tx gv pl) 0 0 47 [some (.ref 275), some (.int (nI j)), some (.int (nI q))] [] := by
    intro j hj K f9
    induction f9 with
    | zero =>
      intro q e0 
      obtain rfl : q = 5 := by omega
      refine X_ld rfl rfl rfl rfl ?_
      refine X_push (v := .int 5) rfl (by decide +kernel) ?_
      refine X_icmp_ge rfl (fun c49 => ?_) (fun c49 => absurd ((n_le (a := 5) (show (5 : Int32) = nI 5 from rfl) rfl (by omega) (by omega)).mpr (by omega)) c49)
      exact K
    | succ f9 ih =>
      intro q e0 
      refine X_ld rfl rfl rfl rfl ?_
      refine X_push (v := .int 5) rfl (by decide +kernel) ?_
      refine X_icmp_ge rfl (fun c49 => absurd ((n_le (a := 5) (show (5 : Int32) = nI 5 from rfl) rfl (by omega) (by omega)).mp c49) (by omega)) (fun c49 => ?_)
      refine X_ld rfl rfl rfl rfl ?_
      refine X_ld rfl rfl rfl rfl ?_
      refine X_ld rfl rfl rfl rfl ?_
      refine X_push (v := .int 8) rfl (by decide +kernel) ?_
      refine X_ld rfl rfl rfl rfl ?_
      refine X_bin rfl rfl ?_
      refine X_mcall l_X11_X11_ofColumn (c_ofColumn hG (d + 3) w (updI_I3 hw) hw9 j (8 + q) (by omega) rfl (m_add (show (8 : Int32) = nI 8 from rfl) rfl)) rfl rfl rfl rfl (Nat.le_of_ble_eq_true rfl) (Nat.le_of_ble_eq_true rfl) (Nat.le_refl _) (Nat.le_of_ble_eq_true rfl) (Nat.le_of_ble_eq_true rfl) ?_
      refine X_un rfl rfl ?_
      refine X_mcallv l_X11_X11_adds (c_adds hG (d + 4) (x := s_col (S w) j (8 + q)) rfl) rfl rfl rfl rfl (Nat.le_of_ble_eq_true rfl) (Nat.le_of_ble_eq_true rfl) (Nat.le_refl _) (Nat.le_of_ble_eq_true rfl) (Nat.le_of_ble_eq_true rfl) ?_
      refine X_iinc rfl rfl rfl ?_
      refine X_goto rfl ?_
      refine X_heap (N' := mset B (upd I 0 0) (s_fold (fun n => s_col (S w) j (8 + n)) (s_foldF (fun j t => s_fold (fun n => s_col (S w) j (8 + n)) t 5) (s_fold (fun n => S w n) 0 9) j) (q + 1)) S rd tx gv pl) rfl ?_
      refine X_loc (L' := [some (.ref 275), some (.int (nI j)), some (.int (nI (q + 1)))]) ⟨rfl, rfl, congrArg Value.int (m_inc rfl).symm, trivial⟩ ?_
      exact ih (q + 1) (by omega)
  have loop2 : x_W G mX11_checksum (x_Z G (d + 5) 0 0 ad0 nb0 (x_Ret (mset B (upd I 0 0) (s_sum (S w)) S rd tx gv pl) (.long (s_sum (S w)))) x_noX) (mset B (upd I 0 0) (s_foldF (fun j t => s_fold (fun n => s_col (S w) j (8 + n)) t 5) (s_fold (fun n => S w n) 0 9) (s_cm (S w))) S rd tx gv pl) 0 0 78 [some (.ref 275), some (.int (nI (s_cm (S w)))), none] [] → ∀ (f9 j : Nat), j + f9 = (s_cm (S w)) → x_W G mX11_checksum (x_Z G (d + 5) 0 0 ad0 nb0 (x_Ret (mset B (upd I 0 0) (s_sum (S w)) S rd tx gv pl) (.long (s_sum (S w)))) x_noX) (mset B (upd I 0 0) (s_foldF (fun j t => s_fold (fun n => s_col (S w) j (8 + n)) t 5) (s_fold (fun n => S w n) 0 9) j) S rd tx gv pl) 0 0 36 [some (.ref 275), some (.int (nI j)), none] [] := by
    intro K f9
    induction f9 with
    | zero =>
      intro j e0 
      obtain rfl : j = (s_cm (S w)) := by omega
      refine X_ld rfl rfl rfl rfl ?_
      refine X_ld rfl rfl rfl rfl ?_
      refine X_push (v := .int 0) rfl (by decide +kernel) ?_
      refine X_mcall l_X11_X11_get (c_get hG (d + 4) w (updI_I3 hw) hw9 0 (by omega) (show (0 : Int32) = nI 0 from rfl)) rfl rfl rfl rfl (Nat.le_of_ble_eq_true rfl) (Nat.le_of_ble_eq_true rfl) (Nat.le_refl _) (Nat.le_of_ble_eq_true rfl) (Nat.le_of_ble_eq_true rfl) ?_
      refine X_icmp_ge rfl (fun c42 => ?_) (fun c42 => absurd ((n_le hwf.cmE.1 rfl (by omega) (by omega)).mpr (by omega)) c42)
      exact K
    | succ f9 ih =>
      intro j e0 
      refine X_ld rfl rfl rfl rfl ?_
      refine X_ld rfl rfl rfl rfl ?_
      refine X_push (v := .int 0) rfl (by decide +kernel) ?_
      refine X_mcall l_X11_X11_get (c_get hG (d + 4) w (updI_I3 hw) hw9 0 (by omega) (show (0 : Int32) = nI 0 from rfl)) rfl rfl rfl rfl (Nat.le_of_ble_eq_true rfl) (Nat.le_of_ble_eq_true rfl) (Nat.le_refl _) (Nat.le_of_ble_eq_true rfl) (Nat.le_of_ble_eq_true rfl) ?_
      refine X_icmp_ge rfl (fun c42 => absurd ((n_le hwf.cmE.1 rfl (by omega) (by omega)).mp c42) (by omega)) (fun c42 => ?_)
      refine X_push (v := .int 0) rfl (by decide +kernel) ?_
      refine X_st rfl rfl rfl ?_
      refine X_heap (N' := mset B (upd I 0 0) (s_fold (fun n => s_col (S w) j (8 + n)) (s_foldF (fun j t => s_fold (fun n => s_col (S w) j (8 + n)) t 5) (s_fold (fun n => S w n) 0 9) j) 0) S rd tx gv pl) rfl ?_
      refine X_loc (L' := [some (.ref 275), some (.int (nI j)), some (.int (nI 0))]) ⟨rfl, rfl, rfl, trivial⟩ ?_
      refine in2 j (by omega) ?_ _ 0 (Nat.zero_add _)
      refine X_iinc rfl rfl rfl ?_
      refine X_goto rfl ?_
      refine X_heap (N' := mset B (upd I 0 0) (s_foldF (fun j t => s_fold (fun n => s_col (S w) j (8 + n)) t 5) (s_fold (fun n => S w n) 0 9) (j + 1)) S rd tx gv pl) rfl ?_
      refine X_loc (L' := [some (.ref 275), some (.int (nI (j + 1))), none]) ⟨rfl, congrArg Value.int (m_inc rfl).symm, trivial⟩ ?_
      exact ih (j + 1) (by omega)
  have loop1 : x_W G mX11_checksum (x_Z G (d + 5) 0 0 ad0 nb0 (x_Ret (mset B (upd I 0 0) (s_sum (S w)) S rd tx gv pl) (.long (s_sum (S w)))) x_noX) (mset B (upd I 0 0) (s_fold (fun n => S w n) 0 9) S rd tx gv pl) 0 0 34 [some (.ref 275), some (.int (nI 9)), none] [] → ∀ (f9 k : Nat), k + f9 = 9 → x_W G mX11_checksum (x_Z G (d + 5) 0 0 ad0 nb0 (x_Ret (mset B (upd I 0 0) (s_sum (S w)) S rd tx gv pl) (.long (s_sum (S w)))) x_noX) (mset B (upd I 0 0) (s_fold (fun n => S w n) 0 k) S rd tx gv pl) 0 0 12 [some (.ref 275), some (.int (nI k)), none] [] := by
    intro K f9
    induction f9 with
    | zero =>
      intro k e0 
      obtain rfl : k = 9 := by omega
      refine X_ld rfl rfl rfl rfl ?_
      refine X_push (v := .int 9) rfl (by decide +kernel) ?_
      refine X_icmp_ge rfl (fun c15 => ?_) (fun c15 => absurd ((n_le (a := 9) (show (9 : Int32) = nI 9 from rfl) rfl (by omega) (by omega)).mpr (by omega)) c15)
      exact K
    | succ f9 ih =>
      intro k e0 
      refine X_ld rfl rfl rfl rfl ?_
      refine X_push (v := .int 9) rfl (by decide +kernel) ?_
      refine X_icmp_ge rfl (fun c15 => absurd ((n_le (a := 9) (show (9 : Int32) = nI 9 from rfl) rfl (by omega) (by omega)).mp c15) (by omega)) (fun c15 => ?_)
      refine X_ld rfl rfl rfl rfl ?_
      refine X_ld rfl rfl rfl rfl ?_
      refine X_ld rfl rfl rfl rfl ?_
      refine X_mcall l_X11_X11_get (c_get hG (d + 4) w (updI_I3 hw) hw9 k (by omega) rfl) rfl rfl rfl rfl (Nat.le_of_ble_eq_true rfl) (Nat.le_of_ble_eq_true rfl) (Nat.le_refl _) (Nat.le_of_ble_eq_true rfl) (Nat.le_of_ble_eq_true rfl) ?_
      refine X_un rfl rfl ?_
      refine X_mcallv l_X11_X11_adds (c_adds hG (d + 4) (x := S w k) rfl) rfl rfl rfl rfl (Nat.le_of_ble_eq_true rfl) (Nat.le_of_ble_eq_true rfl) (Nat.le_refl _) (Nat.le_of_ble_eq_true rfl) (Nat.le_of_ble_eq_true rfl) ?_
      refine X_iinc rfl rfl rfl ?_
      refine X_goto rfl ?_
      refine X_heap (N' := mset B (upd I 0 0) (s_fold (fun n => S w n) 0 (k + 1)) S rd tx gv pl) rfl ?_
      refine X_loc (L' := [some (.ref 275), some (.int (nI (k + 1))), none]) ⟨rfl, congrArg Value.int (m_inc rfl).symm, trivial⟩ ?_
      exact ih (k + 1) (by omega)
  refine X_ld rfl rfl rfl rfl ?_
  refine X_push (v := .int 0) rfl (by decide +kernel) ?_
  refine X_mput f_X11_37 rfl rfl ?_
  refine X_ld rfl rfl rfl rfl ?_
  refine X_push (v := .long 0) rfl (by decide +kernel) ?_
  refine X_mputT f_X11_359 rfl ?_
  refine X_push (v := .int 0) rfl (by decide +kernel) ?_
  refine X_st rfl rfl rfl ?_
  refine X_heap (N' := mset B (upd I 0 0) (s_fold (fun n => S w n) 0 0) S rd tx gv pl) rfl ?_
  refine X_loc (L' := [some (.ref 275), some (.int (nI 0)), none]) ⟨rfl, rfl, trivial⟩ ?_
  refine loop1 ?_ _ 0 (Nat.zero_add _)
  refine X_push (v := .int 0) rfl (by decide +kernel) ?_
  refine X_st rfl rfl rfl ?_
  refine X_heap (N' := mset B (upd I 0 0) (s_foldF (fun j t => s_fold (fun n => s_col (S w) j (8 + n)) t 5) (s_fold (fun n => S w n) 0 9) 0) S rd tx gv pl) rfl ?_
  refine X_loc (L' := [some (.ref 275), some (.int (nI 0)), none]) ⟨rfl, rfl, trivial⟩ ?_
  refine loop2 ?_ _ 0 (Nat.zero_add _)
  refine X_push (v := .int 0) rfl (by decide +kernel) ?_
  refine X_st rfl rfl rfl ?_
  refine X_heap (N' := mset B (upd I 0 0) (s_foldF (fun l t => s_fold (fun j => s_val (S w) l j) t (s_cm (S w))) (s_foldF (fun j t => s_fold (fun n => s_col (S w) j (8 + n)) t 5) (s_fold (fun n => S w n) 0 9) (s_cm (S w))) 0) S rd tx gv pl) rfl ?_
  refine X_loc (L' := [some (.ref 275), some (.int (nI 0)), none]) ⟨rfl, rfl, trivial⟩ ?_
  refine loop3 ?_ _ 0 (Nat.zero_add _)
  refine X_push (v := .int 0) rfl (by decide +kernel) ?_
  refine X_st rfl rfl rfl ?_
  refine X_heap (N' := mset B (upd I 0 0) (s_foldF (fun s t => s_sumS (S w) s t) (s_foldF (fun l t => s_fold (fun j => s_val (S w) l j) t (s_cm (S w))) (s_foldF (fun j t => s_fold (fun n => s_col (S w) j (8 + n)) t 5) (s_fold (fun n => S w n) 0 9) (s_cm (S w))) (s_lm (S w))) 0) S rd tx gv pl) rfl ?_
  refine X_loc (L' := [some (.ref 275), some (.int (nI 0)), none]) ⟨rfl, rfl, trivial⟩ ?_
  refine loop4 ?_ _ 0 (Nat.zero_add _)
  refine X_ld rfl rfl rfl rfl ?_
  refine X_get f_X11_359 rfl rfl rfl ?_
  exact X_lret rfl rfl ⟨rfl, rfl⟩ (Nat.le_of_ble_eq_true rfl) (Nat.le_of_ble_eq_true rfl)
theorem c_errorOffset {G : XE} (hG : x_Kn G) {B : XH} {I : Nat → Int32} {T : Int64} {S : Nat → Nat → Int32} {rd tx gv pl : Nat → Int32} (d : Nat)  : x_M G mX11_errorOffset d 0 0 [.ref 275] (mset B I T S rd tx gv pl) (x_Ret (mset B (upd I 0 0) T S rd tx gv pl) (.int (I 7))) x_noX := by
  refine X_M hG okX11_errorOffset rfl (L := [some (.ref 275)]) rfl (Nat.le_of_ble_eq_true rfl) (fun ad0 nb0 => ?_)
  refine X_ld rfl rfl rfl rfl ?_
  refine X_push (v := .int 0) rfl (by decide +kernel) ?_
  refine X_mput f_X11_37 rfl rfl ?_
  refine X_ld rfl rfl rfl rfl ?_
  refine X_get f_X11_19 rfl rfl rfl ?_
  exact X_iret rfl rfl ⟨rfl, congrArg (fun q => some (Value.int q)) (updI_ne (by decide))⟩ (Nat.le_of_ble_eq_true rfl) (Nat.le_of_ble_eq_true rfl)
theorem c_thrown {G : XE} (hG : x_Kn G) {B : XH} {I : Nat → Int32} {T : Int64} {S : Nat → Nat → Int32} {rd tx gv pl : Nat → Int32} (d : Nat)  : x_M G mX11_thrown d 0 0 [.ref 275] (mset B I T S rd tx gv pl) (x_Ret (mset B I T S rd tx gv pl) (.int (I 0))) x_noX := by
  refine X_M hG okX11_thrown rfl (L := [some (.ref 275)]) rfl (Nat.le_of_ble_eq_true rfl) (fun ad0 nb0 => ?_)
  refine X_ld rfl rfl rfl rfl ?_
  refine X_get f_X11_37 rfl rfl rfl ?_
  exact X_iret rfl rfl ⟨rfl, rfl⟩ (Nat.le_of_ble_eq_true rfl) (Nat.le_of_ble_eq_true rfl)
def s_wrd (v0 v1 v2 v3 v4 : Int32) (k : Nat) : Int32 := if k < 4 then v0 else if k < 8 then v1 else if k < 12 then v2 else if k < 16 then v3 else v4
/-- a byte of a word -/
def s_byt (v : Int32) (k : Nat) : Int32 := v >>> ((24 - 8 * (nI k - nI k / 4 * 4)) &&& 31) &&& 255
def s_apx (tx : Nat → Int32) (b : Nat) (v0 v1 v2 v3 v4 : Int32) : Nat → Nat → Int32
  | 0 => tx
  | k + 1 => upd (s_apx tx b v0 v1 v2 v3 v4 k) (b + k) (s_byt (s_wrd v0 v1 v2 v3 v4 k) k)
def s_apI (I : Nat → Int32) (b : Nat) : Nat → Int32 := if b + 20 ≤ 800 then upd (upd I 0 0) 6 (nI (b + 20)) else upd I 0 0
theorem c_append {G : XE} (hG : x_Kn G) {B : XH} {I : Nat → Int32} {T : Int64} {S : Nat → Nat → Int32} {rd tx gv pl : Nat → Int32} (d : Nat)  (b : Nat) (hb : I 6 = nI b) (hb8 : b ≤ 800) {v0 v1 v2 v3 v4 : Int32} : x_M G mX11_append d 0 0 [.ref 275, .int v0, .int v1, .int v2, .int v3, .int v4] (mset B I T S rd tx gv pl) (x_Ret (mset B (s_apI I b) T S rd (if b + 20 ≤ 800 then s_apx tx b v0 v1 v2 v3 v4 20 else tx) gv pl) (.int (if b + 20 ≤ 800 then nI (b + 20) else -1))) x_noX := by
  refine X_M hG okX11_append rfl (L := [some (.ref 275), some (.int v0), some (.int v1), some (.int v2), some (.int v3), some (.int v4), none, none]) rfl (Nat.le_of_ble_eq_true rfl) (fun ad0 nb0 => ?_)
  refine X_ld rfl rfl rfl rfl ?_
  refine X_push (v := .int 0) rfl (by decide +kernel) ?_
  refine X_mput f_X11_37 rfl rfl ?_
  refine X_ld rfl rfl rfl rfl ?_
  refine X_get f_X11_60 rfl rfl rfl ?_
  refine X_push (v := .int 20) rfl (by decide +kernel) ?_
  refine X_bin rfl rfl ?_
  refine X_push (v := .int 800) rfl (by decide +kernel) ?_
  refine X_icmp_le rfl (fun c15 => ?_) (fun c15 => ?_)
  · have n15 := (n_le (b := 800) (m_add ((updI_ne (by decide)).trans hb) (show (20 : Int32) = nI 20 from rfl)) (show (800 : Int32) = nI 800 from rfl) (by omega) (by omega)).mp c15
    refine X_push (v := .int 0) rfl (by decide +kernel) ?_
    refine X_st rfl rfl rfl ?_
    have loop : x_W G mX11_append (x_Z G d 0 0 ad0 nb0 (x_Ret (mset B (s_apI I b) T S rd (if b + 20 ≤ 800 then s_apx tx b v0 v1 v2 v3 v4 20 else tx) gv pl) (.int (if b + 20 ≤ 800 then nI (b + 20) else -1))) x_noX) (mset B (upd I 0 0) T S rd (s_apx tx b v0 v1 v2 v3 v4 20) gv pl) 0 0 113 [some (.ref 275), some (.int v0), some (.int v1), some (.int v2), some (.int v3), some (.int v4), some (.int (nI 20)), none] [] → ∀ (f9 k : Nat), k + f9 = 20 → x_W G mX11_append (x_Z G d 0 0 ad0 nb0 (x_Ret (mset B (s_apI I b) T S rd (if b + 20 ≤ 800 then s_apx tx b v0 v1 v2 v3 v4 20 else tx) gv pl) (.int (if b + 20 ≤ 800 then nI (b + 20) else -1))) x_noX) (mset B (upd I 0 0) T S rd (s_apx tx b v0 v1 v2 v3 v4 k) gv pl) 0 0 23 [some (.ref 275), some (.int v0), some (.int v1), some (.int v2), some (.int v3), some (.int v4), some (.int (nI k)), none] [] := by
      intro K f9
      induction f9 with
      | zero =>
        intro k e0 
        obtain rfl : k = 20 := by omega
        refine X_ld rfl rfl rfl rfl ?_
        refine X_push (v := .int 20) rfl (by decide +kernel) ?_
        refine X_icmp_ge rfl (fun c27 => ?_) (fun c27 => absurd ((n_le (a := 20) (show (20 : Int32) = nI 20 from rfl) rfl (by omega) (by omega)).mpr (by omega)) c27)
        exact K
      | succ f9 ih =>
        intro k e0 
        refine X_ld rfl rfl rfl rfl ?_
        refine X_push (v := .int 20) rfl (by decide +kernel) ?_
        refine X_icmp_ge rfl (fun c27 => absurd ((n_le (a := 20) (show (20 : Int32) = nI 20 from rfl) rfl (by omega) (by omega)).mp c27) (by omega)) (fun c27 => ?_)
        refine X_ld rfl rfl rfl rfl ?_
        refine X_push (v := .int 4) rfl (by decide +kernel) ?_
        refine X_icmp_ge rfl (fun c33 => ?_) (fun c33 => ?_)
        · have n33 := (n_le (a := 4) (show (4 : Int32) = nI 4 from rfl) rfl (by omega) (by omega)).mp c33
          refine X_ld rfl rfl rfl rfl ?_
          refine X_push (v := .int 8) rfl (by decide +kernel) ?_
          refine X_icmp_ge rfl (fun c44 => ?_) (fun c44 => ?_)
          · have n44 := (n_le (a := 8) (show (8 : Int32) = nI 8 from rfl) rfl (by omega) (by omega)).mp c44
            refine X_ld rfl rfl rfl rfl ?_
            refine X_push (v := .int 12) rfl (by decide +kernel) ?_
            refine X_icmp_ge rfl (fun c55 => ?_) (fun c55 => ?_)
            · have n55 := (n_le (a := 12) (show (12 : Int32) = nI 12 from rfl) rfl (by omega) (by omega)).mp c55
              refine X_ld rfl rfl rfl rfl ?_
              refine X_push (v := .int 16) rfl (by decide +kernel) ?_
              refine X_icmp_ge rfl (fun c66 => ?_) (fun c66 => ?_)
              · have n66 := (n_le (a := 16) (show (16 : Int32) = nI 16 from rfl) rfl (by omega) (by omega)).mp c66
                refine X_ld rfl rfl rfl rfl ?_
                refine X_st rfl rfl rfl ?_
                refine X_ld rfl rfl rfl rfl ?_
                refine X_get f_X11_16 rfl rfl rfl ?_
                refine X_ld rfl rfl rfl rfl ?_
                refine X_get f_X11_60 rfl rfl rfl ?_
                refine X_ld rfl rfl rfl rfl ?_
                refine X_bin rfl rfl ?_
                refine X_ld rfl rfl rfl rfl ?_
                refine X_push (v := .int 24) rfl (by decide +kernel) ?_
                refine X_push (v := .int 8) rfl (by decide +kernel) ?_
                refine X_ld rfl rfl rfl rfl ?_
                refine X_push (v := .int 4) rfl (by decide +kernel) ?_
                refine X_irem rfl (by decide) ?_
                refine X_bin rfl rfl ?_
                refine X_bin rfl rfl ?_
                refine X_bin rfl rfl ?_
                refine X_push (v := .int 255) rfl (by decide +kernel) ?_
                refine X_bin rfl rfl ?_
                refine X_mXst (b + k) (m_add ((updI_ne (by decide)).trans hb) rfl) (by omega) rfl ?_
                refine X_iinc rfl rfl rfl ?_
                refine X_goto rfl ?_
                refine X_heap (N' := mset B (upd I 0 0) T S rd (s_apx tx b v0 v1 v2 v3 v4 (k + 1)) gv pl) (by rw [show s_apx tx b v0 v1 v2 v3 v4 (k + 1) = upd (s_apx tx b v0 v1 v2 v3 v4 k) (b + k) (s_byt (s_wrd v0 v1 v2 v3 v4 k) k) from rfl, show s_wrd v0 v1 v2 v3 v4 k = _ from by unfold s_wrd; rw [if_neg (Nat.not_lt.mpr n33), if_neg (Nat.not_lt.mpr n44), if_neg (Nat.not_lt.mpr n55), if_neg (Nat.not_lt.mpr n66)]]; rfl) ?_
                refine X_loc (L' := [some (.ref 275), some (.int v0), some (.int v1), some (.int v2), some (.int v3), some (.int v4), some (.int (nI (k + 1))), none]) ⟨rfl, rfl, rfl, rfl, rfl, rfl, congrArg Value.int (m_inc rfl).symm, trivial⟩ ?_
                exact ih (k + 1) (by omega)
              · have n66 := mt (n_le (a := 16) (show (16 : Int32) = nI 16 from rfl) rfl (by omega) (by omega)).mpr c66
                refine X_ld rfl rfl rfl rfl ?_
                refine X_goto rfl ?_
                refine X_st rfl rfl rfl ?_
                refine X_ld rfl rfl rfl rfl ?_
                refine X_get f_X11_16 rfl rfl rfl ?_
                refine X_ld rfl rfl rfl rfl ?_
                refine X_get f_X11_60 rfl rfl rfl ?_
                refine X_ld rfl rfl rfl rfl ?_
                refine X_bin rfl rfl ?_
                refine X_ld rfl rfl rfl rfl ?_
                refine X_push (v := .int 24) rfl (by decide +kernel) ?_
                refine X_push (v := .int 8) rfl (by decide +kernel) ?_
                refine X_ld rfl rfl rfl rfl ?_
                refine X_push (v := .int 4) rfl (by decide +kernel) ?_
                refine X_irem rfl (by decide) ?_
                refine X_bin rfl rfl ?_
                refine X_bin rfl rfl ?_
                refine X_bin rfl rfl ?_
                refine X_push (v := .int 255) rfl (by decide +kernel) ?_
                refine X_bin rfl rfl ?_
                refine X_mXst (b + k) (m_add ((updI_ne (by decide)).trans hb) rfl) (by omega) rfl ?_
                refine X_iinc rfl rfl rfl ?_
                refine X_goto rfl ?_
                refine X_heap (N' := mset B (upd I 0 0) T S rd (s_apx tx b v0 v1 v2 v3 v4 (k + 1)) gv pl) (by rw [show s_apx tx b v0 v1 v2 v3 v4 (k + 1) = upd (s_apx tx b v0 v1 v2 v3 v4 k) (b + k) (s_byt (s_wrd v0 v1 v2 v3 v4 k) k) from rfl, show s_wrd v0 v1 v2 v3 v4 k = _ from by unfold s_wrd; rw [if_neg (Nat.not_lt.mpr n33), if_neg (Nat.not_lt.mpr n44), if_neg (Nat.not_lt.mpr n55), if_pos (Nat.not_le.mp n66)]]; rfl) ?_
                refine X_loc (L' := [some (.ref 275), some (.int v0), some (.int v1), some (.int v2), some (.int v3), some (.int v4), some (.int (nI (k + 1))), none]) ⟨rfl, rfl, rfl, rfl, rfl, rfl, congrArg Value.int (m_inc rfl).symm, trivial⟩ ?_
                exact ih (k + 1) (by omega)
            · have n55 := mt (n_le (a := 12) (show (12 : Int32) = nI 12 from rfl) rfl (by omega) (by omega)).mpr c55
              refine X_ld rfl rfl rfl rfl ?_
              refine X_goto rfl ?_
              refine X_st rfl rfl rfl ?_
              refine X_ld rfl rfl rfl rfl ?_
              refine X_get f_X11_16 rfl rfl rfl ?_
              refine X_ld rfl rfl rfl rfl ?_
              refine X_get f_X11_60 rfl rfl rfl ?_
              refine X_ld rfl rfl rfl rfl ?_
              refine X_bin rfl rfl ?_
              refine X_ld rfl rfl rfl rfl ?_
              refine X_push (v := .int 24) rfl (by decide +kernel) ?_
              refine X_push (v := .int 8) rfl (by decide +kernel) ?_
              refine X_ld rfl rfl rfl rfl ?_
              refine X_push (v := .int 4) rfl (by decide +kernel) ?_
              refine X_irem rfl (by decide) ?_
              refine X_bin rfl rfl ?_
              refine X_bin rfl rfl ?_
              refine X_bin rfl rfl ?_
              refine X_push (v := .int 255) rfl (by decide +kernel) ?_
              refine X_bin rfl rfl ?_
              refine X_mXst (b + k) (m_add ((updI_ne (by decide)).trans hb) rfl) (by omega) rfl ?_
              refine X_iinc rfl rfl rfl ?_
              refine X_goto rfl ?_
              refine X_heap (N' := mset B (upd I 0 0) T S rd (s_apx tx b v0 v1 v2 v3 v4 (k + 1)) gv pl) (by rw [show s_apx tx b v0 v1 v2 v3 v4 (k + 1) = upd (s_apx tx b v0 v1 v2 v3 v4 k) (b + k) (s_byt (s_wrd v0 v1 v2 v3 v4 k) k) from rfl, show s_wrd v0 v1 v2 v3 v4 k = _ from by unfold s_wrd; rw [if_neg (Nat.not_lt.mpr n33), if_neg (Nat.not_lt.mpr n44), if_pos (Nat.not_le.mp n55)]]; rfl) ?_
              refine X_loc (L' := [some (.ref 275), some (.int v0), some (.int v1), some (.int v2), some (.int v3), some (.int v4), some (.int (nI (k + 1))), none]) ⟨rfl, rfl, rfl, rfl, rfl, rfl, congrArg Value.int (m_inc rfl).symm, trivial⟩ ?_
              exact ih (k + 1) (by omega)
          · have n44 := mt (n_le (a := 8) (show (8 : Int32) = nI 8 from rfl) rfl (by omega) (by omega)).mpr c44
            refine X_ld rfl rfl rfl rfl ?_
            refine X_goto rfl ?_
            refine X_st rfl rfl rfl ?_
            refine X_ld rfl rfl rfl rfl ?_
            refine X_get f_X11_16 rfl rfl rfl ?_
            refine X_ld rfl rfl rfl rfl ?_
            refine X_get f_X11_60 rfl rfl rfl ?_
            refine X_ld rfl rfl rfl rfl ?_
            refine X_bin rfl rfl ?_
            refine X_ld rfl rfl rfl rfl ?_
            refine X_push (v := .int 24) rfl (by decide +kernel) ?_
            refine X_push (v := .int 8) rfl (by decide +kernel) ?_
            refine X_ld rfl rfl rfl rfl ?_
            refine X_push (v := .int 4) rfl (by decide +kernel) ?_
            refine X_irem rfl (by decide) ?_
            refine X_bin rfl rfl ?_
            refine X_bin rfl rfl ?_
            refine X_bin rfl rfl ?_
            refine X_push (v := .int 255) rfl (by decide +kernel) ?_
            refine X_bin rfl rfl ?_
            refine X_mXst (b + k) (m_add ((updI_ne (by decide)).trans hb) rfl) (by omega) rfl ?_
            refine X_iinc rfl rfl rfl ?_
            refine X_goto rfl ?_
            refine X_heap (N' := mset B (upd I 0 0) T S rd (s_apx tx b v0 v1 v2 v3 v4 (k + 1)) gv pl) (by rw [show s_apx tx b v0 v1 v2 v3 v4 (k + 1) = upd (s_apx tx b v0 v1 v2 v3 v4 k) (b + k) (s_byt (s_wrd v0 v1 v2 v3 v4 k) k) from rfl, show s_wrd v0 v1 v2 v3 v4 k = _ from by unfold s_wrd; rw [if_neg (Nat.not_lt.mpr n33), if_pos (Nat.not_le.mp n44)]]; rfl) ?_
            refine X_loc (L' := [some (.ref 275), some (.int v0), some (.int v1), some (.int v2), some (.int v3), some (.int v4), some (.int (nI (k + 1))), none]) ⟨rfl, rfl, rfl, rfl, rfl, rfl, congrArg Value.int (m_inc rfl).symm, trivial⟩ ?_
            exact ih (k + 1) (by omega)
        · have n33 := mt (n_le (a := 4) (show (4 : Int32) = nI 4 from rfl) rfl (by omega) (by omega)).mpr c33
          refine X_ld rfl rfl rfl rfl ?_
          refine X_goto rfl ?_
          refine X_st rfl rfl rfl ?_
          refine X_ld rfl rfl rfl rfl ?_
          refine X_get f_X11_16 rfl rfl rfl ?_
          refine X_ld rfl rfl rfl rfl ?_
          refine X_get f_X11_60 rfl rfl rfl ?_
          refine X_ld rfl rfl rfl rfl ?_
          refine X_bin rfl rfl ?_
          refine X_ld rfl rfl rfl rfl ?_
          refine X_push (v := .int 24) rfl (by decide +kernel) ?_
          refine X_push (v := .int 8) rfl (by decide +kernel) ?_
          refine X_ld rfl rfl rfl rfl ?_
          refine X_push (v := .int 4) rfl (by decide +kernel) ?_
          refine X_irem rfl (by decide) ?_
          refine X_bin rfl rfl ?_
          refine X_bin rfl rfl ?_
          refine X_bin rfl rfl ?_
          refine X_push (v := .int 255) rfl (by decide +kernel) ?_
          refine X_bin rfl rfl ?_
          refine X_mXst (b + k) (m_add ((updI_ne (by decide)).trans hb) rfl) (by omega) rfl ?_
          refine X_iinc rfl rfl rfl ?_
          refine X_goto rfl ?_
          refine X_heap (N' := mset B (upd I 0 0) T S rd (s_apx tx b v0 v1 v2 v3 v4 (k + 1)) gv pl) (by rw [show s_apx tx b v0 v1 v2 v3 v4 (k + 1) = upd (s_apx tx b v0 v1 v2 v3 v4 k) (b + k) (s_byt (s_wrd v0 v1 v2 v3 v4 k) k) from rfl, show s_wrd v0 v1 v2 v3 v4 k = _ from by unfold s_wrd; rw [if_pos (Nat.not_le.mp n33)]]; rfl) ?_
          refine X_loc (L' := [some (.ref 275), some (.int v0), some (.int v1), some (.int v2), some (.int v3), some (.int v4), some (.int (nI (k + 1))), none]) ⟨rfl, rfl, rfl, rfl, rfl, rfl, congrArg Value.int (m_inc rfl).symm, trivial⟩ ?_
          exact ih (k + 1) (by omega)
    refine X_heap (N' := mset B (upd I 0 0) T S rd (s_apx tx b v0 v1 v2 v3 v4 0) gv pl) rfl ?_
    refine X_loc (L' := [some (.ref 275), some (.int v0), some (.int v1), some (.int v2), some (.int v3), some (.int v4), some (.int (nI 0)), none]) ⟨rfl, rfl, rfl, rfl, rfl, rfl, rfl, trivial⟩ ?_
    refine loop ?_ _ 0 (Nat.zero_add _)
    refine X_ld rfl rfl rfl rfl ?_
    refine X_dup rfl rfl ?_
    refine X_get f_X11_60 rfl rfl rfl ?_
    refine X_push (v := .int 20) rfl (by decide +kernel) ?_
    refine X_bin rfl rfl ?_
    refine X_mput f_X11_60 rfl rfl ?_
    refine X_ld rfl rfl rfl rfl ?_
    refine X_get f_X11_60 rfl rfl rfl ?_
    exact X_iret rfl rfl ⟨by unfold s_apI; rw [if_pos n15, if_pos n15, (show upd I 0 0 6 + 20 = nI (b + 20) from m_add (b := 20) ((updI_ne (by decide)).trans hb) rfl)], by rw [if_pos n15]; exact congrArg (fun q => some (Value.int q)) (updI_eq.trans (m_add (b := 20) ((updI_ne (by decide)).trans hb) rfl))⟩ (Nat.le_of_ble_eq_true rfl) (Nat.le_of_ble_eq_true rfl)
  · have n15 := mt (n_le (b := 800) (m_add ((updI_ne (by decide)).trans hb) (show (20 : Int32) = nI 20 from rfl)) (show (800 : Int32) = nI 800 from rfl) (by omega) (by omega)).mpr c15
    refine X_push (v := .int (-1)) rfl (by decide +kernel) ?_
    exact X_iret rfl rfl ⟨by unfold s_apI; rw [if_neg n15, if_neg n15], by rw [if_neg n15]⟩ (Nat.le_of_ble_eq_true rfl) (Nat.le_of_ble_eq_true rfl)
/-- is it a letter -/
abbrev s_let (x : Int32) : Prop := (97 : Int32) ≤ x ∧ x ≤ 122
/-- the first of the first m things; -1 -/
def s_first (P : Nat → Bool) : Nat → Int32
  | 0 => -1
  | m + 1 => if s_first P m = -1 then (bif P m then nI m else -1) else s_first P m
theorem s_first_no {P : Nat → Bool} : ∀ m, (∀ j, j < m → P j = false) → s_first P m = -1
  | 0, _ => rfl
  | m + 1, h => by
    show (if s_first P m = -1 then (bif P m then nI m else -1) else s_first P m) = -1
    rw [if_pos (s_first_no m (fun j hj => h j (by omega))), h m (by omega)]
    rfl
theorem s_first_yes {P : Nat → Bool} {s : Nat} (hs : s < 2147483648) (hP : P s = true) (h : ∀ j, j < s → P j = false) : ∀ m, s < m → s_first P m = nI s
  | 0, h0 => absurd h0 (Nat.not_lt_zero _)
  | m + 1, h0 => by
    show (if s_first P m = -1 then (bif P m then nI m else -1) else s_first P m) = nI s
    by_cases e : s = m
    · subst e
      rw [if_pos (s_first_no s h), hP]
      rfl
    · have e1 := s_first_yes hs hP h m (by omega)
      rw [e1, if_neg (nI_ne_m1 hs)]
theorem s_first_ok {P : Nat → Bool} : ∀ m, m < 2147483648 → (s_first P m = -1 ∧ ∀ j, j < m → P j = false) ∨ ∃ s, s < m ∧ s_first P m = nI s ∧ P s = true ∧ ∀ j, j < s → P j = false
  | 0, _ => Or.inl ⟨rfl, fun j hj => absurd hj (Nat.not_lt_zero _)⟩
  | m + 1, hb => by
    show ((if s_first P m = -1 then (bif P m then nI m else -1) else s_first P m) = -1 ∧ _) ∨ ∃ s, s < m + 1 ∧ (if s_first P m = -1 then (bif P m then nI m else -1) else s_first P m) = nI s ∧ _
    rcases s_first_ok (P := P) m (by omega) with ⟨h1, h2⟩ | ⟨s, h1, h2, h3, h4⟩
    · rw [if_pos h1]
      cases hm : P m with
      | false =>
        refine Or.inl ⟨rfl, fun j hj => ?_⟩
        by_cases e : j = m
        · rw [e]; exact hm
        · exact h2 j (by omega)
      | true => exact Or.inr ⟨m, by omega, rfl, hm, h2⟩
    · rw [h2, if_neg (nI_ne_m1 (by omega))]
      exact Or.inr ⟨s, by omega, rfl, h3, h4⟩
theorem c_isLetterOf {G : XE} (hG : x_Kn G) {N : XH} (d : Nat) {x : Int32} : x_M G mX11_isLetterOf d 0 0 [.int x] (N) (x_Ret N (.int (bI (s_let x)))) x_noX := by
  refine X_M hG okX11_isLetterOf rfl (L := [some (.int x)]) rfl (Nat.le_of_ble_eq_true rfl) (fun ad0 nb0 => ?_)
  refine X_ld rfl rfl rfl rfl ?_
  refine X_push (v := .int 97) rfl (by decide +kernel) ?_
  refine X_icmp_lt rfl (fun c3 => ?_) (fun c3 => ?_)
  · refine X_push (v := .int 0) rfl (by decide +kernel) ?_
    exact X_zret rfl rfl rfl ⟨rfl, by rw [bI_f (fun q => absurd c3 (Int32.not_lt.mpr q.1))]⟩ (Nat.le_of_ble_eq_true rfl) (Nat.le_of_ble_eq_true rfl)
  · refine X_ld rfl rfl rfl rfl ?_
    refine X_push (v := .int 122) rfl (by decide +kernel) ?_
    refine X_icmp_gt rfl (fun c9 => ?_) (fun c9 => ?_)
    · refine X_push (v := .int 0) rfl (by decide +kernel) ?_
      exact X_zret rfl rfl rfl ⟨rfl, by rw [bI_f (fun q => absurd c9 (Int32.not_lt.mpr q.2))]⟩ (Nat.le_of_ble_eq_true rfl) (Nat.le_of_ble_eq_true rfl)
    · refine X_push (v := .int 1) rfl (by decide +kernel) ?_
      refine X_goto rfl ?_
      exact X_zret rfl rfl rfl ⟨rfl, by rw [bI_t ⟨Int32.not_lt.mp c3, Int32.not_lt.mp c9⟩]⟩ (Nat.le_of_ble_eq_true rfl) (Nat.le_of_ble_eq_true rfl)
/-- the letter at k of a name of L letters -/
def s_ltr (tx : Nat → Int32) (a L k : Nat) : Int32 := if a + k < L then tx (a + k) else 0
/-- do the first k cells at c agree with the word from a to L -/
def s_eqn (c tx : Nat → Int32) (at_ a L : Nat) : Nat → Bool
  | 0 => true
  | k + 1 => s_eqn c tx at_ a L k && decide (c (at_ + k) = s_ltr tx a L k)
theorem s_eqn_f {c tx : Nat → Int32} {at_ a L : Nat} : ∀ m k, s_eqn c tx at_ a L k = false → k ≤ m → s_eqn c tx at_ a L m = false
  | 0, k, h, hk => by
    obtain rfl : k = 0 := by omega
    exact h
  | m + 1, k, h, hk => by
    by_cases e : k = m + 1
    · rw [← e]; exact h
    · show (s_eqn c tx at_ a L m && _) = false
      rw [s_eqn_f m k h (by omega)]
      rfl
def s_nmof (c tx : Nat → Int32) (L : Nat) : Int32 := s_first (fun s => s_eqn c tx (275 + 30 * s) 0 L 8) (s_sm c)
theorem m_below {P : Nat → Bool} {s : Nat} (h : ∀ j, j < s → P j = false) (hs : P s = false) : ∀ j, j < s + 1 → P j = false := fun j hj => by
  by_cases e : j = s
  · rw [e]; exact hs
  · exact h j (by omega)
theorem c_nameOf {G : XE} (hG : x_Kn G) {B : XH} {I : Nat → Int32} {T : Int64} {S : Nat → Nat → Int32} {rd tx gv pl : Nat → Int32} (d : Nat) (w : Nat) (hw : I 3 = nI w) (hw9 : w < 9) (hwf : s_wf (S w)) (L : Nat) (hL : L ≤ 8) {x : Int32} (hx : x = nI L) : x_M G mX11_nameOf (d + 2) 0 0 [.ref 275, .int x] (mset B I T S rd tx gv pl) (x_Ret (mset B I T S rd tx gv pl) (.int (s_nmof (S w) tx L))) x_noX := by
  refine X_M hG okX11_nameOf rfl (L := [some (.ref 275), some (.int x), none, none, none]) rfl (Nat.le_of_ble_eq_true rfl) (fun ad0 nb0 => ?_)
  have hcm5 := hwf.cmE.2
  have hlm40 := hwf.lmE.2
  have hsm6 := hwf.smE.2
  have inner : ∀ (s : Nat) (_ : s < s_sm (S w)), x_W G mX11_nameOf (x_Z G (d + 2) 0 0 ad0 nb0 (x_Ret (mset B I T S rd tx gv pl) (.int (s_nmof (S w) tx L))) x_noX) (mset B I T S rd tx gv pl) 0 0 66 [some (.ref 275), some (.int x), some (.int (nI s)), some (.int (b2 (s_eqn (S w) tx (275 + 30 * s) 0 L 8))), none] [] → ∀ (f9 k : Nat), k + f9 = 8 → x_W G mX11_nameOf (x_Z G (d + 2) 0 0 ad0 nb0 (x_Ret (mset B I T S rd tx gv pl) (.int (s_nmof (S w) tx L))) x_noX) (mset B I T S rd tx gv pl) 0 0 16 [some (.ref 275), some (.int x), some (.int (nI s)), some (.int (b2 (s_eqn (S w) tx (275 + 30 * s) 0 L k))), some (.int (nI k))] [] := by
    intro s hs K f9
    induction f9 with
    | zero =>
      intro k e0 
      obtain rfl : k = 8 := by omega
      refine X_ld rfl rfl rfl rfl ?_
      refine X_push (v := .int 8) rfl (by decide +kernel) ?_
      refine X_icmp_ge rfl (fun c20 => ?_) (fun c20 => absurd ((n_le (a := 8) (show (8 : Int32) = nI 8 from rfl) rfl (by omega) (by omega)).mpr (by omega)) c20)
      refine X_loc (L' := [some (.ref 275), some (.int x), some (.int (nI s)), some (.int (b2 (s_eqn (S w) tx (275 + 30 * s) 0 L 8))), none]) ⟨rfl, rfl, rfl, rfl, trivial⟩ ?_
      exact K
    | succ f9 ih =>
      intro k e0 
      refine X_ld rfl rfl rfl rfl ?_
      refine X_push (v := .int 8) rfl (by decide +kernel) ?_
      refine X_icmp_ge rfl (fun c20 => absurd ((n_le (a := 8) (show (8 : Int32) = nI 8 from rfl) rfl (by omega) (by omega)).mp c20) (by omega)) (fun c20 => ?_)
      refine X_ld rfl rfl rfl rfl ?_
      refine X_if_eq rfl (fun c24 => ?_) (fun c24 => ?_)
      · have h24 : (s_eqn (S w) tx (275 + 30 * s) 0 L k) = false := b2_0 c24
        have e : s_eqn (S w) tx (275 + 30 * s) 0 L 8 = false := s_eqn_f 8 k h24 (by omega)
        refine X_loc (L' := [some (.ref 275), some (.int x), some (.int (nI s)), some (.int (b2 (s_eqn (S w) tx (275 + 30 * s) 0 L 8))), none]) ⟨rfl, rfl, rfl, congrArg (fun q => Value.int (b2 q)) (e.trans h24.symm), trivial⟩ ?_
        exact K
      · have h24 : (s_eqn (S w) tx (275 + 30 * s) 0 L k) = true := b2_1 c24
        refine X_ld rfl rfl rfl rfl ?_
        refine X_ld rfl rfl rfl rfl ?_
        refine X_ld rfl rfl rfl rfl ?_
        refine X_mcall l_X11_X11_ofStatement (c_ofStatement hG d w hw hw9 s k (by omega) rfl rfl) rfl rfl rfl rfl (Nat.le_of_ble_eq_true rfl) (Nat.le_of_ble_eq_true rfl) (Nat.le_refl _) (Nat.le_of_ble_eq_true rfl) (Nat.le_of_ble_eq_true rfl) ?_
        refine X_ld rfl rfl rfl rfl ?_
        refine X_ld rfl rfl rfl rfl ?_
        refine X_icmp_ge rfl (fun c37 => ?_) (fun c37 => ?_)
        · have n37 := (n_le hx rfl (by omega) (by omega)).mp c37
          refine X_push (v := .int 0) rfl (by decide +kernel) ?_
          refine X_icmp_ne rfl (fun c51 => ?_) (fun c51 => ?_)
          · refine X_push (v := .int 0) rfl (by decide +kernel) ?_
            refine X_st rfl rfl rfl ?_
            refine X_iinc rfl rfl rfl ?_
            refine X_goto rfl ?_
            have e : s_eqn (S w) tx (275 + 30 * s) 0 L (k + 1) = false := (show (s_eqn (S w) tx (275 + 30 * s) 0 L k && decide (S w (275 + 30 * s + k) = s_ltr tx 0 L k)) = _ from by rw [h24, show s_ltr tx 0 L k = _ from if_neg (Nat.not_lt.mpr (Nat.le_trans n37 (Nat.le_add_left _ _))), decide_eq_false c51]; rfl)
            refine X_loc (L' := [some (.ref 275), some (.int x), some (.int (nI s)), some (.int (b2 (s_eqn (S w) tx (275 + 30 * s) 0 L (k + 1)))), some (.int (nI (k + 1)))]) ⟨rfl, rfl, rfl, congrArg (fun q => Value.int (b2 q)) e, congrArg Value.int (m_inc rfl).symm, trivial⟩ ?_
            exact ih (k + 1) (by omega)
          · refine X_push (v := .int 1) rfl (by decide +kernel) ?_
            refine X_goto rfl ?_
            refine X_st rfl rfl rfl ?_
            refine X_iinc rfl rfl rfl ?_
            refine X_goto rfl ?_
            have e : s_eqn (S w) tx (275 + 30 * s) 0 L (k + 1) = true := (show (s_eqn (S w) tx (275 + 30 * s) 0 L k && decide (S w (275 + 30 * s + k) = s_ltr tx 0 L k)) = _ from by rw [h24, show s_ltr tx 0 L k = _ from if_neg (Nat.not_lt.mpr (Nat.le_trans n37 (Nat.le_add_left _ _))), decide_eq_true c51]; rfl)
            refine X_loc (L' := [some (.ref 275), some (.int x), some (.int (nI s)), some (.int (b2 (s_eqn (S w) tx (275 + 30 * s) 0 L (k + 1)))), some (.int (nI (k + 1)))]) ⟨rfl, rfl, rfl, congrArg (fun q => Value.int (b2 q)) e, congrArg Value.int (m_inc rfl).symm, trivial⟩ ?_
            exact ih (k + 1) (by omega)
        · have n37 := mt (n_le hx rfl (by omega) (by omega)).mpr c37
          refine X_ld rfl rfl rfl rfl ?_
          refine X_get f_X11_16 rfl rfl rfl ?_
          refine X_ld rfl rfl rfl rfl ?_
          refine X_ildn (n := 800) k rfl (by omega) (by omega) rfl rfl ?_
          refine X_goto rfl ?_
          refine X_icmp_ne rfl (fun c51 => ?_) (fun c51 => ?_)
          · refine X_push (v := .int 0) rfl (by decide +kernel) ?_
            refine X_st rfl rfl rfl ?_
            refine X_iinc rfl rfl rfl ?_
            refine X_goto rfl ?_
            have e : s_eqn (S w) tx (275 + 30 * s) 0 L (k + 1) = false := (show (s_eqn (S w) tx (275 + 30 * s) 0 L k && decide (S w (275 + 30 * s + k) = s_ltr tx 0 L k)) = _ from by rw [h24, show s_ltr tx 0 L k = _ from if_pos (by omega), decide_eq_false (by rw [Nat.zero_add]; exact c51)]; rfl)
            refine X_loc (L' := [some (.ref 275), some (.int x), some (.int (nI s)), some (.int (b2 (s_eqn (S w) tx (275 + 30 * s) 0 L (k + 1)))), some (.int (nI (k + 1)))]) ⟨rfl, rfl, rfl, congrArg (fun q => Value.int (b2 q)) e, congrArg Value.int (m_inc rfl).symm, trivial⟩ ?_
            exact ih (k + 1) (by omega)
          · refine X_push (v := .int 1) rfl (by decide +kernel) ?_
            refine X_goto rfl ?_
            refine X_st rfl rfl rfl ?_
            refine X_iinc rfl rfl rfl ?_
            refine X_goto rfl ?_
            have e : s_eqn (S w) tx (275 + 30 * s) 0 L (k + 1) = true := (show (s_eqn (S w) tx (275 + 30 * s) 0 L k && decide (S w (275 + 30 * s + k) = s_ltr tx 0 L k)) = _ from by rw [h24, show s_ltr tx 0 L k = _ from if_pos (by omega), decide_eq_true (by rw [Nat.zero_add]; exact c51)]; rfl)
            refine X_loc (L' := [some (.ref 275), some (.int x), some (.int (nI s)), some (.int (b2 (s_eqn (S w) tx (275 + 30 * s) 0 L (k + 1)))), some (.int (nI (k + 1)))]) ⟨rfl, rfl, rfl, congrArg (fun q => Value.int (b2 q)) e, congrArg Value.int (m_inc rfl).symm, trivial⟩ ?_
            exact ih (k + 1) (by omega)
  have loop : ((∀ j, j < s_sm (S w) → (fun s => s_eqn (S w) tx (275 + 30 * s) 0 L 8) j = false) → x_W G mX11_nameOf (x_Z G (d + 2) 0 0 ad0 nb0 (x_Ret (mset B I T S rd tx gv pl) (.int (s_nmof (S w) tx L))) x_noX) (mset B I T S rd tx gv pl) 0 0 78 [some (.ref 275), some (.int x), some (.int (nI (s_sm (S w)))), none, none] []) → ∀ (f9 s : Nat), s + f9 = (s_sm (S w)) → (∀ j, j < s → (fun s => s_eqn (S w) tx (275 + 30 * s) 0 L 8) j = false) → x_W G mX11_nameOf (x_Z G (d + 2) 0 0 ad0 nb0 (x_Ret (mset B I T S rd tx gv pl) (.int (s_nmof (S w) tx L))) x_noX) (mset B I T S rd tx gv pl) 0 0 2 [some (.ref 275), some (.int x), some (.int (nI s)), none, none] [] := by
    intro K f9
    induction f9 with
    | zero =>
      intro s e0 hno
      obtain rfl : s = (s_sm (S w)) := by omega
      refine X_ld rfl rfl rfl rfl ?_
      refine X_ld rfl rfl rfl rfl ?_
      refine X_push (v := .int 2) rfl (by decide +kernel) ?_
      refine X_mcall l_X11_X11_get (c_get hG (d + 1) w hw hw9 2 (by omega) (show (2 : Int32) = nI 2 from rfl)) rfl rfl rfl rfl (Nat.le_of_ble_eq_true rfl) (Nat.le_of_ble_eq_true rfl) (Nat.le_refl _) (Nat.le_of_ble_eq_true rfl) (Nat.le_of_ble_eq_true rfl) ?_
      refine X_icmp_ge rfl (fun c8 => ?_) (fun c8 => absurd ((n_le hwf.smE.1 rfl (by omega) (by omega)).mpr (by omega)) c8)
      have K := K hno
      exact K
    | succ f9 ih =>
      intro s e0 hno
      refine X_ld rfl rfl rfl rfl ?_
      refine X_ld rfl rfl rfl rfl ?_
      refine X_push (v := .int 2) rfl (by decide +kernel) ?_
      refine X_mcall l_X11_X11_get (c_get hG (d + 1) w hw hw9 2 (by omega) (show (2 : Int32) = nI 2 from rfl)) rfl rfl rfl rfl (Nat.le_of_ble_eq_true rfl) (Nat.le_of_ble_eq_true rfl) (Nat.le_refl _) (Nat.le_of_ble_eq_true rfl) (Nat.le_of_ble_eq_true rfl) ?_
      refine X_icmp_ge rfl (fun c8 => absurd ((n_le hwf.smE.1 rfl (by omega) (by omega)).mp c8) (by omega)) (fun c8 => ?_)
      refine X_push (v := .int 1) rfl (by decide +kernel) ?_
      refine X_st rfl rfl rfl ?_
      refine X_push (v := .int 0) rfl (by decide +kernel) ?_
      refine X_st rfl rfl rfl ?_
      refine X_loc (L' := [some (.ref 275), some (.int x), some (.int (nI s)), some (.int (b2 (s_eqn (S w) tx (275 + 30 * s) 0 L 0))), some (.int (nI 0))]) ⟨rfl, rfl, rfl, rfl, rfl, trivial⟩ ?_
      refine inner s (by omega) ?_ _ 0 (Nat.zero_add _)
      refine X_ld rfl rfl rfl rfl ?_
      refine X_if_eq rfl (fun c67 => ?_) (fun c67 => ?_)
      · have h67 : (s_eqn (S w) tx (275 + 30 * s) 0 L 8) = false := b2_0 c67
        refine X_iinc rfl rfl rfl ?_
        refine X_goto rfl ?_
        refine X_loc (L' := [some (.ref 275), some (.int x), some (.int (nI (s + 1))), none, none]) ⟨rfl, rfl, congrArg Value.int (m_inc rfl).symm, trivial⟩ ?_
        exact ih (s + 1) (by omega) (m_below hno h67)
      · have h67 : (s_eqn (S w) tx (275 + 30 * s) 0 L 8) = true := b2_1 c67
        refine X_ld rfl rfl rfl rfl ?_
        exact X_iret rfl rfl ⟨rfl, congrArg (fun q => some (Value.int q)) (s_first_yes (P := fun s => s_eqn (S w) tx (275 + 30 * s) 0 L 8) (by omega) h67 hno _ (by omega)).symm⟩ (Nat.le_of_ble_eq_true rfl) (Nat.le_of_ble_eq_true rfl)
  refine X_push (v := .int 0) rfl (by decide +kernel) ?_
  refine X_st rfl rfl rfl ?_
  refine X_loc (L' := [some (.ref 275), some (.int x), some (.int (nI 0)), none, none]) ⟨rfl, rfl, rfl, trivial⟩ ?_
  refine loop (fun hno => ?_) _ 0 (Nat.zero_add _) (fun j hj => absurd hj (Nat.not_lt_zero _))
  refine X_push (v := .int (-1)) rfl (by decide +kernel) ?_
  exact X_iret rfl rfl ⟨rfl, congrArg (fun q => some (Value.int q)) (s_first_no _ hno).symm⟩ (Nat.le_of_ble_eq_true rfl) (Nat.le_of_ble_eq_true rfl)
theorem bI_b2 {p : Prop} [Decidable p] : bI p = b2 (decide p) := by
  by_cases h : p
  · rw [bI_t h, decide_eq_true h]; rfl
  · rw [bI_f h, decide_eq_false h]; rfl
def s_lets (tx : Nat → Int32) (g : Bool) : Nat → Bool
  | 0 => g
  | k + 1 => s_lets tx g k && decide (s_let (tx k))
theorem s_lets_f {tx : Nat → Int32} {g : Bool} : ∀ m k, s_lets tx g k = false → k ≤ m → s_lets tx g m = false
  | 0, k, h, hk => by
    obtain rfl : k = 0 := by omega
    exact h
  | m + 1, k, h, hk => by
    by_cases e : k = m + 1
    · rw [← e]; exact h
    · show (s_lets tx g m && _) = false
      rw [s_lets_f m k h (by omega)]
      rfl
def s_good (tx : Nat → Int32) (L : Nat) : Bool := s_lets tx (decide (1 ≤ L ∧ L ≤ 8)) L
def a_named (c tx : Nat → Int32) (b : Nat) (x : Int32) : Int32 × Int32 :=
  if (0 : Int32) ≤ x ∧ x ≤ nI b then (0, if s_good tx (n_ x) = true then s_nmof c tx (n_ x) else -1) else (1, 0)
def s_nmI (I : Nat → Int32) (b : Nat) (x : Int32) : Nat → Int32 := if (0 : Int32) ≤ x ∧ x ≤ nI b then upd (upd I 0 0) 6 0 else upd I 0 1
theorem s_good8 {tx : Nat → Int32} {L : Nat} (h : s_lets tx (decide (1 ≤ L ∧ L ≤ 8)) L = true) : 1 ≤ L ∧ L ≤ 8 := by
  by_cases h0 : 1 ≤ L ∧ L ≤ 8
  · exact h0
  · have e := s_lets_f (tx := tx) (g := decide (1 ≤ L ∧ L ≤ 8)) L 0 (decide_eq_false h0) (Nat.zero_le _)
    rw [e] at h
    cases h
theorem c_named {G : XE} (hG : x_Kn G) {B : XH} {I : Nat → Int32} {T : Int64} {S : Nat → Nat → Int32} {rd tx gv pl : Nat → Int32} (d : Nat) (w : Nat) (hw : I 3 = nI w) (hw9 : w < 9) (b : Nat) (hb : I 6 = nI b) (hb8 : b ≤ 800) (hwf : s_wf (S w)) {x : Int32} : x_M G mX11_named (d + 3) 0 0 [.ref 275, .int x] (mset B I T S rd tx gv pl) (x_Ret (mset B (s_nmI I b x) T S rd tx gv pl) (.int (a_named (S w) tx b x).2)) x_noX := by
  refine X_M hG okX11_named rfl (L := [some (.ref 275), some (.int x), none, none]) rfl (Nat.le_of_ble_eq_true rfl) (fun ad0 nb0 => ?_)
  have hcm5 := hwf.cmE.2
  have hlm40 := hwf.lmE.2
  have hsm6 := hwf.smE.2
  refine X_ld rfl rfl rfl rfl ?_
  refine X_push (v := .int 0) rfl (by decide +kernel) ?_
  refine X_mput f_X11_37 rfl rfl ?_
  refine X_ld rfl rfl rfl rfl ?_
  refine X_ld rfl rfl rfl rfl ?_
  refine X_un rfl rfl ?_
  refine X_push (v := .long 0) rfl (by decide +kernel) ?_
  refine X_ld rfl rfl rfl rfl ?_
  refine X_get f_X11_60 rfl rfl rfl ?_
  refine X_stk (congrArg (fun q => Value.int q :: _) ((updI_ne (by decide)).trans hb)) ?_
  refine X_un rfl rfl ?_
  refine X_scall l_X11_X11_isIn (c_isIn hG (d + 2) (x := x) (y := 0) (z := nI b) rfl (by decide) rfl) rfl rfl rfl (Nat.le_of_ble_eq_true rfl) (Nat.le_of_ble_eq_true rfl) (Nat.le_refl _) (Nat.le_of_ble_eq_true rfl) (Nat.le_of_ble_eq_true rfl) ?_
  refine X_push (v := .int 1) rfl (by decide +kernel) ?_
  by_cases h18 : (0 : Int32) ≤ x ∧ x ≤ nI b
  · refine X_mcall l_X11_X11_right (c_rightT hG (d + 2) h18 updI_eq) rfl rfl rfl rfl (Nat.le_of_ble_eq_true rfl) (Nat.le_of_ble_eq_true rfl) (Nat.le_refl _) (Nat.le_of_ble_eq_true rfl) (Nat.le_of_ble_eq_true rfl) ?_
    refine X_if_ne rfl (fun c21 => ?_) (fun c21 => absurd c21 (by decide))
    obtain ⟨L, hL1, hL2⟩ := m_rngc rfl (by omega) h18
    have eL : n_ x = L := by unfold n_; rw [hL2]; exact nI_clamp (by omega)
    refine X_ld rfl rfl rfl rfl ?_
    refine X_push (v := .int 0) rfl (by decide +kernel) ?_
    refine X_mput f_X11_60 rfl rfl ?_
    refine X_ld rfl rfl rfl rfl ?_
    refine X_push (v := .int 1) rfl (by decide +kernel) ?_
    refine X_icmp_lt rfl (fun c33 => ?_) (fun c33 => ?_)
    · have n33 := (n_lt (b := 1) hL2 (show (1 : Int32) = nI 1 from rfl) (by omega) (by omega)).mp c33
      refine X_push (v := .int 0) rfl (by decide +kernel) ?_
      refine X_st rfl rfl rfl ?_
      refine X_push (v := .int 0) rfl (by decide +kernel) ?_
      refine X_st rfl rfl rfl ?_
      have loop : x_W G mX11_named (x_Z G (d + 3) 0 0 ad0 nb0 (x_Ret (mset B (s_nmI I b x) T S rd tx gv pl) (.int (a_named (S w) tx b x).2)) x_noX) (mset B (upd (upd I 0 0) 6 0) T S rd tx gv pl) 0 0 75 [some (.ref 275), some (.int x), some (.int (b2 (s_lets tx (decide (1 ≤ L ∧ L ≤ 8)) L))), none] [] → ∀ (f9 k : Nat), k + f9 = L → x_W G mX11_named (x_Z G (d + 3) 0 0 ad0 nb0 (x_Ret (mset B (s_nmI I b x) T S rd tx gv pl) (.int (a_named (S w) tx b x).2)) x_noX) (mset B (upd (upd I 0 0) 6 0) T S rd tx gv pl) 0 0 50 [some (.ref 275), some (.int x), some (.int (b2 (s_lets tx (decide (1 ≤ L ∧ L ≤ 8)) k))), some (.int (nI k))] [] := by
        intro K f9
        induction f9 with
        | zero =>
          intro k e0 
          obtain e9 : k = L := by omega
          subst k
          refine X_ld rfl rfl rfl rfl ?_
          refine X_ld rfl rfl rfl rfl ?_
          refine X_icmp_ge rfl (fun c52 => ?_) (fun c52 => absurd ((n_le hL2 rfl (by omega) (by omega)).mpr (by omega)) c52)
          refine X_loc (L' := [some (.ref 275), some (.int x), some (.int (b2 (s_lets tx (decide (1 ≤ L ∧ L ≤ 8)) L))), none]) ⟨rfl, rfl, rfl, trivial⟩ ?_
          exact K
        | succ f9 ih =>
          intro k e0 
          refine X_ld rfl rfl rfl rfl ?_
          refine X_ld rfl rfl rfl rfl ?_
          refine X_icmp_ge rfl (fun c52 => absurd ((n_le hL2 rfl (by omega) (by omega)).mp c52) (by omega)) (fun c52 => ?_)
          refine X_ld rfl rfl rfl rfl ?_
          refine X_if_eq rfl (fun c56 => ?_) (fun c56 => ?_)
          · have h56 : (s_lets tx (decide (1 ≤ L ∧ L ≤ 8)) k) = false := b2_0 c56
            have e : s_lets tx (decide (1 ≤ L ∧ L ≤ 8)) L = false := s_lets_f L k h56 (by omega)
            refine X_loc (L' := [some (.ref 275), some (.int x), some (.int (b2 (s_lets tx (decide (1 ≤ L ∧ L ≤ 8)) L))), none]) ⟨rfl, rfl, congrArg (fun q => Value.int (b2 q)) (e.trans h56.symm), trivial⟩ ?_
            exact K
          · have h56 : (s_lets tx (decide (1 ≤ L ∧ L ≤ 8)) k) = true := b2_1 c56
            refine X_ld rfl rfl rfl rfl ?_
            refine X_get f_X11_16 rfl rfl rfl ?_
            refine X_ld rfl rfl rfl rfl ?_
            refine X_ildn (n := 800) k rfl (by omega) (by omega) rfl rfl ?_
            refine X_scall l_X11_X11_isLetterOf (c_isLetterOf hG (d + 2) ) rfl rfl rfl (Nat.le_of_ble_eq_true rfl) (Nat.le_of_ble_eq_true rfl) (Nat.le_refl _) (Nat.le_of_ble_eq_true rfl) (Nat.le_of_ble_eq_true rfl) ?_
            refine X_st rfl rfl rfl ?_
            refine X_iinc rfl rfl rfl ?_
            refine X_goto rfl ?_
            have e : s_lets tx (decide (1 ≤ L ∧ L ≤ 8)) (k + 1) = decide (s_let (tx k)) := (show (s_lets tx (decide (1 ≤ L ∧ L ≤ 8)) k && decide (s_let (tx k))) = _ from by rw [h56]; rfl)
            refine X_loc (L' := [some (.ref 275), some (.int x), some (.int (b2 (s_lets tx (decide (1 ≤ L ∧ L ≤ 8)) (k + 1)))), some (.int (nI (k + 1)))]) ⟨rfl, rfl, congrArg Value.int ((congrArg b2 e).trans bI_b2.symm), congrArg Value.int (m_inc rfl).symm, trivial⟩ ?_
            exact ih (k + 1) (by omega)
      refine X_loc (L' := [some (.ref 275), some (.int x), some (.int (b2 (s_lets tx (decide (1 ≤ L ∧ L ≤ 8)) 0))), some (.int (nI 0))]) ⟨rfl, rfl, congrArg (fun q => Value.int (b2 q)) (decide_eq_false (fun q => absurd q.1 (Nat.not_le.mpr n33))), rfl, trivial⟩ ?_
      refine loop ?_ _ 0 (Nat.zero_add _)
      refine X_ld rfl rfl rfl rfl ?_
      refine X_if_eq rfl (fun c76 => ?_) (fun c76 => ?_)
      · have h76 : (s_lets tx (decide (1 ≤ L ∧ L ≤ 8)) L) = false := b2_0 c76
        refine X_push (v := .int (-1)) rfl (by decide +kernel) ?_
        exact X_iret rfl rfl ⟨by unfold s_nmI; rw [if_pos h18], by unfold a_named; rw [if_pos h18, eL, show s_good tx L = false from h76]; rfl⟩ (Nat.le_of_ble_eq_true rfl) (Nat.le_of_ble_eq_true rfl)
      · have h76 : (s_lets tx (decide (1 ≤ L ∧ L ≤ 8)) L) = true := b2_1 c76
        refine X_ld rfl rfl rfl rfl ?_
        refine X_ld rfl rfl rfl rfl ?_
        refine X_mcall l_X11_X11_nameOf (c_nameOf hG d w ((updI_ne (by decide)).trans (updI_I3 hw)) hw9 hwf L (by have := s_good8 h76; omega) hL2) rfl rfl rfl rfl (Nat.le_of_ble_eq_true rfl) (Nat.le_of_ble_eq_true rfl) (Nat.le_refl _) (Nat.le_of_ble_eq_true rfl) (Nat.le_of_ble_eq_true rfl) ?_
        refine X_goto rfl ?_
        exact X_iret rfl rfl ⟨by unfold s_nmI; rw [if_pos h18], by unfold a_named; rw [if_pos h18, eL, show s_good tx L = true from h76]; rfl⟩ (Nat.le_of_ble_eq_true rfl) (Nat.le_of_ble_eq_true rfl)
    · have n33 := mt (n_lt (b := 1) hL2 (show (1 : Int32) = nI 1 from rfl) (by omega) (by omega)).mpr c33
      refine X_ld rfl rfl rfl rfl ?_
      refine X_push (v := .int 8) rfl (by decide +kernel) ?_
      refine X_icmp_gt rfl (fun c39 => ?_) (fun c39 => ?_)
      · have n39 := (n_lt (a := 8) (show (8 : Int32) = nI 8 from rfl) hL2 (by omega) (by omega)).mp c39
        refine X_push (v := .int 0) rfl (by decide +kernel) ?_
        refine X_st rfl rfl rfl ?_
        refine X_push (v := .int 0) rfl (by decide +kernel) ?_
        refine X_st rfl rfl rfl ?_
        have loop : x_W G mX11_named (x_Z G (d + 3) 0 0 ad0 nb0 (x_Ret (mset B (s_nmI I b x) T S rd tx gv pl) (.int (a_named (S w) tx b x).2)) x_noX) (mset B (upd (upd I 0 0) 6 0) T S rd tx gv pl) 0 0 75 [some (.ref 275), some (.int x), some (.int (b2 (s_lets tx (decide (1 ≤ L ∧ L ≤ 8)) L))), none] [] → ∀ (f9 k : Nat), k + f9 = L → x_W G mX11_named (x_Z G (d + 3) 0 0 ad0 nb0 (x_Ret (mset B (s_nmI I b x) T S rd tx gv pl) (.int (a_named (S w) tx b x).2)) x_noX) (mset B (upd (upd I 0 0) 6 0) T S rd tx gv pl) 0 0 50 [some (.ref 275), some (.int x), some (.int (b2 (s_lets tx (decide (1 ≤ L ∧ L ≤ 8)) k))), some (.int (nI k))] [] := by
          intro K f9
          induction f9 with
          | zero =>
            intro k e0 
            obtain e9 : k = L := by omega
            subst k
            refine X_ld rfl rfl rfl rfl ?_
            refine X_ld rfl rfl rfl rfl ?_
            refine X_icmp_ge rfl (fun c52 => ?_) (fun c52 => absurd ((n_le hL2 rfl (by omega) (by omega)).mpr (by omega)) c52)
            refine X_loc (L' := [some (.ref 275), some (.int x), some (.int (b2 (s_lets tx (decide (1 ≤ L ∧ L ≤ 8)) L))), none]) ⟨rfl, rfl, rfl, trivial⟩ ?_
            exact K
          | succ f9 ih =>
            intro k e0 
            refine X_ld rfl rfl rfl rfl ?_
            refine X_ld rfl rfl rfl rfl ?_
            refine X_icmp_ge rfl (fun c52 => absurd ((n_le hL2 rfl (by omega) (by omega)).mp c52) (by omega)) (fun c52 => ?_)
            refine X_ld rfl rfl rfl rfl ?_
            refine X_if_eq rfl (fun c56 => ?_) (fun c56 => ?_)
            · have h56 : (s_lets tx (decide (1 ≤ L ∧ L ≤ 8)) k) = false := b2_0 c56
              have e : s_lets tx (decide (1 ≤ L ∧ L ≤ 8)) L = false := s_lets_f L k h56 (by omega)
              refine X_loc (L' := [some (.ref 275), some (.int x), some (.int (b2 (s_lets tx (decide (1 ≤ L ∧ L ≤ 8)) L))), none]) ⟨rfl, rfl, congrArg (fun q => Value.int (b2 q)) (e.trans h56.symm), trivial⟩ ?_
              exact K
            · have h56 : (s_lets tx (decide (1 ≤ L ∧ L ≤ 8)) k) = true := b2_1 c56
              refine X_ld rfl rfl rfl rfl ?_
              refine X_get f_X11_16 rfl rfl rfl ?_
              refine X_ld rfl rfl rfl rfl ?_
              refine X_ildn (n := 800) k rfl (by omega) (by omega) rfl rfl ?_
              refine X_scall l_X11_X11_isLetterOf (c_isLetterOf hG (d + 2) ) rfl rfl rfl (Nat.le_of_ble_eq_true rfl) (Nat.le_of_ble_eq_true rfl) (Nat.le_refl _) (Nat.le_of_ble_eq_true rfl) (Nat.le_of_ble_eq_true rfl) ?_
              refine X_st rfl rfl rfl ?_
              refine X_iinc rfl rfl rfl ?_
              refine X_goto rfl ?_
              have e : s_lets tx (decide (1 ≤ L ∧ L ≤ 8)) (k + 1) = decide (s_let (tx k)) := (show (s_lets tx (decide (1 ≤ L ∧ L ≤ 8)) k && decide (s_let (tx k))) = _ from by rw [h56]; rfl)
              refine X_loc (L' := [some (.ref 275), some (.int x), some (.int (b2 (s_lets tx (decide (1 ≤ L ∧ L ≤ 8)) (k + 1)))), some (.int (nI (k + 1)))]) ⟨rfl, rfl, congrArg Value.int ((congrArg b2 e).trans bI_b2.symm), congrArg Value.int (m_inc rfl).symm, trivial⟩ ?_
              exact ih (k + 1) (by omega)
        refine X_loc (L' := [some (.ref 275), some (.int x), some (.int (b2 (s_lets tx (decide (1 ≤ L ∧ L ≤ 8)) 0))), some (.int (nI 0))]) ⟨rfl, rfl, congrArg (fun q => Value.int (b2 q)) (decide_eq_false (fun q => absurd q.2 (Nat.not_le.mpr n39))), rfl, trivial⟩ ?_
        refine loop ?_ _ 0 (Nat.zero_add _)
        refine X_ld rfl rfl rfl rfl ?_
        refine X_if_eq rfl (fun c76 => ?_) (fun c76 => ?_)
        · have h76 : (s_lets tx (decide (1 ≤ L ∧ L ≤ 8)) L) = false := b2_0 c76
          refine X_push (v := .int (-1)) rfl (by decide +kernel) ?_
          exact X_iret rfl rfl ⟨by unfold s_nmI; rw [if_pos h18], by unfold a_named; rw [if_pos h18, eL, show s_good tx L = false from h76]; rfl⟩ (Nat.le_of_ble_eq_true rfl) (Nat.le_of_ble_eq_true rfl)
        · have h76 : (s_lets tx (decide (1 ≤ L ∧ L ≤ 8)) L) = true := b2_1 c76
          refine X_ld rfl rfl rfl rfl ?_
          refine X_ld rfl rfl rfl rfl ?_
          refine X_mcall l_X11_X11_nameOf (c_nameOf hG d w ((updI_ne (by decide)).trans (updI_I3 hw)) hw9 hwf L (by have := s_good8 h76; omega) hL2) rfl rfl rfl rfl (Nat.le_of_ble_eq_true rfl) (Nat.le_of_ble_eq_true rfl) (Nat.le_refl _) (Nat.le_of_ble_eq_true rfl) (Nat.le_of_ble_eq_true rfl) ?_
          refine X_goto rfl ?_
          exact X_iret rfl rfl ⟨by unfold s_nmI; rw [if_pos h18], by unfold a_named; rw [if_pos h18, eL, show s_good tx L = true from h76]; rfl⟩ (Nat.le_of_ble_eq_true rfl) (Nat.le_of_ble_eq_true rfl)
      · have n39 := mt (n_lt (a := 8) (show (8 : Int32) = nI 8 from rfl) hL2 (by omega) (by omega)).mpr c39
        refine X_push (v := .int 1) rfl (by decide +kernel) ?_
        refine X_goto rfl ?_
        refine X_st rfl rfl rfl ?_
        refine X_push (v := .int 0) rfl (by decide +kernel) ?_
        refine X_st rfl rfl rfl ?_
        have loop : x_W G mX11_named (x_Z G (d + 3) 0 0 ad0 nb0 (x_Ret (mset B (s_nmI I b x) T S rd tx gv pl) (.int (a_named (S w) tx b x).2)) x_noX) (mset B (upd (upd I 0 0) 6 0) T S rd tx gv pl) 0 0 75 [some (.ref 275), some (.int x), some (.int (b2 (s_lets tx (decide (1 ≤ L ∧ L ≤ 8)) L))), none] [] → ∀ (f9 k : Nat), k + f9 = L → x_W G mX11_named (x_Z G (d + 3) 0 0 ad0 nb0 (x_Ret (mset B (s_nmI I b x) T S rd tx gv pl) (.int (a_named (S w) tx b x).2)) x_noX) (mset B (upd (upd I 0 0) 6 0) T S rd tx gv pl) 0 0 50 [some (.ref 275), some (.int x), some (.int (b2 (s_lets tx (decide (1 ≤ L ∧ L ≤ 8)) k))), some (.int (nI k))] [] := by
          intro K f9
          induction f9 with
          | zero =>
            intro k e0 
            obtain e9 : k = L := by omega
            subst k
            refine X_ld rfl rfl rfl rfl ?_
            refine X_ld rfl rfl rfl rfl ?_
            refine X_icmp_ge rfl (fun c52 => ?_) (fun c52 => absurd ((n_le hL2 rfl (by omega) (by omega)).mpr (by omega)) c52)
            refine X_loc (L' := [some (.ref 275), some (.int x), some (.int (b2 (s_lets tx (decide (1 ≤ L ∧ L ≤ 8)) L))), none]) ⟨rfl, rfl, rfl, trivial⟩ ?_
            exact K
          | succ f9 ih =>
            intro k e0 
            refine X_ld rfl rfl rfl rfl ?_
            refine X_ld rfl rfl rfl rfl ?_
            refine X_icmp_ge rfl (fun c52 => absurd ((n_le hL2 rfl (by omega) (by omega)).mp c52) (by omega)) (fun c52 => ?_)
            refine X_ld rfl rfl rfl rfl ?_
            refine X_if_eq rfl (fun c56 => ?_) (fun c56 => ?_)
            · have h56 : (s_lets tx (decide (1 ≤ L ∧ L ≤ 8)) k) = false := b2_0 c56
              have e : s_lets tx (decide (1 ≤ L ∧ L ≤ 8)) L = false := s_lets_f L k h56 (by omega)
              refine X_loc (L' := [some (.ref 275), some (.int x), some (.int (b2 (s_lets tx (decide (1 ≤ L ∧ L ≤ 8)) L))), none]) ⟨rfl, rfl, congrArg (fun q => Value.int (b2 q)) (e.trans h56.symm), trivial⟩ ?_
              exact K
            · have h56 : (s_lets tx (decide (1 ≤ L ∧ L ≤ 8)) k) = true := b2_1 c56
              refine X_ld rfl rfl rfl rfl ?_
              refine X_get f_X11_16 rfl rfl rfl ?_
              refine X_ld rfl rfl rfl rfl ?_
              refine X_ildn (n := 800) k rfl (by omega) (by omega) rfl rfl ?_
              refine X_scall l_X11_X11_isLetterOf (c_isLetterOf hG (d + 2) ) rfl rfl rfl (Nat.le_of_ble_eq_true rfl) (Nat.le_of_ble_eq_true rfl) (Nat.le_refl _) (Nat.le_of_ble_eq_true rfl) (Nat.le_of_ble_eq_true rfl) ?_
              refine X_st rfl rfl rfl ?_
              refine X_iinc rfl rfl rfl ?_
              refine X_goto rfl ?_
              have e : s_lets tx (decide (1 ≤ L ∧ L ≤ 8)) (k + 1) = decide (s_let (tx k)) := (show (s_lets tx (decide (1 ≤ L ∧ L ≤ 8)) k && decide (s_let (tx k))) = _ from by rw [h56]; rfl)
              refine X_loc (L' := [some (.ref 275), some (.int x), some (.int (b2 (s_lets tx (decide (1 ≤ L ∧ L ≤ 8)) (k + 1)))), some (.int (nI (k + 1)))]) ⟨rfl, rfl, congrArg Value.int ((congrArg b2 e).trans bI_b2.symm), congrArg Value.int (m_inc rfl).symm, trivial⟩ ?_
              exact ih (k + 1) (by omega)
        refine X_loc (L' := [some (.ref 275), some (.int x), some (.int (b2 (s_lets tx (decide (1 ≤ L ∧ L ≤ 8)) 0))), some (.int (nI 0))]) ⟨rfl, rfl, congrArg (fun q => Value.int (b2 q)) (decide_eq_true ⟨Nat.not_lt.mp n33, Nat.not_lt.mp n39⟩), rfl, trivial⟩ ?_
        refine loop ?_ _ 0 (Nat.zero_add _)
        refine X_ld rfl rfl rfl rfl ?_
        refine X_if_eq rfl (fun c76 => ?_) (fun c76 => ?_)
        · have h76 : (s_lets tx (decide (1 ≤ L ∧ L ≤ 8)) L) = false := b2_0 c76
          refine X_push (v := .int (-1)) rfl (by decide +kernel) ?_
          exact X_iret rfl rfl ⟨by unfold s_nmI; rw [if_pos h18], by unfold a_named; rw [if_pos h18, eL, show s_good tx L = false from h76]; rfl⟩ (Nat.le_of_ble_eq_true rfl) (Nat.le_of_ble_eq_true rfl)
        · have h76 : (s_lets tx (decide (1 ≤ L ∧ L ≤ 8)) L) = true := b2_1 c76
          refine X_ld rfl rfl rfl rfl ?_
          refine X_ld rfl rfl rfl rfl ?_
          refine X_mcall l_X11_X11_nameOf (c_nameOf hG d w ((updI_ne (by decide)).trans (updI_I3 hw)) hw9 hwf L (by have := s_good8 h76; omega) hL2) rfl rfl rfl rfl (Nat.le_of_ble_eq_true rfl) (Nat.le_of_ble_eq_true rfl) (Nat.le_refl _) (Nat.le_of_ble_eq_true rfl) (Nat.le_of_ble_eq_true rfl) ?_
          refine X_goto rfl ?_
          exact X_iret rfl rfl ⟨by unfold s_nmI; rw [if_pos h18], by unfold a_named; rw [if_pos h18, eL, show s_good tx L = true from h76]; rfl⟩ (Nat.le_of_ble_eq_true rfl) (Nat.le_of_ble_eq_true rfl)
  · refine X_mcall l_X11_X11_right (c_rightF hG (d + 2) h18 updI_eq (by decide)) rfl rfl rfl rfl (Nat.le_of_ble_eq_true rfl) (Nat.le_of_ble_eq_true rfl) (Nat.le_refl _) (Nat.le_of_ble_eq_true rfl) (Nat.le_of_ble_eq_true rfl) ?_
    refine X_heap (N' := mset B (upd I 0 1) T S rd tx gv pl) (by rw [upd_upd]) ?_
    refine X_if_ne rfl (fun c21 => absurd (by decide) c21) (fun c21 => ?_)
    refine X_push (v := .int 0) rfl (by decide +kernel) ?_
    exact X_iret rfl rfl ⟨by unfold s_nmI; rw [if_neg h18], by unfold a_named; rw [if_neg h18]⟩ (Nat.le_of_ble_eq_true rfl) (Nat.le_of_ble_eq_true rfl)
