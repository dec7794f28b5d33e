/-! ===== the reference: checksum, append, named, and what the reader begins with ===== -/
def s_add (t : Int64) (x : Int32) : Int64 := 31 * t + x.toInt64
def s_fold (f : Nat → Int32) (t : Int64) : Nat → Int64
  | 0 => t
  | n + 1 => s_add (s_fold f t n) (f n)
def s_foldF (f : Nat → Int64 → Int64) (t : Int64) : Nat → Int64
  | 0 => t
  | n + 1 => f n (s_foldF f t n)
def s_sumS (c : Nat → Int32) (s : Nat) (t : Int64) : Int64 := s_fold (fun j => s_st c s (21 + j)) (s_fold (fun h => s_st c s (17 + h)) (s_add (s_fold (fun n => s_told c s n) t 6) (s_st c s 14)) 4) (s_cm c)
def s_sum (c : Nat → Int32) : Int64 :=
  s_foldF (fun s t => s_sumS c s t) (s_foldF (fun l t => s_fold (fun j => s_val c l j) t (s_cm c)) (s_foldF (fun j t => s_fold (fun n => s_col c j (8 + n)) t 5) (s_fold (fun n => c n) 0 9) (s_cm c)) (s_lm c)) (s_sm c)
theorem c_adds {G : XE} (hG : x_Kn G) {B : XH} {I : Nat → Int32} {T : Int64} {S : Nat → Nat → Int32} {rd tx gv pl : Nat → Int32} (d : Nat) {x : Int32} {lx : Int64} (hx : lx = x.toInt64) : x_M G mX11_adds d 0 0 [.ref 275, .long lx] (mset B I T S rd tx gv pl) (x_RetV (mset B I (s_add T x) S rd tx gv pl)) x_noX := by
  refine X_M hG okX11_adds rfl (L := [some (.ref 275), some (.long lx), none]) rfl (Nat.le_of_ble_eq_true rfl) (fun ad0 nb0 => ?_)
  subst hx
  refine X_ld rfl rfl rfl rfl ?_
  refine X_ldc2 k_X11_357 rfl ?_
  refine X_ld rfl rfl rfl rfl ?_
  refine X_get f_X11_359 rfl rfl rfl ?_
  refine X_bin rfl rfl ?_
  refine X_ld rfl rfl rfl rfl ?_
  refine X_bin rfl rfl ?_
  refine X_mputT f_X11_359 rfl ?_
  exact X_vret rfl rfl ⟨rfl, rfl⟩ (Nat.le_of_ble_eq_true rfl) (Nat.le_of_ble_eq_true rfl)
theorem c_addsStatement {G : XE} (hG : x_Kn G) {B : XH} {I : Nat → Int32} {T : Int64} {S : Nat → Nat → Int32} {rd tx gv pl : Nat → Int32} (d : Nat) (w : Nat) (hw : I 3 = nI w) (hw9 : w < 9) (hwf : s_wf (S w)) (s : Nat) (hs : s < 6) {x : Int32} (hx : x = nI s) : x_M G mX11_addsStatement (d + 4) 0 0 [.ref 275, .int x] (mset B I T S rd tx gv pl) (x_RetV (mset B I (s_sumS (S w) s T) S rd tx gv pl)) x_noX := by
  refine X_M hG okX11_addsStatement rfl (L := [some (.ref 275), some (.int x), none]) rfl (Nat.le_of_ble_eq_true rfl) (fun ad0 nb0 => ?_)
  have hcm5 := hwf.cmE.2
  have hlm40 := hwf.lmE.2
  have hsm6 := hwf.smE.2
  have loopC : x_W G mX11_addsStatement (x_Z G (d + 4) 0 0 ad0 nb0 (x_RetV (mset B I (s_sumS (S w) s T) S rd tx gv pl)) x_noX) (mset B I (s_fold (fun j => s_st (S w) s (21 + j)) (s_fold (fun h => s_st (S w) s (17 + h)) (s_add (s_fold (fun n => s_told (S w) s n) T 6) (s_st (S w) s 14)) 4) (s_cm (S w))) S rd tx gv pl) 0 0 95 [some (.ref 275), some (.int x), some (.int (nI (s_cm (S w))))] [] → ∀ (n k : Nat), k + n = (s_cm (S w)) → x_W G mX11_addsStatement (x_Z G (d + 4) 0 0 ad0 nb0 (x_RetV (mset B I (s_sumS (S w) s T) S rd tx gv pl)) x_noX) (mset B I (s_fold (fun j => s_st (S w) s (21 + j)) (s_fold (fun h => s_st (S w) s (17 + h)) (s_add (s_fold (fun n => s_told (S w) s n) T 6) (s_st (S w) s 14)) 4) k) S rd tx gv pl) 0 0 66 [some (.ref 275), some (.int x), some (.int (nI k))] [] := by
    intro K n
    induction n with
    | zero =>
      intro k e0 
      obtain rfl : k = (s_cm (S w)) := by omega
      refine X_ld rfl rfl rfl rfl ?_
      refine X_ld rfl rfl rfl rfl ?_
      refine X_push (v := .int 0) rfl (by decide +kernel) ?_
      refine X_mcall l_X11_X11_get (c_get hG (d + 3) w hw hw9 0 (by omega) (show (0 : Int32) = nI 0 from rfl)) rfl rfl rfl rfl (Nat.le_of_ble_eq_true rfl) (Nat.le_of_ble_eq_true rfl) (Nat.le_refl _) (Nat.le_of_ble_eq_true rfl) (Nat.le_of_ble_eq_true rfl) ?_
      refine X_icmp_ge rfl (fun c72 => ?_) (fun c72 => absurd ((n_le hwf.cmE.1 rfl (by omega) (by omega)).mpr (by omega)) c72)
      exact K
    | succ n ih =>
      intro k e0 
      refine X_ld rfl rfl rfl rfl ?_
      refine X_ld rfl rfl rfl rfl ?_
      refine X_push (v := .int 0) rfl (by decide +kernel) ?_
      refine X_mcall l_X11_X11_get (c_get hG (d + 3) w hw hw9 0 (by omega) (show (0 : Int32) = nI 0 from rfl)) rfl rfl rfl rfl (Nat.le_of_ble_eq_true rfl) (Nat.le_of_ble_eq_true rfl) (Nat.le_refl _) (Nat.le_of_ble_eq_true rfl) (Nat.le_of_ble_eq_true rfl) ?_
      refine X_icmp_ge rfl (fun c72 => absurd ((n_le hwf.cmE.1 rfl (by omega) (by omega)).mp c72) (by omega)) (fun c72 => ?_)
      refine X_ld rfl rfl rfl rfl ?_
      refine X_ld rfl rfl rfl rfl ?_
      refine X_ld rfl rfl rfl rfl ?_
      refine X_push (v := .int 21) rfl (by decide +kernel) ?_
      refine X_ld rfl rfl rfl rfl ?_
      refine X_bin rfl rfl ?_
      refine X_mcall l_X11_X11_ofStatement (c_ofStatement hG (d + 2) w hw hw9 s (21 + k) (by omega) hx (m_add (show (21 : Int32) = nI 21 from rfl) rfl)) rfl rfl rfl rfl (Nat.le_of_ble_eq_true rfl) (Nat.le_of_ble_eq_true rfl) (Nat.le_refl _) (Nat.le_of_ble_eq_true rfl) (Nat.le_of_ble_eq_true rfl) ?_
      refine X_un rfl rfl ?_
      refine X_mcallv l_X11_X11_adds (c_adds hG (d + 3) (x := S w (275 + 30 * s + (21 + k))) rfl) rfl rfl rfl rfl (Nat.le_of_ble_eq_true rfl) (Nat.le_of_ble_eq_true rfl) (Nat.le_refl _) (Nat.le_of_ble_eq_true rfl) (Nat.le_of_ble_eq_true rfl) ?_
      refine X_iinc rfl rfl rfl ?_
      refine X_goto rfl ?_
      refine X_heap (N' := mset B I (s_fold (fun j => s_st (S w) s (21 + j)) (s_fold (fun h => s_st (S w) s (17 + h)) (s_add (s_fold (fun n => s_told (S w) s n) T 6) (s_st (S w) s 14)) 4) (k + 1)) S rd tx gv pl) rfl ?_
      refine X_loc (L' := [some (.ref 275), some (.int x), some (.int (nI (k + 1)))]) ⟨rfl, rfl, congrArg Value.int (m_inc rfl).symm, trivial⟩ ?_
      exact ih (k + 1) (by omega)
  have loopB : x_W G mX11_addsStatement (x_Z G (d + 4) 0 0 ad0 nb0 (x_RetV (mset B I (s_sumS (S w) s T) S rd tx gv pl)) x_noX) (mset B I (s_fold (fun h => s_st (S w) s (17 + h)) (s_add (s_fold (fun n => s_told (S w) s n) T 6) (s_st (S w) s 14)) 4) S rd tx gv pl) 0 0 64 [some (.ref 275), some (.int x), some (.int (nI 4))] [] → ∀ (n k : Nat), k + n = 4 → x_W G mX11_addsStatement (x_Z G (d + 4) 0 0 ad0 nb0 (x_RetV (mset B I (s_sumS (S w) s T) S rd tx gv pl)) x_noX) (mset B I (s_fold (fun h => s_st (S w) s (17 + h)) (s_add (s_fold (fun n => s_told (S w) s n) T 6) (s_st (S w) s 14)) k) S rd tx gv pl) 0 0 39 [some (.ref 275), some (.int x), some (.int (nI k))] [] := by
    intro K n
    induction n with
    | zero =>
      intro k e0 
      obtain rfl : k = 4 := by omega
      refine X_ld rfl rfl rfl rfl ?_
      refine X_push (v := .int 4) rfl (by decide +kernel) ?_
      refine X_icmp_ge rfl (fun c41 => ?_) (fun c41 => absurd ((n_le (a := 4) (show (4 : Int32) = nI 4 from rfl) rfl (by omega) (by omega)).mpr (by omega)) c41)
      exact K
    | succ n ih =>
      intro k e0 
      refine X_ld rfl rfl rfl rfl ?_
      refine X_push (v := .int 4) rfl (by decide +kernel) ?_
      refine X_icmp_ge rfl (fun c41 => absurd ((n_le (a := 4) (show (4 : Int32) = nI 4 from rfl) rfl (by omega) (by omega)).mp c41) (by omega)) (fun c41 => ?_)
      refine X_ld rfl rfl rfl rfl ?_
      refine X_ld rfl rfl rfl rfl ?_
      refine X_ld rfl rfl rfl rfl ?_
      refine X_push (v := .int 17) rfl (by decide +kernel) ?_
      refine X_ld rfl rfl rfl rfl ?_
      refine X_bin rfl rfl ?_
      refine X_mcall l_X11_X11_ofStatement (c_ofStatement hG (d + 2) w hw hw9 s (17 + k) (by omega) hx (m_add (show (17 : Int32) = nI 17 from rfl) rfl)) rfl rfl rfl rfl (Nat.le_of_ble_eq_true rfl) (Nat.le_of_ble_eq_true rfl) (Nat.le_refl _) (Nat.le_of_ble_eq_true rfl) (Nat.le_of_ble_eq_true rfl) ?_
      refine X_un rfl rfl ?_
      refine X_mcallv l_X11_X11_adds (c_adds hG (d + 3) (x := s_st (S w) s (17 + k)) rfl) rfl rfl rfl rfl (Nat.le_of_ble_eq_true rfl) (Nat.le_of_ble_eq_true rfl) (Nat.le_refl _) (Nat.le_of_ble_eq_true rfl) (Nat.le_of_ble_eq_true rfl) ?_
      refine X_iinc rfl rfl rfl ?_
      refine X_goto rfl ?_
      refine X_heap (N' := mset B I (s_fold (fun h => s_st (S w) s (17 + h)) (s_add (s_fold (fun n => s_told (S w) s n) T 6) (s_st (S w) s 14)) (k + 1)) S rd tx gv pl) rfl ?_
      refine X_loc (L' := [some (.ref 275), some (.int x), some (.int (nI (k + 1)))]) ⟨rfl, rfl, congrArg Value.int (m_inc rfl).symm, trivial⟩ ?_
      exact ih (k + 1) (by omega)
  have loopA : x_W G mX11_addsStatement (x_Z G (d + 4) 0 0 ad0 nb0 (x_RetV (mset B I (s_sumS (S w) s T) S rd tx gv pl)) x_noX) (mset B I (s_fold (fun n => s_told (S w) s n) T 6) S rd tx gv pl) 0 0 25 [some (.ref 275), some (.int x), some (.int (nI 6))] [] → ∀ (n k : Nat), k + n = 6 → x_W G mX11_addsStatement (x_Z G (d + 4) 0 0 ad0 nb0 (x_RetV (mset B I (s_sumS (S w) s T) S rd tx gv pl)) x_noX) (mset B I (s_fold (fun n => s_told (S w) s n) T k) S rd tx gv pl) 0 0 2 [some (.ref 275), some (.int x), some (.int (nI k))] [] := by
    intro K n
    induction n with
    | zero =>
      intro k e0 
      obtain rfl : k = 6 := by omega
      refine X_ld rfl rfl rfl rfl ?_
      refine X_push (v := .int 6) rfl (by decide +kernel) ?_
      refine X_icmp_ge rfl (fun c5 => ?_) (fun c5 => absurd ((n_le (a := 6) (show (6 : Int32) = nI 6 from rfl) rfl (by omega) (by omega)).mpr (by omega)) c5)
      exact K
    | succ n ih =>
      intro k e0 
      refine X_ld rfl rfl rfl rfl ?_
      refine X_push (v := .int 6) rfl (by decide +kernel) ?_
      refine X_icmp_ge rfl (fun c5 => absurd ((n_le (a := 6) (show (6 : Int32) = nI 6 from rfl) rfl (by omega) (by omega)).mp c5) (by omega)) (fun c5 => ?_)
      refine X_ld rfl rfl rfl rfl ?_
      refine X_ld rfl rfl rfl rfl ?_
      refine X_ld rfl rfl rfl rfl ?_
      refine X_ld rfl rfl rfl rfl ?_
      refine X_mcall l_X11_X11_toldOf (c_toldOf hG d w hw hw9 s (by omega) hx k (by omega) rfl) rfl rfl rfl rfl (Nat.le_of_ble_eq_true rfl) (Nat.le_of_ble_eq_true rfl) (Nat.le_refl _) (Nat.le_of_ble_eq_true rfl) (Nat.le_of_ble_eq_true rfl) ?_
      refine X_un rfl rfl ?_
      refine X_mcallv l_X11_X11_adds (c_adds hG (d + 3) (x := s_told (S w) s k) rfl) rfl rfl rfl rfl (Nat.le_of_ble_eq_true rfl) (Nat.le_of_ble_eq_true rfl) (Nat.le_refl _) (Nat.le_of_ble_eq_true rfl) (Nat.le_of_ble_eq_true rfl) ?_
      refine X_iinc rfl rfl rfl ?_
      refine X_goto rfl ?_
      refine X_heap (N' := mset B I (s_fold (fun n => s_told (S w) s n) T (k + 1)) S rd tx gv pl) rfl ?_
      refine X_loc (L' := [some (.ref 275), some (.int x), some (.int (nI (k + 1)))]) ⟨rfl, rfl, congrArg Value.int (m_inc rfl).symm, trivial⟩ ?_
      exact ih (k + 1) (by omega)
  refine X_push (v := .int 0) rfl (by decide +kernel) ?_
  refine X_st rfl rfl rfl ?_
  refine X_heap (N' := mset B I (s_fold (fun n => s_told (S w) s n) T 0) S rd tx gv pl) rfl ?_
  refine X_loc (L' := [some (.ref 275), some (.int x), some (.int (nI 0))]) ⟨rfl, rfl, rfl, trivial⟩ ?_
  refine loopA ?_ _ 0 (Nat.zero_add _)
  refine X_ld rfl rfl rfl rfl ?_
  refine X_ld rfl rfl rfl rfl ?_
  refine X_ld rfl rfl rfl rfl ?_
  refine X_push (v := .int 14) rfl (by decide +kernel) ?_
  refine X_mcall l_X11_X11_ofStatement (c_ofStatement hG (d + 2) w hw hw9 s 14 (by omega) hx (show (14 : Int32) = nI 14 from rfl)) rfl rfl rfl rfl (Nat.le_of_ble_eq_true rfl) (Nat.le_of_ble_eq_true rfl) (Nat.le_refl _) (Nat.le_of_ble_eq_true rfl) (Nat.le_of_ble_eq_true rfl) ?_
  refine X_un rfl rfl ?_
  refine X_mcallv l_X11_X11_adds (c_adds hG (d + 3) (x := s_st (S w) s 14) rfl) rfl rfl rfl rfl (Nat.le_of_ble_eq_true rfl) (Nat.le_of_ble_eq_true rfl) (Nat.le_refl _) (Nat.le_of_ble_eq_true rfl) (Nat.le_of_ble_eq_true rfl) ?_
  refine X_push (v := .int 0) rfl (by decide +kernel) ?_
  refine X_st rfl rfl rfl ?_
  refine X_heap (N' := mset B I (s_fold (fun h => s_st (S w) s (17 + h)) (s_add (s_fold (fun n => s_told (S w) s n) T 6) (s_st (S w) s 14)) 0) S rd tx gv pl) rfl ?_
  refine X_loc (L' := [some (.ref 275), some (.int x), some (.int (nI 0))]) ⟨rfl, rfl, rfl, trivial⟩ ?_
  refine loopB ?_ _ 0 (Nat.zero_add _)
  refine X_push (v := .int 0) rfl (by decide +kernel) ?_
  refine X_st rfl rfl rfl ?_
  refine X_heap (N' := mset B I (s_fold (fun j => s_st (S w) s (21 + j)) (s_fold (fun h => s_st (S w) s (17 + h)) (s_add (s_fold (fun n => s_told (S w) s n) T 6) (s_st (S w) s 14)) 4) 0) S rd tx gv pl) rfl ?_
  refine X_loc (L' := [some (.ref 275), some (.int x), some (.int (nI 0))]) ⟨rfl, rfl, rfl, trivial⟩ ?_
  refine loopC ?_ _ 0 (Nat.zero_add _)
  exact X_vret rfl rfl ⟨rfl, rfl⟩ (Nat.le_of_ble_eq_true rfl) (Nat.le_of_ble_eq_true rfl)
theorem c_checksum {G : XE} (hG : x_Kn G) {B : XH} {I : Nat → Int32} {T : Int64} {S : Nat → Nat → Int32} {rd tx gv pl : Nat → Int32} (d : Nat) (w : Nat) (hw : I 3 = nI w) (hw9 : w < 9) (hwf : s_wf (S w)) : x_M G mX11_checksum (d + 5) 0 0 [.ref 275] (mset B I T S rd tx gv pl) (x_Ret (mset B (upd I 0 0) (s_sum (S w)) S rd tx gv pl) (.long (s_sum (S w)))) x_noX := by
  refine X_M hG okX11_checksum rfl (L := [some (.ref 275), none, none]) rfl (Nat.le_of_ble_eq_true rfl) (fun ad0 nb0 => ?_)
  have hcm5 := hwf.cmE.2
  have hlm40 := hwf.lmE.2
  have hsm6 := hwf.smE.2
  have loop4 : x_W G mX11_checksum (x_Z G (d + 5) 0 0 ad0 nb0 (x_Ret (mset B (upd I 0 0) (s_sum (S w)) S rd tx gv pl) (.long (s_sum (S w)))) x_noX) (mset B (upd I 0 0) (s_foldF (fun s t => s_sumS (S w) s t) (s_foldF (fun l t => s_fold (fun j => s_val (S w) l j) t (s_cm (S w))) (s_foldF (fun j t => s_fold (fun n => s_col (S w) j (8 + n)) t 5) (s_fold (fun n => S w n) 0 9) (s_cm (S w))) (s_lm (S w))) (s_sm (S w))) S rd tx gv pl) 0 0 148 [some (.ref 275), some (.int (nI (s_sm (S w)))), none] [] → ∀ (n s : Nat), s + n = (s_sm (S w)) → x_W G mX11_checksum (x_Z G (d + 5) 0 0 ad0 nb0 (x_Ret (mset B (upd I 0 0) (s_sum (S w)) S rd tx gv pl) (.long (s_sum (S w)))) x_noX) (mset B (upd I 0 0) (s_foldF (fun s t => s_sumS (S w) s t) (s_foldF (fun l t => s_fold (fun j => s_val (S w) l j) t (s_cm (S w))) (s_foldF (fun j t => s_fold (fun n => s_col (S w) j (8 + n)) t 5) (s_fold (fun n => S w n) 0 9) (s_cm (S w))) (s_lm (S w))) s) S rd tx gv pl) 0 0 128 [some (.ref 275), some (.int (nI s)), none] [] := by
    intro K n
    induction n with
    | zero =>
      intro s e0 
      obtain rfl : s = (s_sm (S w)) := by omega
      refine X_ld rfl rfl rfl rfl ?_
      refine X_ld rfl rfl rfl rfl ?_
      refine X_push (v := .int 2) rfl (by decide +kernel) ?_
      refine X_mcall l_X11_X11_get (c_get hG (d + 4) w (updI_I3 hw) hw9 2 (by omega) (show (2 : Int32) = nI 2 from rfl)) rfl rfl rfl rfl (Nat.le_of_ble_eq_true rfl) (Nat.le_of_ble_eq_true rfl) (Nat.le_refl _) (Nat.le_of_ble_eq_true rfl) (Nat.le_of_ble_eq_true rfl) ?_
      refine X_icmp_ge rfl (fun c134 => ?_) (fun c134 => absurd ((n_le hwf.smE.1 rfl (by omega) (by omega)).mpr (by omega)) c134)
      exact K
    | succ n ih =>
      intro s e0 
      refine X_ld rfl rfl rfl rfl ?_
      refine X_ld rfl rfl rfl rfl ?_
      refine X_push (v := .int 2) rfl (by decide +kernel) ?_
      refine X_mcall l_X11_X11_get (c_get hG (d + 4) w (updI_I3 hw) hw9 2 (by omega) (show (2 : Int32) = nI 2 from rfl)) rfl rfl rfl rfl (Nat.le_of_ble_eq_true rfl) (Nat.le_of_ble_eq_true rfl) (Nat.le_refl _) (Nat.le_of_ble_eq_true rfl) (Nat.le_of_ble_eq_true rfl) ?_
      refine X_icmp_ge rfl (fun c134 => absurd ((n_le hwf.smE.1 rfl (by omega) (by omega)).mp c134) (by omega)) (fun c134 => ?_)
      refine X_ld rfl rfl rfl rfl ?_
      refine X_ld rfl rfl rfl rfl ?_
      refine X_mcallv l_X11_X11_addsStatement (c_addsStatement hG d w (updI_I3 hw) hw9 hwf s (by omega) rfl) rfl rfl rfl rfl (Nat.le_of_ble_eq_true rfl) (Nat.le_of_ble_eq_true rfl) (Nat.le_refl _) (Nat.le_of_ble_eq_true rfl) (Nat.le_of_ble_eq_true rfl) ?_
      refine X_iinc rfl rfl rfl ?_
      refine X_goto rfl ?_
      refine X_heap (N' := mset B (upd I 0 0) (s_foldF (fun s t => s_sumS (S w) s t) (s_foldF (fun l t => s_fold (fun j => s_val (S w) l j) t (s_cm (S w))) (s_foldF (fun j t => s_fold (fun n => s_col (S w) j (8 + n)) t 5) (s_fold (fun n => S w n) 0 9) (s_cm (S w))) (s_lm (S w))) (s + 1)) S rd tx gv pl) rfl ?_
      refine X_loc (L' := [some (.ref 275), some (.int (nI (s + 1))), none]) ⟨rfl, congrArg Value.int (m_inc rfl).symm, trivial⟩ ?_
      exact ih (s + 1) (by omega)
  have in3 : ∀ (l : Nat) (_ : l < (s_lm (S w))), x_W G mX11_checksum (x_Z G (d + 5) 0 0 ad0 nb0 (x_Ret (mset B (upd I 0 0) (s_sum (S w)) S rd tx gv pl) (.long (s_sum (S w)))) x_noX) (mset B (upd I 0 0) (s_fold (fun j => s_val (S w) l j) (s_foldF (fun l t => s_fold (fun j => s_val (S w) l j) t (s_cm (S w))) (s_foldF (fun j t => s_fold (fun n => s_col (S w) j (8 + n)) t 5) (s_fold (fun n => S w n) 0 9) (s_cm (S w))) l) (s_cm (S w))) S rd tx gv pl) 0 0 120 [some (.ref 275), some (.int (nI l)), some (.int (nI (s_cm (S w))))] [] → ∀ (n j : Nat), j + n = (s_cm (S w)) → x_W G mX11_checksum (x_Z G (d + 5) 0 0 ad0 nb0 (x_Ret (mset B (upd I 0 0) (s_sum (S w)) S rd tx gv pl) (.long (s_sum (S w)))) x_noX) (mset B (upd I 0 0) (s_fold (fun j => s_val (S w) l j) (s_foldF (fun l t => s_fold (fun j => s_val (S w) l j) t (s_cm (S w))) (s_foldF (fun j t => s_fold (fun n => s_col (S w) j (8 + n)) t 5) (s_fold (fun n => S w n) 0 9) (s_cm (S w))) l) j) S rd tx gv pl) 0 0 91 [some (.ref 275), some (.int (nI l)), some (.int (nI j))] [] := by
    intro l hl K n
    induction n with
    | zero =>
      intro j e0 
      obtain rfl : j = (s_cm (S w)) := by omega
      refine X_ld rfl rfl rfl rfl ?_
      refine X_ld rfl rfl rfl rfl ?_
      refine X_push (v := .int 0) rfl (by decide +kernel) ?_
      refine X_mcall l_X11_X11_get (c_get hG (d + 4) w (updI_I3 hw) hw9 0 (by omega) (show (0 : Int32) = nI 0 from rfl)) rfl rfl rfl rfl (Nat.le_of_ble_eq_true rfl) (Nat.le_of_ble_eq_true rfl) (Nat.le_refl _) (Nat.le_of_ble_eq_true rfl) (Nat.le_of_ble_eq_true rfl) ?_
      refine X_icmp_ge rfl (fun c97 => ?_) (fun c97 => absurd ((n_le hwf.cmE.1 rfl (by omega) (by omega)).mpr (by omega)) c97)
      exact K
    | succ n ih =>
      intro j e0 
      refine X_ld rfl rfl rfl rfl ?_
      refine X_ld rfl rfl rfl rfl ?_
      refine X_push (v := .int 0) rfl (by decide +kernel) ?_
      refine X_mcall l_X11_X11_get (c_get hG (d + 4) w (updI_I3 hw) hw9 0 (by omega) (show (0 : Int32) = nI 0 from rfl)) rfl rfl rfl rfl (Nat.le_of_ble_eq_true rfl) (Nat.le_of_ble_eq_true rfl) (Nat.le_refl _) (Nat.le_of_ble_eq_true rfl) (Nat.le_of_ble_eq_true rfl) ?_
      refine X_icmp_ge rfl (fun c97 => absurd ((n_le hwf.cmE.1 rfl (by omega) (by omega)).mp c97) (by omega)) (fun c97 => ?_)
      refine X_ld rfl rfl rfl rfl ?_
      refine X_ld rfl rfl rfl rfl ?_
      refine X_ld rfl rfl rfl rfl ?_
      refine X_ld rfl rfl rfl rfl ?_
      refine X_scall l_X11_X11_valueAt (c_valueAt hG (d + 4) ) rfl rfl rfl (Nat.le_of_ble_eq_true rfl) (Nat.le_of_ble_eq_true rfl) (Nat.le_refl _) (Nat.le_of_ble_eq_true rfl) (Nat.le_of_ble_eq_true rfl) ?_
      refine X_mcall l_X11_X11_get (c_get hG (d + 4) w (updI_I3 hw) hw9 (75 + 5 * l + j) (by omega) (m_valueAt rfl rfl)) rfl rfl rfl rfl (Nat.le_of_ble_eq_true rfl) (Nat.le_of_ble_eq_true rfl) (Nat.le_refl _) (Nat.le_of_ble_eq_true rfl) (Nat.le_of_ble_eq_true rfl) ?_
      refine X_un rfl rfl ?_
      refine X_mcallv l_X11_X11_adds (c_adds hG (d + 4) (x := s_val (S w) l j) rfl) rfl rfl rfl rfl (Nat.le_of_ble_eq_true rfl) (Nat.le_of_ble_eq_true rfl) (Nat.le_refl _) (Nat.le_of_ble_eq_true rfl) (Nat.le_of_ble_eq_true rfl) ?_
      refine X_iinc rfl rfl rfl ?_
      refine X_goto rfl ?_
      refine X_heap (N' := mset B (upd I 0 0) (s_fold (fun j => s_val (S w) l j) (s_foldF (fun l t => s_fold (fun j => s_val (S w) l j) t (s_cm (S w))) (s_foldF (fun j t => s_fold (fun n => s_col (S w) j (8 + n)) t 5) (s_fold (fun n => S w n) 0 9) (s_cm (S w))) l) (j + 1)) S rd tx gv pl) rfl ?_
      refine X_loc (L' := [some (.ref 275), some (.int (nI l)), some (.int (nI (j + 1)))]) ⟨rfl, rfl, congrArg Value.int (m_inc rfl).symm, trivial⟩ ?_
      exact ih (j + 1) (by omega)
  have loop3 : x_W G mX11_checksum (x_Z G (d + 5) 0 0 ad0 nb0 (x_Ret (mset B (upd I 0 0) (s_sum (S w)) S rd tx gv pl) (.long (s_sum (S w)))) x_noX) (mset B (upd I 0 0) (s_foldF (fun l t => s_fold (fun j => s_val (S w) l j) t (s_cm (S w))) (s_foldF (fun j t => s_fold (fun n => s_col (S w) j (8 + n)) t 5) (s_fold (fun n => S w n) 0 9) (s_cm (S w))) (s_lm (S w))) S rd tx gv pl) 0 0 126 [some (.ref 275), some (.int (nI (s_lm (S w)))), none] [] → ∀ (n l : Nat), l + n = (s_lm (S w)) → x_W G mX11_checksum (x_Z G (d + 5) 0 0 ad0 nb0 (x_Ret (mset B (upd I 0 0) (s_sum (S w)) S rd tx gv pl) (.long (s_sum (S w)))) x_noX) (mset B (upd I 0 0) (s_foldF (fun l t => s_fold (fun j => s_val (S w) l j) t (s_cm (S w))) (s_foldF (fun j t => s_fold (fun n => s_col (S w) j (8 + n)) t 5) (s_fold (fun n => S w n) 0 9) (s_cm (S w))) l) S rd tx gv pl) 0 0 80 [some (.ref 275), some (.int (nI l)), none] [] := by
    intro K n
    induction n with
    | zero =>
      intro l e0 
      obtain rfl : l = (s_lm (S w)) := by omega
      refine X_ld rfl rfl rfl rfl ?_
      refine X_ld rfl rfl rfl rfl ?_
      refine X_push (v := .int 1) rfl (by decide +kernel) ?_
      refine X_mcall l_X11_X11_get (c_get hG (d + 4) w (updI_I3 hw) hw9 1 (by omega) (show (1 : Int32) = nI 1 from rfl)) rfl rfl rfl rfl (Nat.le_of_ble_eq_true rfl) (Nat.le_of_ble_eq_true rfl) (Nat.le_refl _) (Nat.le_of_ble_eq_true rfl) (Nat.le_of_ble_eq_true rfl) ?_
      refine X_icmp_ge rfl (fun c86 => ?_) (fun c86 => absurd ((n_le hwf.lmE.1 rfl (by omega) (by omega)).mpr (by omega)) c86)
      exact K
    | succ n ih =>
      intro l e0 
      refine X_ld rfl rfl rfl rfl ?_
      refine X_ld rfl rfl rfl rfl ?_
      refine X_push (v := .int 1) rfl (by decide +kernel) ?_
      refine X_mcall l_X11_X11_get (c_get hG (d + 4) w (updI_I3 hw) hw9 1 (by omega) (show (1 : Int32) = nI 1 from rfl)) rfl rfl rfl rfl (Nat.le_of_ble_eq_true rfl) (Nat.le_of_ble_eq_true rfl) (Nat.le_refl _) (Nat.le_of_ble_eq_true rfl) (Nat.le_of_ble_eq_true rfl) ?_
      refine X_icmp_ge rfl (fun c86 => absurd ((n_le hwf.lmE.1 rfl (by omega) (by omega)).mp c86) (by omega)) (fun c86 => ?_)
      refine X_push (v := .int 0) rfl (by decide +kernel) ?_
      refine X_st rfl rfl rfl ?_
      refine X_heap (N' := mset B (upd I 0 0) (s_fold (fun j => s_val (S w) l j) (s_foldF (fun l t => s_fold (fun j => s_val (S w) l j) t (s_cm (S w))) (s_foldF (fun j t => s_fold (fun n => s_col (S w) j (8 + n)) t 5) (s_fold (fun n => S w n) 0 9) (s_cm (S w))) l) 0) S rd tx gv pl) rfl ?_
      refine X_loc (L' := [some (.ref 275), some (.int (nI l)), some (.int (nI 0))]) ⟨rfl, rfl, rfl, trivial⟩ ?_
      refine in3 l (by omega) ?_ _ 0 (Nat.zero_add _)
      refine X_iinc rfl rfl rfl ?_
      refine X_goto rfl ?_
      refine X_heap (N' := mset B (upd I 0 0) (s_foldF (fun l t => s_fold (fun j => s_val (S w) l j) t (s_cm (S w))) (s_foldF (fun j t => s_fold (fun n => s_col (S w) j (8 + n)) t 5) (s_fold (fun n => S w n) 0 9) (s_cm (S w))) (l + 1)) S rd tx gv pl) rfl ?_
      refine X_loc (L' := [some (.ref 275), some (.int (nI (l + 1))), none]) ⟨rfl, congrArg Value.int (m_inc rfl).symm, trivial⟩ ?_
      exact ih (l + 1) (by omega)
  have in2 : ∀ (j : Nat) (_ : j < (s_cm (S w))), x_W G mX11_checksum (x_Z G (d + 5) 0 0 ad0 nb0 (x_Ret (mset B (upd I 0 0) (s_sum (S w)) S rd tx gv pl) (.long (s_sum (S w)))) x_noX) (mset B (upd I 0 0) (s_fold (fun n => s_col (S w) j (8 + n)) (s_foldF (fun j t => s_fold (fun n => s_col (S w) j (8 + n)) t 5) (s_fold (fun n => S w n) 0 9) j) 5) S rd tx gv pl) 0 0 72 [some (.ref 275), some (.int (nI j)), some (.int (nI 5))] [] → ∀ (n q : Nat), q + n = 5 → x_W G mX11_checksum (x_Z G (d + 5) 0 0 ad0 nb0 (x_Ret (mset B (upd I 0 0) (s_sum (S w)) S rd tx gv pl) (.long (s_sum (S w)))) x_noX) (mset B (upd I 0 0) (s_fold (fun n => s_col (S w) j (8 + n)) (s_foldF (fun j t => s_fold (fun n => s_col (S w) j (8 + n)) t 5) (s_fold (fun n => S w n) 0 9) j) q) S rd tx gv pl) 0 0 47 [some (.ref 275), some (.int (nI j)), some (.int (nI q))] [] := by
    intro j hj K n
    induction n with
    | zero =>
      intro q e0 
      obtain rfl : q = 5 := by omega
      refine X_ld rfl rfl rfl rfl ?_
      refine X_push (v := .int 5) rfl (by decide +kernel) ?_
      refine X_icmp_ge rfl (fun c49 => ?_) (fun c49 => absurd ((n_le (a := 5) (show (5 : Int32) = nI 5 from rfl) rfl (by omega) (by omega)).mpr (by omega)) c49)
      exact K
    | succ n ih =>
      intro q e0 
      refine X_ld rfl rfl rfl rfl ?_
      refine X_push (v := .int 5) rfl (by decide +kernel) ?_
      refine X_icmp_ge rfl (fun c49 => absurd ((n_le (a := 5) (show (5 : Int32) = nI 5 from rfl) rfl (by omega) (by omega)).mp c49) (by omega)) (fun c49 => ?_)
      refine X_ld rfl rfl rfl rfl ?_
      refine X_ld rfl rfl rfl rfl ?_
      refine X_ld rfl rfl rfl rfl ?_
      refine X_push (v := .int 8) rfl (by decide +kernel) ?_
      refine X_ld rfl rfl rfl rfl ?_
      refine X_bin rfl rfl ?_
      refine X_mcall l_X11_X11_ofColumn (c_ofColumn hG (d + 3) w (updI_I3 hw) hw9 j (8 + q) (by omega) rfl (m_add (show (8 : Int32) = nI 8 from rfl) rfl)) rfl rfl rfl rfl (Nat.le_of_ble_eq_true rfl) (Nat.le_of_ble_eq_true rfl) (Nat.le_refl _) (Nat.le_of_ble_eq_true rfl) (Nat.le_of_ble_eq_true rfl) ?_
      refine X_un rfl rfl ?_
      refine X_mcallv l_X11_X11_adds (c_adds hG (d + 4) (x := s_col (S w) j (8 + q)) rfl) rfl rfl rfl rfl (Nat.le_of_ble_eq_true rfl) (Nat.le_of_ble_eq_true rfl) (Nat.le_refl _) (Nat.le_of_ble_eq_true rfl) (Nat.le_of_ble_eq_true rfl) ?_
      refine X_iinc rfl rfl rfl ?_
      refine X_goto rfl ?_
      refine X_heap (N' := mset B (upd I 0 0) (s_fold (fun n => s_col (S w) j (8 + n)) (s_foldF (fun j t => s_fold (fun n => s_col (S w) j (8 + n)) t 5) (s_fold (fun n => S w n) 0 9) j) (q + 1)) S rd tx gv pl) rfl ?_
      refine X_loc (L' := [some (.ref 275), some (.int (nI j)), some (.int (nI (q + 1)))]) ⟨rfl, rfl, congrArg Value.int (m_inc rfl).symm, trivial⟩ ?_
      exact ih (q + 1) (by omega)
  have loop2 : x_W G mX11_checksum (x_Z G (d + 5) 0 0 ad0 nb0 (x_Ret (mset B (upd I 0 0) (s_sum (S w)) S rd tx gv pl) (.long (s_sum (S w)))) x_noX) (mset B (upd I 0 0) (s_foldF (fun j t => s_fold (fun n => s_col (S w) j (8 + n)) t 5) (s_fold (fun n => S w n) 0 9) (s_cm (S w))) S rd tx gv pl) 0 0 78 [some (.ref 275), some (.int (nI (s_cm (S w)))), none] [] → ∀ (n j : Nat), j + n = (s_cm (S w)) → x_W G mX11_checksum (x_Z G (d + 5) 0 0 ad0 nb0 (x_Ret (mset B (upd I 0 0) (s_sum (S w)) S rd tx gv pl) (.long (s_sum (S w)))) x_noX) (mset B (upd I 0 0) (s_foldF (fun j t => s_fold (fun n => s_col (S w) j (8 + n)) t 5) (s_fold (fun n => S w n) 0 9) j) S rd tx gv pl) 0 0 36 [some (.ref 275), some (.int (nI j)), none] [] := by
    intro K n
    induction n with
    | zero =>
      intro j e0 
      obtain rfl : j = (s_cm (S w)) := by omega
      refine X_ld rfl rfl rfl rfl ?_
      refine X_ld rfl rfl rfl rfl ?_
      refine X_push (v := .int 0) rfl (by decide +kernel) ?_
      refine X_mcall l_X11_X11_get (c_get hG (d + 4) w (updI_I3 hw) hw9 0 (by omega) (show (0 : Int32) = nI 0 from rfl)) rfl rfl rfl rfl (Nat.le_of_ble_eq_true rfl) (Nat.le_of_ble_eq_true rfl) (Nat.le_refl _) (Nat.le_of_ble_eq_true rfl) (Nat.le_of_ble_eq_true rfl) ?_
      refine X_icmp_ge rfl (fun c42 => ?_) (fun c42 => absurd ((n_le hwf.cmE.1 rfl (by omega) (by omega)).mpr (by omega)) c42)
      exact K
    | succ n ih =>
      intro j e0 
      refine X_ld rfl rfl rfl rfl ?_
      refine X_ld rfl rfl rfl rfl ?_
      refine X_push (v := .int 0) rfl (by decide +kernel) ?_
      refine X_mcall l_X11_X11_get (c_get hG (d + 4) w (updI_I3 hw) hw9 0 (by omega) (show (0 : Int32) = nI 0 from rfl)) rfl rfl rfl rfl (Nat.le_of_ble_eq_true rfl) (Nat.le_of_ble_eq_true rfl) (Nat.le_refl _) (Nat.le_of_ble_eq_true rfl) (Nat.le_of_ble_eq_true rfl) ?_
      refine X_icmp_ge rfl (fun c42 => absurd ((n_le hwf.cmE.1 rfl (by omega) (by omega)).mp c42) (by omega)) (fun c42 => ?_)
      refine X_push (v := .int 0) rfl (by decide +kernel) ?_
      refine X_st rfl rfl rfl ?_
      refine X_heap (N' := mset B (upd I 0 0) (s_fold (fun n => s_col (S w) j (8 + n)) (s_foldF (fun j t => s_fold (fun n => s_col (S w) j (8 + n)) t 5) (s_fold (fun n => S w n) 0 9) j) 0) S rd tx gv pl) rfl ?_
      refine X_loc (L' := [some (.ref 275), some (.int (nI j)), some (.int (nI 0))]) ⟨rfl, rfl, rfl, trivial⟩ ?_
      refine in2 j (by omega) ?_ _ 0 (Nat.zero_add _)
      refine X_iinc rfl rfl rfl ?_
      refine X_goto rfl ?_
      refine X_heap (N' := mset B (upd I 0 0) (s_foldF (fun j t => s_fold (fun n => s_col (S w) j (8 + n)) t 5) (s_fold (fun n => S w n) 0 9) (j + 1)) S rd tx gv pl) rfl ?_
      refine X_loc (L' := [some (.ref 275), some (.int (nI (j + 1))), none]) ⟨rfl, congrArg Value.int (m_inc rfl).symm, trivial⟩ ?_
      exact ih (j + 1) (by omega)
  have loop1 : x_W G mX11_checksum (x_Z G (d + 5) 0 0 ad0 nb0 (x_Ret (mset B (upd I 0 0) (s_sum (S w)) S rd tx gv pl) (.long (s_sum (S w)))) x_noX) (mset B (upd I 0 0) (s_fold (fun n => S w n) 0 9) S rd tx gv pl) 0 0 34 [some (.ref 275), some (.int (nI 9)), none] [] → ∀ (n k : Nat), k + n = 9 → x_W G mX11_checksum (x_Z G (d + 5) 0 0 ad0 nb0 (x_Ret (mset B (upd I 0 0) (s_sum (S w)) S rd tx gv pl) (.long (s_sum (S w)))) x_noX) (mset B (upd I 0 0) (s_fold (fun n => S w n) 0 k) S rd tx gv pl) 0 0 12 [some (.ref 275), some (.int (nI k)), none] [] := by
    intro K n
    induction n with
    | zero =>
      intro k e0 
      obtain rfl : k = 9 := by omega
      refine X_ld rfl rfl rfl rfl ?_
      refine X_push (v := .int 9) rfl (by decide +kernel) ?_
      refine X_icmp_ge rfl (fun c15 => ?_) (fun c15 => absurd ((n_le (a := 9) (show (9 : Int32) = nI 9 from rfl) rfl (by omega) (by omega)).mpr (by omega)) c15)
      exact K
    | succ n ih =>
      intro k e0 
      refine X_ld rfl rfl rfl rfl ?_
      refine X_push (v := .int 9) rfl (by decide +kernel) ?_
      refine X_icmp_ge rfl (fun c15 => absurd ((n_le (a := 9) (show (9 : Int32) = nI 9 from rfl) rfl (by omega) (by omega)).mp c15) (by omega)) (fun c15 => ?_)
      refine X_ld rfl rfl rfl rfl ?_
      refine X_ld rfl rfl rfl rfl ?_
      refine X_ld rfl rfl rfl rfl ?_
      refine X_mcall l_X11_X11_get (c_get hG (d + 4) w (updI_I3 hw) hw9 k (by omega) rfl) rfl rfl rfl rfl (Nat.le_of_ble_eq_true rfl) (Nat.le_of_ble_eq_true rfl) (Nat.le_refl _) (Nat.le_of_ble_eq_true rfl) (Nat.le_of_ble_eq_true rfl) ?_
      refine X_un rfl rfl ?_
      refine X_mcallv l_X11_X11_adds (c_adds hG (d + 4) (x := S w k) rfl) rfl rfl rfl rfl (Nat.le_of_ble_eq_true rfl) (Nat.le_of_ble_eq_true rfl) (Nat.le_refl _) (Nat.le_of_ble_eq_true rfl) (Nat.le_of_ble_eq_true rfl) ?_
      refine X_iinc rfl rfl rfl ?_
      refine X_goto rfl ?_
      refine X_heap (N' := mset B (upd I 0 0) (s_fold (fun n => S w n) 0 (k + 1)) S rd tx gv pl) rfl ?_
      refine X_loc (L' := [some (.ref 275), some (.int (nI (k + 1))), none]) ⟨rfl, congrArg Value.int (m_inc rfl).symm, trivial⟩ ?_
      exact ih (k + 1) (by omega)
  refine X_ld rfl rfl rfl rfl ?_
  refine X_push (v := .int 0) rfl (by decide +kernel) ?_
  refine X_mput f_X11_37 rfl rfl ?_
  refine X_ld rfl rfl rfl rfl ?_
  refine X_push (v := .long 0) rfl (by decide +kernel) ?_
  refine X_mputT f_X11_359 rfl ?_
  refine X_push (v := .int 0) rfl (by decide +kernel) ?_
  refine X_st rfl rfl rfl ?_
  refine X_heap (N' := mset B (upd I 0 0) (s_fold (fun n => S w n) 0 0) S rd tx gv pl) rfl ?_
  refine X_loc (L' := [some (.ref 275), some (.int (nI 0)), none]) ⟨rfl, rfl, trivial⟩ ?_
  refine loop1 ?_ _ 0 (Nat.zero_add _)
  refine X_push (v := .int 0) rfl (by decide +kernel) ?_
  refine X_st rfl rfl rfl ?_
  refine X_heap (N' := mset B (upd I 0 0) (s_foldF (fun j t => s_fold (fun n => s_col (S w) j (8 + n)) t 5) (s_fold (fun n => S w n) 0 9) 0) S rd tx gv pl) rfl ?_
  refine X_loc (L' := [some (.ref 275), some (.int (nI 0)), none]) ⟨rfl, rfl, trivial⟩ ?_
  refine loop2 ?_ _ 0 (Nat.zero_add _)
  refine X_push (v := .int 0) rfl (by decide +kernel) ?_
  refine X_st rfl rfl rfl ?_
  refine X_heap (N' := mset B (upd I 0 0) (s_foldF (fun l t => s_fold (fun j => s_val (S w) l j) t (s_cm (S w))) (s_foldF (fun j t => s_fold (fun n => s_col (S w) j (8 + n)) t 5) (s_fold (fun n => S w n) 0 9) (s_cm (S w))) 0) S rd tx gv pl) rfl ?_
  refine X_loc (L' := [some (.ref 275), some (.int (nI 0)), none]) ⟨rfl, rfl, trivial⟩ ?_
  refine loop3 ?_ _ 0 (Nat.zero_add _)
  refine X_push (v := .int 0) rfl (by decide +kernel) ?_
  refine X_st rfl rfl rfl ?_
  refine X_heap (N' := mset B (upd I 0 0) (s_foldF (fun s t => s_sumS (S w) s t) (s_foldF (fun l t => s_fold (fun j => s_val (S w) l j) t (s_cm (S w))) (s_foldF (fun j t => s_fold (fun n => s_col (S w) j (8 + n)) t 5) (s_fold (fun n => S w n) 0 9) (s_cm (S w))) (s_lm (S w))) 0) S rd tx gv pl) rfl ?_
  refine X_loc (L' := [some (.ref 275), some (.int (nI 0)), none]) ⟨rfl, rfl, trivial⟩ ?_
  refine loop4 ?_ _ 0 (Nat.zero_add _)
  refine X_ld rfl rfl rfl rfl ?_
  refine X_get f_X11_359 rfl rfl rfl ?_
  exact X_lret rfl rfl ⟨rfl, rfl⟩ (Nat.le_of_ble_eq_true rfl) (Nat.le_of_ble_eq_true rfl)
theorem c_errorOffset {G : XE} (hG : x_Kn G) {B : XH} {I : Nat → Int32} {T : Int64} {S : Nat → Nat → Int32} {rd tx gv pl : Nat → Int32} (d : Nat)  : x_M G mX11_errorOffset d 0 0 [.ref 275] (mset B I T S rd tx gv pl) (x_Ret (mset B (upd I 0 0) T S rd tx gv pl) (.int (I 7))) x_noX := by
  refine X_M hG okX11_errorOffset rfl (L := [some (.ref 275)]) rfl (Nat.le_of_ble_eq_true rfl) (fun ad0 nb0 => ?_)
  refine X_ld rfl rfl rfl rfl ?_
  refine X_push (v := .int 0) rfl (by decide +kernel) ?_
  refine X_mput f_X11_37 rfl rfl ?_
  refine X_ld rfl rfl rfl rfl ?_
  refine X_get f_X11_19 rfl rfl rfl ?_
  exact X_iret rfl rfl ⟨rfl, congrArg (fun q => some (Value.int q)) (updI_ne (by decide))⟩ (Nat.le_of_ble_eq_true rfl) (Nat.le_of_ble_eq_true rfl)
theorem c_thrown {G : XE} (hG : x_Kn G) {B : XH} {I : Nat → Int32} {T : Int64} {S : Nat → Nat → Int32} {rd tx gv pl : Nat → Int32} (d : Nat)  : x_M G mX11_thrown d 0 0 [.ref 275] (mset B I T S rd tx gv pl) (x_Ret (mset B I T S rd tx gv pl) (.int (I 0))) x_noX := by
  refine X_M hG okX11_thrown rfl (L := [some (.ref 275)]) rfl (Nat.le_of_ble_eq_true rfl) (fun ad0 nb0 => ?_)
  refine X_ld rfl rfl rfl rfl ?_
  refine X_get f_X11_37 rfl rfl rfl ?_
  exact X_iret rfl rfl ⟨rfl, rfl⟩ (Nat.le_of_ble_eq_true rfl) (Nat.le_of_ble_eq_true rfl)
def s_wrd (v0 v1 v2 v3 v4 : Int32) (k : Nat) : Int32 := if k < 4 then v0 else if k < 8 then v1 else if k < 12 then v2 else if k < 16 then v3 else v4
/-- a byte of a word -/
def s_byt (v : Int32) (k : Nat) : Int32 := v >>> ((24 - 8 * (nI k - nI k / 4 * 4)) &&& 31) &&& 255
def s_apx (tx : Nat → Int32) (b : Nat) (v0 v1 v2 v3 v4 : Int32) : Nat → Nat → Int32
  | 0 => tx
  | k + 1 => upd (s_apx tx b v0 v1 v2 v3 v4 k) (b + k) (s_byt (s_wrd v0 v1 v2 v3 v4 k) k)
def s_apI (I : Nat → Int32) (b : Nat) : Nat → Int32 := if b + 20 ≤ 800 then upd (upd I 0 0) 6 (nI (b + 20)) else upd I 0 0
theorem c_append {G : XE} (hG : x_Kn G) {B : XH} {I : Nat → Int32} {T : Int64} {S : Nat → Nat → Int32} {rd tx gv pl : Nat → Int32} (d : Nat)  (b : Nat) (hb : I 6 = nI b) (hb8 : b ≤ 800) {v0 v1 v2 v3 v4 : Int32} : x_M G mX11_append d 0 0 [.ref 275, .int v0, .int v1, .int v2, .int v3, .int v4] (mset B I T S rd tx gv pl) (x_Ret (mset B (s_apI I b) T S rd (if b + 20 ≤ 800 then s_apx tx b v0 v1 v2 v3 v4 20 else tx) gv pl) (.int (if b + 20 ≤ 800 then nI (b + 20) else -1))) x_noX := by
  refine X_M hG okX11_append rfl (L := [some (.ref 275), some (.int v0), some (.int v1), some (.int v2), some (.int v3), some (.int v4), none, none]) rfl (Nat.le_of_ble_eq_true rfl) (fun ad0 nb0 => ?_)
  refine X_ld rfl rfl rfl rfl ?_
  refine X_push (v := .int 0) rfl (by decide +kernel) ?_
  refine X_mput f_X11_37 rfl rfl ?_
  refine X_ld rfl rfl rfl rfl ?_
  refine X_get f_X11_60 rfl rfl rfl ?_
  refine X_push (v := .int 20) rfl (by decide +kernel) ?_
  refine X_bin rfl rfl ?_
  refine X_push (v := .int 800) rfl (by decide +kernel) ?_
  refine X_icmp_le rfl (fun c15 => ?_) (fun c15 => ?_)
  · have n15 := (n_le (b := 800) (m_add ((updI_ne (by decide)).trans hb) (show (20 : Int32) = nI 20 from rfl)) (show (800 : Int32) = nI 800 from rfl) (by omega) (by omega)).mp c15
    refine X_push (v := .int 0) rfl (by decide +kernel) ?_
    refine X_st rfl rfl rfl ?_
    have loop : x_W G mX11_append (x_Z G d 0 0 ad0 nb0 (x_Ret (mset B (s_apI I b) T S rd (if b + 20 ≤ 800 then s_apx tx b v0 v1 v2 v3 v4 20 else tx) gv pl) (.int (if b + 20 ≤ 800 then nI (b + 20) else -1))) x_noX) (mset B (upd I 0 0) T S rd (s_apx tx b v0 v1 v2 v3 v4 20) gv pl) 0 0 113 [some (.ref 275), some (.int v0), some (.int v1), some (.int v2), some (.int v3), some (.int v4), some (.int (nI 20)), none] [] → ∀ (n k : Nat), k + n = 20 → x_W G mX11_append (x_Z G d 0 0 ad0 nb0 (x_Ret (mset B (s_apI I b) T S rd (if b + 20 ≤ 800 then s_apx tx b v0 v1 v2 v3 v4 20 else tx) gv pl) (.int (if b + 20 ≤ 800 then nI (b + 20) else -1))) x_noX) (mset B (upd I 0 0) T S rd (s_apx tx b v0 v1 v2 v3 v4 k) gv pl) 0 0 23 [some (.ref 275), some (.int v0), some (.int v1), some (.int v2), some (.int v3), some (.int v4), some (.int (nI k)), none] [] := by
      intro K n
      induction n with
      | zero =>
        intro k e0 
        obtain rfl : k = 20 := by omega
        refine X_ld rfl rfl rfl rfl ?_
        refine X_push (v := .int 20) rfl (by decide +kernel) ?_
        refine X_icmp_ge rfl (fun c27 => ?_) (fun c27 => absurd ((n_le (a := 20) (show (20 : Int32) = nI 20 from rfl) rfl (by omega) (by omega)).mpr (by omega)) c27)
        exact K
      | succ n ih =>
        intro k e0 
        refine X_ld rfl rfl rfl rfl ?_
        refine X_push (v := .int 20) rfl (by decide +kernel) ?_
        refine X_icmp_ge rfl (fun c27 => absurd ((n_le (a := 20) (show (20 : Int32) = nI 20 from rfl) rfl (by omega) (by omega)).mp c27) (by omega)) (fun c27 => ?_)
        refine X_ld rfl rfl rfl rfl ?_
        refine X_push (v := .int 4) rfl (by decide +kernel) ?_
        refine X_icmp_ge rfl (fun c33 => ?_) (fun c33 => ?_)
        · have n33 := (n_le (a := 4) (show (4 : Int32) = nI 4 from rfl) rfl (by omega) (by omega)).mp c33
          refine X_ld rfl rfl rfl rfl ?_
          refine X_push (v := .int 8) rfl (by decide +kernel) ?_
          refine X_icmp_ge rfl (fun c44 => ?_) (fun c44 => ?_)
          · have n44 := (n_le (a := 8) (show (8 : Int32) = nI 8 from rfl) rfl (by omega) (by omega)).mp c44
            refine X_ld rfl rfl rfl rfl ?_
            refine X_push (v := .int 12) rfl (by decide +kernel) ?_
            refine X_icmp_ge rfl (fun c55 => ?_) (fun c55 => ?_)
            · have n55 := (n_le (a := 12) (show (12 : Int32) = nI 12 from rfl) rfl (by omega) (by omega)).mp c55
              refine X_ld rfl rfl rfl rfl ?_
              refine X_push (v := .int 16) rfl (by decide +kernel) ?_
              refine X_icmp_ge rfl (fun c66 => ?_) (fun c66 => ?_)
              · have n66 := (n_le (a := 16) (show (16 : Int32) = nI 16 from rfl) rfl (by omega) (by omega)).mp c66
                refine X_ld rfl rfl rfl rfl ?_
                refine X_st rfl rfl rfl ?_
                refine X_ld rfl rfl rfl rfl ?_
                refine X_get f_X11_16 rfl rfl rfl ?_
                refine X_ld rfl rfl rfl rfl ?_
                refine X_get f_X11_60 rfl rfl rfl ?_
                refine X_ld rfl rfl rfl rfl ?_
                refine X_bin rfl rfl ?_
                refine X_ld rfl rfl rfl rfl ?_
                refine X_push (v := .int 24) rfl (by decide +kernel) ?_
                refine X_push (v := .int 8) rfl (by decide +kernel) ?_
                refine X_ld rfl rfl rfl rfl ?_
                refine X_push (v := .int 4) rfl (by decide +kernel) ?_
                refine X_irem rfl (by decide) ?_
                refine X_bin rfl rfl ?_
                refine X_bin rfl rfl ?_
                refine X_bin rfl rfl ?_
                refine X_push (v := .int 255) rfl (by decide +kernel) ?_
                refine X_bin rfl rfl ?_
                refine X_mXst (b + k) (m_add ((updI_ne (by decide)).trans hb) rfl) (by omega) rfl ?_
                refine X_iinc rfl rfl rfl ?_
                refine X_goto rfl ?_
                refine X_heap (N' := mset B (upd I 0 0) T S rd (s_apx tx b v0 v1 v2 v3 v4 (k + 1)) gv pl) (by rw [show s_apx tx b v0 v1 v2 v3 v4 (k + 1) = upd (s_apx tx b v0 v1 v2 v3 v4 k) (b + k) (s_byt (s_wrd v0 v1 v2 v3 v4 k) k) from rfl, show s_wrd v0 v1 v2 v3 v4 k = _ from by unfold s_wrd; rw [if_neg (Nat.not_lt.mpr n33), if_neg (Nat.not_lt.mpr n44), if_neg (Nat.not_lt.mpr n55), if_neg (Nat.not_lt.mpr n66)]]; rfl) ?_
                refine X_loc (L' := [some (.ref 275), some (.int v0), some (.int v1), some (.int v2), some (.int v3), some (.int v4), some (.int (nI (k + 1))), none]) ⟨rfl, rfl, rfl, rfl, rfl, rfl, congrArg Value.int (m_inc rfl).symm, trivial⟩ ?_
                exact ih (k + 1) (by omega)
              · have n66 := mt (n_le (a := 16) (show (16 : Int32) = nI 16 from rfl) rfl (by omega) (by omega)).mpr c66
                refine X_ld rfl rfl rfl rfl ?_
                refine X_goto rfl ?_
                refine X_st rfl rfl rfl ?_
                refine X_ld rfl rfl rfl rfl ?_
                refine X_get f_X11_16 rfl rfl rfl ?_
                refine X_ld rfl rfl rfl rfl ?_
                refine X_get f_X11_60 rfl rfl rfl ?_
                refine X_ld rfl rfl rfl rfl ?_
                refine X_bin rfl rfl ?_
                refine X_ld rfl rfl rfl rfl ?_
                refine X_push (v := .int 24) rfl (by decide +kernel) ?_
                refine X_push (v := .int 8) rfl (by decide +kernel) ?_
                refine X_ld rfl rfl rfl rfl ?_
                refine X_push (v := .int 4) rfl (by decide +kernel) ?_
                refine X_irem rfl (by decide) ?_
                refine X_bin rfl rfl ?_
                refine X_bin rfl rfl ?_
                refine X_bin rfl rfl ?_
                refine X_push (v := .int 255) rfl (by decide +kernel) ?_
                refine X_bin rfl rfl ?_
                refine X_mXst (b + k) (m_add ((updI_ne (by decide)).trans hb) rfl) (by omega) rfl ?_
                refine X_iinc rfl rfl rfl ?_
                refine X_goto rfl ?_
                refine X_heap (N' := mset B (upd I 0 0) T S rd (s_apx tx b v0 v1 v2 v3 v4 (k + 1)) gv pl) (by rw [show s_apx tx b v0 v1 v2 v3 v4 (k + 1) = upd (s_apx tx b v0 v1 v2 v3 v4 k) (b + k) (s_byt (s_wrd v0 v1 v2 v3 v4 k) k) from rfl, show s_wrd v0 v1 v2 v3 v4 k = _ from by unfold s_wrd; rw [if_neg (Nat.not_lt.mpr n33), if_neg (Nat.not_lt.mpr n44), if_neg (Nat.not_lt.mpr n55), if_pos (Nat.not_le.mp n66)]]; rfl) ?_
                refine X_loc (L' := [some (.ref 275), some (.int v0), some (.int v1), some (.int v2), some (.int v3), some (.int v4), some (.int (nI (k + 1))), none]) ⟨rfl, rfl, rfl, rfl, rfl, rfl, congrArg Value.int (m_inc rfl).symm, trivial⟩ ?_
                exact ih (k + 1) (by omega)
            · have n55 := mt (n_le (a := 12) (show (12 : Int32) = nI 12 from rfl) rfl (by omega) (by omega)).mpr c55
              refine X_ld rfl rfl rfl rfl ?_
              refine X_goto rfl ?_
              refine X_st rfl rfl rfl ?_
              refine X_ld rfl rfl rfl rfl ?_
              refine X_get f_X11_16 rfl rfl rfl ?_
              refine X_ld rfl rfl rfl rfl ?_
              refine X_get f_X11_60 rfl rfl rfl ?_
              refine X_ld rfl rfl rfl rfl ?_
              refine X_bin rfl rfl ?_
              refine X_ld rfl rfl rfl rfl ?_
              refine X_push (v := .int 24) rfl (by decide +kernel) ?_
              refine X_push (v := .int 8) rfl (by decide +kernel) ?_
              refine X_ld rfl rfl rfl rfl ?_
              refine X_push (v := .int 4) rfl (by decide +kernel) ?_
              refine X_irem rfl (by decide) ?_
              refine X_bin rfl rfl ?_
              refine X_bin rfl rfl ?_
              refine X_bin rfl rfl ?_
              refine X_push (v := .int 255) rfl (by decide +kernel) ?_
              refine X_bin rfl rfl ?_
              refine X_mXst (b + k) (m_add ((updI_ne (by decide)).trans hb) rfl) (by omega) rfl ?_
              refine X_iinc rfl rfl rfl ?_
              refine X_goto rfl ?_
              refine X_heap (N' := mset B (upd I 0 0) T S rd (s_apx tx b v0 v1 v2 v3 v4 (k + 1)) gv pl) (by rw [show s_apx tx b v0 v1 v2 v3 v4 (k + 1) = upd (s_apx tx b v0 v1 v2 v3 v4 k) (b + k) (s_byt (s_wrd v0 v1 v2 v3 v4 k) k) from rfl, show s_wrd v0 v1 v2 v3 v4 k = _ from by unfold s_wrd; rw [if_neg (Nat.not_lt.mpr n33), if_neg (Nat.not_lt.mpr n44), if_pos (Nat.not_le.mp n55)]]; rfl) ?_
              refine X_loc (L' := [some (.ref 275), some (.int v0), some (.int v1), some (.int v2), some (.int v3), some (.int v4), some (.int (nI (k + 1))), none]) ⟨rfl, rfl, rfl, rfl, rfl, rfl, congrArg Value.int (m_inc rfl).symm, trivial⟩ ?_
              exact ih (k + 1) (by omega)
          · have n44 := mt (n_le (a := 8) (show (8 : Int32) = nI 8 from rfl) rfl (by omega) (by omega)).mpr c44
            refine X_ld rfl rfl rfl rfl ?_
            refine X_goto rfl ?_
            refine X_st rfl rfl rfl ?_
            refine X_ld rfl rfl rfl rfl ?_
            refine X_get f_X11_16 rfl rfl rfl ?_
            refine X_ld rfl rfl rfl rfl ?_
            refine X_get f_X11_60 rfl rfl rfl ?_
            refine X_ld rfl rfl rfl rfl ?_
            refine X_bin rfl rfl ?_
            refine X_ld rfl rfl rfl rfl ?_
            refine X_push (v := .int 24) rfl (by decide +kernel) ?_
            refine X_push (v := .int 8) rfl (by decide +kernel) ?_
            refine X_ld rfl rfl rfl rfl ?_
            refine X_push (v := .int 4) rfl (by decide +kernel) ?_
            refine X_irem rfl (by decide) ?_
            refine X_bin rfl rfl ?_
            refine X_bin rfl rfl ?_
            refine X_bin rfl rfl ?_
            refine X_push (v := .int 255) rfl (by decide +kernel) ?_
            refine X_bin rfl rfl ?_
            refine X_mXst (b + k) (m_add ((updI_ne (by decide)).trans hb) rfl) (by omega) rfl ?_
            refine X_iinc rfl rfl rfl ?_
            refine X_goto rfl ?_
            refine X_heap (N' := mset B (upd I 0 0) T S rd (s_apx tx b v0 v1 v2 v3 v4 (k + 1)) gv pl) (by rw [show s_apx tx b v0 v1 v2 v3 v4 (k + 1) = upd (s_apx tx b v0 v1 v2 v3 v4 k) (b + k) (s_byt (s_wrd v0 v1 v2 v3 v4 k) k) from rfl, show s_wrd v0 v1 v2 v3 v4 k = _ from by unfold s_wrd; rw [if_neg (Nat.not_lt.mpr n33), if_pos (Nat.not_le.mp n44)]]; rfl) ?_
            refine X_loc (L' := [some (.ref 275), some (.int v0), some (.int v1), some (.int v2), some (.int v3), some (.int v4), some (.int (nI (k + 1))), none]) ⟨rfl, rfl, rfl, rfl, rfl, rfl, congrArg Value.int (m_inc rfl).symm, trivial⟩ ?_
            exact ih (k + 1) (by omega)
        · have n33 := mt (n_le (a := 4) (show (4 : Int32) = nI 4 from rfl) rfl (by omega) (by omega)).mpr c33
          refine X_ld rfl rfl rfl rfl ?_
          refine X_goto rfl ?_
          refine X_st rfl rfl rfl ?_
          refine X_ld rfl rfl rfl rfl ?_
          refine X_get f_X11_16 rfl rfl rfl ?_
          refine X_ld rfl rfl rfl rfl ?_
          refine X_get f_X11_60 rfl rfl rfl ?_
          refine X_ld rfl rfl rfl rfl ?_
          refine X_bin rfl rfl ?_
          refine X_ld rfl rfl rfl rfl ?_
          refine X_push (v := .int 24) rfl (by decide +kernel) ?_
          refine X_push (v := .int 8) rfl (by decide +kernel) ?_
          refine X_ld rfl rfl rfl rfl ?_
          refine X_push (v := .int 4) rfl (by decide +kernel) ?_
          refine X_irem rfl (by decide) ?_
          refine X_bin rfl rfl ?_
          refine X_bin rfl rfl ?_
          refine X_bin rfl rfl ?_
          refine X_push (v := .int 255) rfl (by decide +kernel) ?_
          refine X_bin rfl rfl ?_
          refine X_mXst (b + k) (m_add ((updI_ne (by decide)).trans hb) rfl) (by omega) rfl ?_
          refine X_iinc rfl rfl rfl ?_
          refine X_goto rfl ?_
          refine X_heap (N' := mset B (upd I 0 0) T S rd (s_apx tx b v0 v1 v2 v3 v4 (k + 1)) gv pl) (by rw [show s_apx tx b v0 v1 v2 v3 v4 (k + 1) = upd (s_apx tx b v0 v1 v2 v3 v4 k) (b + k) (s_byt (s_wrd v0 v1 v2 v3 v4 k) k) from rfl, show s_wrd v0 v1 v2 v3 v4 k = _ from by unfold s_wrd; rw [if_pos (Nat.not_le.mp n33)]]; rfl) ?_
          refine X_loc (L' := [some (.ref 275), some (.int v0), some (.int v1), some (.int v2), some (.int v3), some (.int v4), some (.int (nI (k + 1))), none]) ⟨rfl, rfl, rfl, rfl, rfl, rfl, congrArg Value.int (m_inc rfl).symm, trivial⟩ ?_
          exact ih (k + 1) (by omega)
    refine X_heap (N' := mset B (upd I 0 0) T S rd (s_apx tx b v0 v1 v2 v3 v4 0) gv pl) rfl ?_
    refine X_loc (L' := [some (.ref 275), some (.int v0), some (.int v1), some (.int v2), some (.int v3), some (.int v4), some (.int (nI 0)), none]) ⟨rfl, rfl, rfl, rfl, rfl, rfl, rfl, trivial⟩ ?_
    refine loop ?_ _ 0 (Nat.zero_add _)
    refine X_ld rfl rfl rfl rfl ?_
    refine X_dup rfl rfl ?_
    refine X_get f_X11_60 rfl rfl rfl ?_
    refine X_push (v := .int 20) rfl (by decide +kernel) ?_
    refine X_bin rfl rfl ?_
    refine X_mput f_X11_60 rfl rfl ?_
    refine X_ld rfl rfl rfl rfl ?_
    refine X_get f_X11_60 rfl rfl rfl ?_
    exact X_iret rfl rfl ⟨by unfold s_apI; rw [if_pos n15, if_pos n15, (show upd I 0 0 6 + 20 = nI (b + 20) from m_add (b := 20) ((updI_ne (by decide)).trans hb) rfl)], by rw [if_pos n15]; exact congrArg (fun q => some (Value.int q)) (updI_eq.trans (m_add (b := 20) ((updI_ne (by decide)).trans hb) rfl))⟩ (Nat.le_of_ble_eq_true rfl) (Nat.le_of_ble_eq_true rfl)
  · have n15 := mt (n_le (b := 800) (m_add ((updI_ne (by decide)).trans hb) (show (20 : Int32) = nI 20 from rfl)) (show (800 : Int32) = nI 800 from rfl) (by omega) (by omega)).mpr c15
    refine X_push (v := .int (-1)) rfl (by decide +kernel) ?_
    exact X_iret rfl rfl ⟨by unfold s_apI; rw [if_neg n15, if_neg n15], by rw [if_neg n15]⟩ (Nat.le_of_ble_eq_true rfl) (Nat.le_of_ble_eq_true rfl)
