/-! ===== the class: Data and Usage, the small methods (2) ===== -/
theorem m_mulr {x : Int32} {a b : Nat} (hx : x = nI a) : x * nI b = nI (a * b) := by rw [hx]; exact pk_mul a b
theorem c_isCellT {G : XE} (hG : x_Kn G) {N : XH} (d : Nat) {x y : Int32} {a b : Nat} (hx : x = nI a) (hy : y = nI b) (ha : a < 40) (hb : b < 5) : x_M G mX3_isCell d 0 0 [.int x, .int y] (N) (x_Ret N (.int 1)) x_noX := by
  refine X_M hG okX3_isCell rfl (L := [some (.int x), some (.int y)]) rfl (Nat.le_of_ble_eq_true rfl) (fun ad0 nb0 => ?_)
  refine X_ld rfl rfl rfl rfl ?_
  refine X_if_lt rfl (fun c1 => absurd ((n_lt (b := 0) hx (show (0 : Int32) = nI 0 from rfl) (by omega) (by omega)).mp c1) (by omega)) (fun c1 => ?_)
  refine X_ld rfl rfl rfl rfl ?_
  refine X_push (v := .int 40) rfl (by decide +kernel) ?_
  refine X_icmp_ge rfl (fun c7 => absurd ((n_le (a := 40) (show (40 : Int32) = nI 40 from rfl) hx (by omega) (by omega)).mp c7) (by omega)) (fun c7 => ?_)
  refine X_ld rfl rfl rfl rfl ?_
  refine X_if_lt rfl (fun c11 => absurd ((n_lt (b := 0) hy (show (0 : Int32) = nI 0 from rfl) (by omega) (by omega)).mp c11) (by omega)) (fun c11 => ?_)
  refine X_ld rfl rfl rfl rfl ?_
  refine X_push (v := .int 5) rfl (by decide +kernel) ?_
  refine X_icmp_ge rfl (fun c16 => absurd ((n_le (a := 5) (show (5 : Int32) = nI 5 from rfl) hy (by omega) (by omega)).mp c16) (by omega)) (fun c16 => ?_)
  refine X_push (v := .int 1) rfl (by decide +kernel) ?_
  refine X_goto rfl ?_
  exact X_zret rfl rfl rfl ⟨rfl, rfl⟩ (Nat.le_of_ble_eq_true rfl) (Nat.le_of_ble_eq_true rfl)
theorem c_isCellF {G : XE} (hG : x_Kn G) {N : XH} (d : Nat) {x y : Int32} {a b : Nat} (hx : x = nI a) (hy : y = nI b) (ha : 40 ≤ a) (ha2 : a < 2147483648) : x_M G mX3_isCell d 0 0 [.int x, .int y] (N) (x_Ret N (.int 0)) x_noX := by
  refine X_M hG okX3_isCell rfl (L := [some (.int x), some (.int y)]) rfl (Nat.le_of_ble_eq_true rfl) (fun ad0 nb0 => ?_)
  refine X_ld rfl rfl rfl rfl ?_
  refine X_if_lt rfl (fun c1 => absurd ((n_lt (b := 0) hx (show (0 : Int32) = nI 0 from rfl) (by omega) (by omega)).mp c1) (by omega)) (fun c1 => ?_)
  refine X_ld rfl rfl rfl rfl ?_
  refine X_push (v := .int 40) rfl (by decide +kernel) ?_
  refine X_icmp_ge rfl (fun c7 => ?_) (fun c7 => absurd ((n_le (a := 40) (show (40 : Int32) = nI 40 from rfl) hx (by omega) (by omega)).mpr (by omega)) c7)
  refine X_push (v := .int 0) rfl (by decide +kernel) ?_
  exact X_zret rfl rfl rfl ⟨rfl, rfl⟩ (Nat.le_of_ble_eq_true rfl) (Nat.le_of_ble_eq_true rfl)
theorem d_cell {G : XE} (hG : x_Kn G) {B : XH} {J bf K tk ts : Nat → Int32} {tl : Int64} {tv : Nat → Int64} {su : Nat → Nat} {D : Nat → Nat → Int32} (d : Nat) (i : Nat) (hi : i < 10) {c : Nat → Int32} {x y : Int32} {a b : Nat} (hx : x = nI a) (hy : y = nI b) (ha : a < 40) (hb : b < 5) : x_M G mX3_cell (d + 1) 0 0 [.ref (75 + 20 * i), .int x, .int y] (cset B J bf K tk ts tl tv su (updR D i c)) (x_Ret (cset B J bf K tk ts tl tv su (updR D i c)) (.int (s_val c a b))) x_noX := by
  refine X_M hG okX3_cell rfl (L := [some (.ref (75 + 20 * i)), some (.int x), some (.int y)]) rfl (Nat.le_of_ble_eq_true rfl) (fun ad0 nb0 => ?_)
  refine X_ld rfl rfl rfl rfl ?_
  refine X_ld rfl rfl rfl rfl ?_
  refine X_scall l_X3_X3_isCell (c_isCellT hG d hx hy (by omega) (by omega)) rfl rfl rfl (Nat.le_of_ble_eq_true rfl) (Nat.le_of_ble_eq_true rfl) (by omega) (Nat.le_of_ble_eq_true rfl) (Nat.le_of_ble_eq_true rfl) ?_
  refine X_if_eq rfl (fun c5 => absurd c5 (by decide)) (fun c5 => ?_)
  refine X_ld rfl rfl rfl rfl ?_
  refine X_get f_X3_9 rfl (r_D hi updR_eq) rfl ?_
  refine X_ld rfl rfl rfl rfl ?_
  refine X_push (v := .int 5) rfl (by decide +kernel) ?_
  refine X_bin rfl rfl ?_
  refine X_ld rfl rfl rfl rfl ?_
  refine X_bin rfl rfl ?_
  refine X_Aald hi updR_eq (m_add (m_mulr (b := 5) hx) hy) (by omega) (k := (a * 5) + b) rfl ?_
  refine X_goto rfl ?_
  exact X_iret rfl rfl ⟨rfl, congrArg (fun q => some (Value.int (c q))) (by omega)⟩ (Nat.le_of_ble_eq_true rfl) (Nat.le_of_ble_eq_true rfl)
theorem d_putCell {G : XE} (hG : x_Kn G) {B : XH} {J bf K tk ts : Nat → Int32} {tl : Int64} {tv : Nat → Int64} {su : Nat → Nat} {D : Nat → Nat → Int32} (d : Nat) (i : Nat) (hi : i < 10) {c : Nat → Int32} {x y : Int32} {a b : Nat} (hx : x = nI a) (hy : y = nI b) {v : Int32} (ha : a < 40) (hb : b < 5) : x_M G mX3_putCell (d + 1) 0 0 [.ref (75 + 20 * i), .int x, .int y, .int v] (cset B J bf K tk ts tl tv su (updR D i c)) (x_RetV (cset B J bf K tk ts tl tv su (updR D i (upd c (75 + 5 * a + b) v)))) x_noX := by
  refine X_M hG okX3_putCell rfl (L := [some (.ref (75 + 20 * i)), some (.int x), some (.int y), some (.int v)]) rfl (Nat.le_of_ble_eq_true rfl) (fun ad0 nb0 => ?_)
  refine X_ld rfl rfl rfl rfl ?_
  refine X_ld rfl rfl rfl rfl ?_
  refine X_scall l_X3_X3_isCell (c_isCellT hG d hx hy (by omega) (by omega)) rfl rfl rfl (Nat.le_of_ble_eq_true rfl) (Nat.le_of_ble_eq_true rfl) (by omega) (Nat.le_of_ble_eq_true rfl) (Nat.le_of_ble_eq_true rfl) ?_
  refine X_if_eq rfl (fun c5 => absurd c5 (by decide)) (fun c5 => ?_)
  refine X_ld rfl rfl rfl rfl ?_
  refine X_get f_X3_9 rfl (r_D hi updR_eq) rfl ?_
  refine X_ld rfl rfl rfl rfl ?_
  refine X_push (v := .int 5) rfl (by decide +kernel) ?_
  refine X_bin rfl rfl ?_
  refine X_ld rfl rfl rfl rfl ?_
  refine X_bin rfl rfl ?_
  refine X_ld rfl rfl rfl rfl ?_
  refine X_Aast hi updR_eq (m_add (m_mulr (b := 5) hx) hy) (by omega) (k := (a * 5) + b) rfl ?_
  exact X_vret rfl rfl ⟨by rw [show 75 + 5 * a + b = 75 + (a * 5 + b) by omega, updR_updR], rfl⟩ (Nat.le_of_ble_eq_true rfl) (Nat.le_of_ble_eq_true rfl)
theorem d_putCellN {G : XE} (hG : x_Kn G) {B : XH} {J bf K tk ts : Nat → Int32} {tl : Int64} {tv : Nat → Int64} {su : Nat → Nat} {D : Nat → Nat → Int32} (d : Nat) (i : Nat) (hi : i < 10) {c : Nat → Int32} {x y : Int32} {a b : Nat} (hx : x = nI a) (hy : y = nI b) {v : Int32} (ha : 40 ≤ a) (ha2 : a < 2147483648) : x_M G mX3_putCell (d + 1) 0 0 [.ref (75 + 20 * i), .int x, .int y, .int v] (cset B J bf K tk ts tl tv su (updR D i c)) (x_RetV (cset B J bf K tk ts tl tv su (updR D i c))) x_noX := by
  refine X_M hG okX3_putCell rfl (L := [some (.ref (75 + 20 * i)), some (.int x), some (.int y), some (.int v)]) rfl (Nat.le_of_ble_eq_true rfl) (fun ad0 nb0 => ?_)
  refine X_ld rfl rfl rfl rfl ?_
  refine X_ld rfl rfl rfl rfl ?_
  refine X_scall l_X3_X3_isCell (c_isCellF hG d hx hy ha ha2) rfl rfl rfl (Nat.le_of_ble_eq_true rfl) (Nat.le_of_ble_eq_true rfl) (by omega) (Nat.le_of_ble_eq_true rfl) (Nat.le_of_ble_eq_true rfl) ?_
  refine X_if_eq rfl (fun c5 => ?_) (fun c5 => absurd (by decide) c5)
  exact X_vret rfl rfl ⟨rfl, rfl⟩ (Nat.le_of_ble_eq_true rfl) (Nat.le_of_ble_eq_true rfl)
def s_all (x : Int32) : Int64 := (1 : Int64) <<< (x.toInt64 &&& 63) - 1
theorem d_allRows {G : XE} (hG : x_Kn G) {B : XH} {J bf K tk ts : Nat → Int32} {tl : Int64} {tv : Nat → Int64} {su : Nat → Nat} {D : Nat → Nat → Int32} (d : Nat) (i : Nat) (hi : i < 10) {c : Nat → Int32}  : x_M G mX3_allRows d 0 0 [.ref (75 + 20 * i)] (cset B J bf K tk ts tl tv su (updR D i c)) (x_Ret (cset B J bf K tk ts tl tv su (updR D i c)) (.long (s_all (c 1)))) x_noX := by
  refine X_M hG okX3_allRows rfl (L := [some (.ref (75 + 20 * i))]) rfl (Nat.le_of_ble_eq_true rfl) (fun ad0 nb0 => ?_)
  refine X_push (v := .long 1) rfl (by decide +kernel) ?_
  refine X_ld rfl rfl rfl rfl ?_
  refine X_get f_X3_37 rfl (r_D hi updR_eq) rfl ?_
  refine X_bin rfl rfl ?_
  refine X_push (v := .long 1) rfl (by decide +kernel) ?_
  refine X_bin rfl rfl ?_
  exact X_lret rfl rfl ⟨rfl, rfl⟩ (Nat.le_of_ble_eq_true rfl) (Nat.le_of_ble_eq_true rfl)
theorem s_new_f {c : Nat → Int32} {j l : Nat} : ∀ m k, s_new c j l k = false → k ≤ m → s_new c j l m = false
  | 0, k, h, hk => by
    obtain rfl : k = 0 := by omega
    exact h
  | m + 1, k, h, hk => by
    by_cases e : k = m + 1
    · rw [← e]; exact h
    · show (s_new c j l m && _) = false
      rw [s_new_f m k h (by omega)]
      rfl
theorem d_isFirst {G : XE} (hG : x_Kn G) {B : XH} {J bf K tk ts : Nat → Int32} {tl : Int64} {tv : Nat → Int64} {su : Nat → Nat} {D : Nat → Nat → Int32} (d : Nat) (i : Nat) (hi : i < 10) {c : Nat → Int32} {x y : Int32} {a b : Nat} (hx : x = nI a) (hy : y = nI b) (ha : a < 40) (hb : b < 5) : x_M G mX3_isFirst (d + 2) 0 0 [.ref (75 + 20 * i), .int x, .int y] (cset B J bf K tk ts tl tv su (updR D i c)) (x_Ret (cset B J bf K tk ts tl tv su (updR D i c)) (.int (b2 (s_new c b a a)))) x_noX := by
  refine X_M hG okX3_isFirst rfl (L := [some (.ref (75 + 20 * i)), some (.int x), some (.int y), none]) rfl (Nat.le_of_ble_eq_true rfl) (fun ad0 nb0 => ?_)
  have loop : (s_new c b a a = true → x_W G mX3_isFirst (x_Z G (d + 2) 0 0 ad0 nb0 (x_Ret (cset B J bf K tk ts tl tv su (updR D i c)) (.int (b2 (s_new c b a a)))) x_noX) (cset B J bf K tk ts tl tv su (updR D i c)) 0 0 30 [some (.ref (75 + 20 * i)), some (.int x), some (.int y), some (.int (nI a))] []) → ∀ (f9 k : Nat), k + f9 = a → s_new c b a k = true → x_W G mX3_isFirst (x_Z G (d + 2) 0 0 ad0 nb0 (x_Ret (cset B J bf K tk ts tl tv su (updR D i c)) (.int (b2 (s_new c b a a)))) x_noX) (cset B J bf K tk ts tl tv su (updR D i c)) 0 0 2 [some (.ref (75 + 20 * i)), some (.int x), some (.int y), some (.int (nI k))] [] := by
    intro K f9
    induction f9 with
    | zero =>
      intro k e0 hno
      obtain e9 : k = a := by omega
      subst k
      refine X_ld rfl rfl rfl rfl ?_
      refine X_ld rfl rfl rfl rfl ?_
      refine X_icmp_ge rfl (fun c4 => ?_) (fun c4 => absurd ((n_le hx rfl (by omega) (by omega)).mpr (by omega)) c4)
      have K := K hno
      exact K
    | succ f9 ih =>
      intro k e0 hno
      refine X_ld rfl rfl rfl rfl ?_
      refine X_ld rfl rfl rfl rfl ?_
      refine X_icmp_ge rfl (fun c4 => absurd ((n_le hx rfl (by omega) (by omega)).mp c4) (by omega)) (fun c4 => ?_)
      refine X_ld rfl rfl rfl rfl ?_
      refine X_ld rfl rfl rfl rfl ?_
      refine X_ld rfl rfl rfl rfl ?_
      refine X_vcall (r_D hi updR_eq) l_X3_X3_cell (d_cell hG d i hi rfl hy (by omega) (by omega)) rfl rfl rfl rfl (Nat.le_of_ble_eq_true rfl) (Nat.le_of_ble_eq_true rfl) (by omega) (Nat.le_of_ble_eq_true rfl) (Nat.le_of_ble_eq_true rfl) ?_
      refine X_ld rfl rfl rfl rfl ?_
      refine X_ld rfl rfl rfl rfl ?_
      refine X_ld rfl rfl rfl rfl ?_
      refine X_vcall (r_D hi updR_eq) l_X3_X3_cell (d_cell hG d i hi hx hy (by omega) (by omega)) rfl rfl rfl rfl (Nat.le_of_ble_eq_true rfl) (Nat.le_of_ble_eq_true rfl) (by omega) (Nat.le_of_ble_eq_true rfl) (Nat.le_of_ble_eq_true rfl) ?_
      refine X_icmp_ne rfl (fun c19 => ?_) (fun c19 => ?_)
      · refine X_iinc rfl rfl rfl ?_
        refine X_goto rfl ?_
        refine X_loc (L' := [some (.ref (75 + 20 * i)), some (.int x), some (.int y), some (.int (nI (k + 1)))]) ⟨rfl, rfl, rfl, congrArg Value.int (m_inc rfl).symm, trivial⟩ ?_
        exact ih (k + 1) (by omega) (by show (s_new c b a k && !decide (s_val c k b = s_val c a b)) = true; rw [hno, decide_eq_false c19]; rfl)
      · refine X_push (v := .int 0) rfl (by decide +kernel) ?_
        exact X_zret rfl rfl rfl ⟨rfl, congrArg (fun q => some (Value.int (b2 q))) (s_new_f a (k + 1) (by show (s_new c b a k && !decide (s_val c k b = s_val c a b)) = false; rw [decide_eq_true c19, Bool.not_true, Bool.and_false]) (by omega)).symm⟩ (Nat.le_of_ble_eq_true rfl) (Nat.le_of_ble_eq_true rfl)
  refine X_push (v := .int 0) rfl (by decide +kernel) ?_
  refine X_st rfl rfl rfl ?_
  refine X_loc (L' := [some (.ref (75 + 20 * i)), some (.int x), some (.int y), some (.int (nI 0))]) ⟨rfl, rfl, rfl, rfl, trivial⟩ ?_
  refine loop (fun hT => ?_) a 0 (Nat.zero_add _) rfl
  refine X_push (v := .int 1) rfl (by decide +kernel) ?_
  exact X_zret rfl rfl rfl ⟨rfl, by rw [hT]; rfl⟩ (Nat.le_of_ble_eq_true rfl) (Nat.le_of_ble_eq_true rfl)
theorem d_takeStatisticsOf {G : XE} (hG : x_Kn G) {B : XH} {J bf K tk ts : Nat → Int32} {tl : Int64} {tv : Nat → Int64} {su : Nat → Nat} {D : Nat → Nat → Int32} (d : Nat) (i : Nat) (hi : i < 10) {c : Nat → Int32} {y : Int32} {b : Nat} (hy : y = nI b) (hb : b < 5) (q : Nat) (hq : c 1 = nI q) (hq40 : q ≤ 40) : x_M G mX3_takeStatisticsOf (d + 3) 0 0 [.ref (75 + 20 * i), .int y] (cset B J bf K tk ts tl tv su (updR D i c)) (x_RetV (cset B J bf K tk ts tl tv su (updR D i (s_look1 c c q b)))) x_noX := by
  refine X_M hG okX3_takeStatisticsOf rfl (L := [some (.ref (75 + 20 * i)), some (.int y), none, none, none, none, none]) rfl (Nat.le_of_ble_eq_true rfl) (fun ad0 nb0 => ?_)
  have loop : x_W G mX3_takeStatisticsOf (x_Z G (d + 3) 0 0 ad0 nb0 (x_RetV (cset B J bf K tk ts tl tv su (updR D i (s_look1 c c q b)))) x_noX) (cset B J bf K tk ts tl tv su (updR D i c)) 0 0 84 [some (.ref (75 + 20 * i)), some (.int y), some (.int (s_unl c b q)), some (.int (s_ext c b false q)), some (.int (s_ext c b true q)), some (.int (nI q)), none] [] → ∀ (f9 l : Nat), l + f9 = q → x_W G mX3_takeStatisticsOf (x_Z G (d + 3) 0 0 ad0 nb0 (x_RetV (cset B J bf K tk ts tl tv su (updR D i (s_look1 c c q b)))) x_noX) (cset B J bf K tk ts tl tv su (updR D i c)) 0 0 26 [some (.ref (75 + 20 * i)), some (.int y), some (.int (s_unl c b l)), some (.int (s_ext c b false l)), some (.int (s_ext c b true l)), some (.int (nI l)), none] [] := by
    intro K f9
    induction f9 with
    | zero =>
      intro l e0 
      obtain e9 : l = q := by omega
      subst l
      refine X_ld rfl rfl rfl rfl ?_
      refine X_ld rfl rfl rfl rfl ?_
      refine X_get f_X3_37 rfl (r_D hi updR_eq) rfl ?_
      refine X_icmp_ge rfl (fun c32 => ?_) (fun c32 => absurd ((n_le hq rfl (by omega) (by omega)).mpr (by omega)) c32)
      exact K
    | succ f9 ih =>
      intro l e0 
      refine X_ld rfl rfl rfl rfl ?_
      refine X_ld rfl rfl rfl rfl ?_
      refine X_get f_X3_37 rfl (r_D hi updR_eq) rfl ?_
      refine X_icmp_ge rfl (fun c32 => absurd ((n_le hq rfl (by omega) (by omega)).mp c32) (by omega)) (fun c32 => ?_)
      refine X_ld rfl rfl rfl rfl ?_
      refine X_ld rfl rfl rfl rfl ?_
      refine X_ld rfl rfl rfl rfl ?_
      refine X_vcall (r_D hi updR_eq) l_X3_X3_cell (d_cell hG (d + 1) i hi rfl hy (by omega) (by omega)) rfl rfl rfl rfl (Nat.le_of_ble_eq_true rfl) (Nat.le_of_ble_eq_true rfl) (by omega) (Nat.le_of_ble_eq_true rfl) (Nat.le_of_ble_eq_true rfl) ?_
      refine X_st rfl rfl rfl ?_
      refine X_ld rfl rfl rfl rfl ?_
      refine X_ld rfl rfl rfl rfl ?_
      refine X_min lmin_X3 rfl (by omega) (Nat.le_of_ble_eq_true rfl) (Nat.le_of_ble_eq_true rfl) (Nat.le_of_ble_eq_true rfl) ?_
      refine X_st rfl rfl rfl ?_
      refine X_ld rfl rfl rfl rfl ?_
      refine X_ld rfl rfl rfl rfl ?_
      refine X_max lmax_X3 rfl (by omega) (Nat.le_of_ble_eq_true rfl) (Nat.le_of_ble_eq_true rfl) (Nat.le_of_ble_eq_true rfl) ?_
      refine X_st rfl rfl rfl ?_
      refine X_ld rfl rfl rfl rfl ?_
      refine X_ld rfl rfl rfl rfl ?_
      refine X_ld rfl rfl rfl rfl ?_
      refine X_ld rfl rfl rfl rfl ?_
      refine X_vcall (r_D hi updR_eq) l_X3_X3_isFirst (d_isFirst hG d i hi rfl hy (by omega) (by omega)) rfl rfl rfl rfl (Nat.le_of_ble_eq_true rfl) (Nat.le_of_ble_eq_true rfl) (by omega) (Nat.le_of_ble_eq_true rfl) (Nat.le_of_ble_eq_true rfl) ?_
      refine X_if_eq rfl (fun c68 => ?_) (fun c68 => ?_)
      · have h68 : (s_new c b l l) = false := b2_0 c68
        refine X_push (v := .int 0) rfl (by decide +kernel) ?_
        refine X_bin rfl rfl ?_
        refine X_st rfl rfl rfl ?_
        refine X_iinc rfl rfl rfl ?_
        refine X_goto rfl ?_
        refine X_loc (L' := [some (.ref (75 + 20 * i)), some (.int y), some (.int (s_unl c b (l + 1))), some (.int (s_ext c b false (l + 1))), some (.int (s_ext c b true (l + 1))), some (.int (nI (l + 1))), none]) ⟨rfl, rfl, congrArg Value.int (show s_unl c b l + (bif s_new c b l l then 1 else 0) = _ by rw [h68]; rfl), rfl, rfl, congrArg Value.int (m_inc rfl).symm, trivial⟩ ?_
        exact ih (l + 1) (by omega)
      · have h68 : (s_new c b l l) = true := b2_1 c68
        refine X_push (v := .int 1) rfl (by decide +kernel) ?_
        refine X_goto rfl ?_
        refine X_bin rfl rfl ?_
        refine X_st rfl rfl rfl ?_
        refine X_iinc rfl rfl rfl ?_
        refine X_goto rfl ?_
        refine X_loc (L' := [some (.ref (75 + 20 * i)), some (.int y), some (.int (s_unl c b (l + 1))), some (.int (s_ext c b false (l + 1))), some (.int (s_ext c b true (l + 1))), some (.int (nI (l + 1))), none]) ⟨rfl, rfl, congrArg Value.int (show s_unl c b l + (bif s_new c b l l then 1 else 0) = _ by rw [h68]; rfl), rfl, rfl, congrArg Value.int (m_inc rfl).symm, trivial⟩ ?_
        exact ih (l + 1) (by omega)
  refine X_push (v := .int 0) rfl (by decide +kernel) ?_
  refine X_st rfl rfl rfl ?_
  refine X_ld rfl rfl rfl rfl ?_
  refine X_get f_X3_37 rfl (r_D hi updR_eq) rfl ?_
  refine X_if_le rfl (fun c6 => ?_) (fun c6 => ?_)
  · have n6 := (n_le (b := 0) hq (show (0 : Int32) = nI 0 from rfl) (by omega) (by omega)).mp c6
    refine X_push (v := .int 0) rfl (by decide +kernel) ?_
    refine X_st rfl rfl rfl ?_
    refine X_ld rfl rfl rfl rfl ?_
    refine X_st rfl rfl rfl ?_
    refine X_push (v := .int 0) rfl (by decide +kernel) ?_
    refine X_st rfl rfl rfl ?_
    refine X_loc (L' := [some (.ref (75 + 20 * i)), some (.int y), some (.int (s_unl c b 0)), some (.int (s_ext c b false 0)), some (.int (s_ext c b true 0)), some (.int (nI 0)), none]) ⟨rfl, rfl, rfl, congrArg Value.int (show (if c 1 = 0 then (0 : Int32) else s_val c 0 b) = _ from if_pos (by rw [hq, show q = 0 by omega]; rfl)), congrArg Value.int (show (if c 1 = 0 then (0 : Int32) else s_val c 0 b) = _ from if_pos (by rw [hq, show q = 0 by omega]; rfl)), rfl, trivial⟩ ?_
    refine loop ?_ _ 0 (Nat.zero_add _)
    refine X_ld rfl rfl rfl rfl ?_
    refine X_get f_X3_22 rfl (r_D hi updR_eq) rfl ?_
    refine X_get f_X3_93 rfl (r_S hi updR_eq) rfl ?_
    refine X_ld rfl rfl rfl rfl ?_
    refine X_ld rfl rfl rfl rfl ?_
    refine X_4ast hi updR_eq hy (by omega) (k := b) rfl ?_
    refine X_ld rfl rfl rfl rfl ?_
    refine X_get f_X3_22 rfl (r_D hi updR_eq) rfl ?_
    refine X_get f_X3_96 rfl (r_S hi updR_eq) rfl ?_
    refine X_ld rfl rfl rfl rfl ?_
    refine X_ld rfl rfl rfl rfl ?_
    refine X_5ast hi updR_eq hy (by omega) (k := b) rfl ?_
    refine X_ld rfl rfl rfl rfl ?_
    refine X_get f_X3_22 rfl (r_D hi updR_eq) rfl ?_
    refine X_get f_X3_99 rfl (r_S hi updR_eq) rfl ?_
    refine X_ld rfl rfl rfl rfl ?_
    refine X_ld rfl rfl rfl rfl ?_
    refine X_6ast hi updR_eq hy (by omega) (k := b) rfl ?_
    exact X_vret rfl rfl ⟨by unfold s_look1; simp only [updR_updR], rfl⟩ (Nat.le_of_ble_eq_true rfl) (Nat.le_of_ble_eq_true rfl)
  · have n6 := mt (n_le (b := 0) hq (show (0 : Int32) = nI 0 from rfl) (by omega) (by omega)).mpr c6
    refine X_ld rfl rfl rfl rfl ?_
    refine X_push (v := .int 0) rfl (by decide +kernel) ?_
    refine X_ld rfl rfl rfl rfl ?_
    refine X_vcall (r_D hi updR_eq) l_X3_X3_cell (d_cell hG (d + 1) i hi (show (0 : Int32) = nI 0 from rfl) hy (by omega) (by omega)) rfl rfl rfl rfl (Nat.le_of_ble_eq_true rfl) (Nat.le_of_ble_eq_true rfl) (by omega) (Nat.le_of_ble_eq_true rfl) (Nat.le_of_ble_eq_true rfl) ?_
    refine X_goto rfl ?_
    refine X_st rfl rfl rfl ?_
    refine X_ld rfl rfl rfl rfl ?_
    refine X_st rfl rfl rfl ?_
    refine X_push (v := .int 0) rfl (by decide +kernel) ?_
    refine X_st rfl rfl rfl ?_
    refine X_loc (L' := [some (.ref (75 + 20 * i)), some (.int y), some (.int (s_unl c b 0)), some (.int (s_ext c b false 0)), some (.int (s_ext c b true 0)), some (.int (nI 0)), none]) ⟨rfl, rfl, rfl, congrArg Value.int (show (if c 1 = 0 then (0 : Int32) else s_val c 0 b) = _ from if_neg (fun h => n6 (by rw [hq] at h; have := (nI_eq (by omega) (by omega)).mp (h.trans (show (0 : Int32) = nI 0 from rfl)); omega))), congrArg Value.int (show (if c 1 = 0 then (0 : Int32) else s_val c 0 b) = _ from if_neg (fun h => n6 (by rw [hq] at h; have := (nI_eq (by omega) (by omega)).mp (h.trans (show (0 : Int32) = nI 0 from rfl)); omega))), rfl, trivial⟩ ?_
    refine loop ?_ _ 0 (Nat.zero_add _)
    refine X_ld rfl rfl rfl rfl ?_
    refine X_get f_X3_22 rfl (r_D hi updR_eq) rfl ?_
    refine X_get f_X3_93 rfl (r_S hi updR_eq) rfl ?_
    refine X_ld rfl rfl rfl rfl ?_
    refine X_ld rfl rfl rfl rfl ?_
    refine X_4ast hi updR_eq hy (by omega) (k := b) rfl ?_
    refine X_ld rfl rfl rfl rfl ?_
    refine X_get f_X3_22 rfl (r_D hi updR_eq) rfl ?_
    refine X_get f_X3_96 rfl (r_S hi updR_eq) rfl ?_
    refine X_ld rfl rfl rfl rfl ?_
    refine X_ld rfl rfl rfl rfl ?_
    refine X_5ast hi updR_eq hy (by omega) (k := b) rfl ?_
    refine X_ld rfl rfl rfl rfl ?_
    refine X_get f_X3_22 rfl (r_D hi updR_eq) rfl ?_
    refine X_get f_X3_99 rfl (r_S hi updR_eq) rfl ?_
    refine X_ld rfl rfl rfl rfl ?_
    refine X_ld rfl rfl rfl rfl ?_
    refine X_6ast hi updR_eq hy (by omega) (k := b) rfl ?_
    exact X_vret rfl rfl ⟨by unfold s_look1; simp only [updR_updR], rfl⟩ (Nat.le_of_ble_eq_true rfl) (Nat.le_of_ble_eq_true rfl)

