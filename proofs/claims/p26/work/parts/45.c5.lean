/-! ===== the class: Data and Usage, the small methods (3) ===== -/
/-- a name outside the class's own cells -/
def s_out (k : Nat) : Prop := ¬ (64 ≤ k ∧ k ≤ 70) ∧ ¬ (75 ≤ k ∧ k ≤ 274)
/-- a Setup's object: the names of its rows and list, its numbers -/
def stV (a1 a2 a3 : Nat) (e : Nat → Int32) : Nat → Value := fun k => match k with
  | 0 => .int (e 0)
  | 1 => .ref a1
  | 2 => .ref a2
  | 3 => .ref a3
  | 4 => .int (e 4)
  | 5 => .int (e 5)
  | 6 => .int (e 6)
  | _ => .int (e 7)
theorem c_B {B : XH} {J bf K tk ts : Nat → Int32} {tl : Int64} {tv : Nat → Int64} {su : Nat → Nat} {D : Nat → Nat → Int32} {k : Nat} {z : XC} (h : s_out k) (hz : B k = some z) : cset B J bf K tk ts tl tv su D k = some z := (c_out h.1 h.2).trans hz
theorem s_look1_ag {c c' : Nat → Int32} (h : s_agV c c') {q j : Nat} {e : Nat → Int32} : s_look1 c' e q j = s_look1 c e q j := by
  unfold s_look1
  rw [h.unl q, h.ext q, h.ext q]
theorem d_takeStatistics {G : XE} (hG : x_Kn G) {B : XH} {J bf K tk ts : Nat → Int32} {tl : Int64} {tv : Nat → Int64} {su : Nat → Nat} {D : Nat → Nat → Int32} (d : Nat) (i : Nat) (hi : i < 10) {c : Nat → Int32} {a1 a2 a3 : Nat} {e : Nat → Int32} (hso : s_out (su i)) (hsu : B (su i) = some (.inl (5, stV a1 a2 a3 e))) (m : Nat) (hm : e 0 = nI m) (hm5 : m ≤ 5) (q : Nat) (hq : c 1 = nI q) (hq40 : q ≤ 40) : x_M G mX3_takeStatistics (d + 4) 0 0 [.ref (75 + 20 * i)] (cset B J bf K tk ts tl tv su (updR D i c)) (x_RetV (cset B J bf K tk ts tl tv su (updR D i (s_look c q m)))) x_noX := by
  refine X_M hG okX3_takeStatistics rfl (L := [some (.ref (75 + 20 * i)), none]) rfl (Nat.le_of_ble_eq_true rfl) (fun ad0 nb0 => ?_)
  have loop : x_W G mX3_takeStatistics (x_Z G (d + 4) 0 0 ad0 nb0 (x_RetV (cset B J bf K tk ts tl tv su (updR D i (s_look c q m)))) x_noX) (cset B J bf K tk ts tl tv su (updR D i (s_look c q m))) 0 0 35 [some (.ref (75 + 20 * i)), some (.int (nI m))] [] → ∀ (f9 k : Nat), k + f9 = m → x_W G mX3_takeStatistics (x_Z G (d + 4) 0 0 ad0 nb0 (x_RetV (cset B J bf K tk ts tl tv su (updR D i (s_look c q m)))) x_noX) (cset B J bf K tk ts tl tv su (updR D i (s_look c q k))) 0 0 13 [some (.ref (75 + 20 * i)), some (.int (nI k))] [] := by
    intro Kz f9
    induction f9 with
    | zero =>
      intro k e0 
      obtain e9 : k = m := by omega
      subst k
      refine X_ld rfl rfl rfl rfl ?_
      refine X_ld rfl rfl rfl rfl ?_
      refine X_get f_X3_32 rfl (r_D hi updR_eq) rfl ?_
      refine X_get f_X3_73 rfl (c_B hso hsu) rfl ?_
      refine X_icmp_ge rfl (fun c21 => ?_) (fun c21 => absurd ((n_le hm rfl (by omega) (by omega)).mpr (by omega)) c21)
      exact Kz
    | succ f9 ih =>
      intro k e0 
      have hq1 : s_look c q k 1 = nI q := (s_look_ag k (by omega) 1 (Or.inl (by omega))).symm.trans hq
      refine X_ld rfl rfl rfl rfl ?_
      refine X_ld rfl rfl rfl rfl ?_
      refine X_get f_X3_32 rfl (r_D hi updR_eq) rfl ?_
      refine X_get f_X3_73 rfl (c_B hso hsu) rfl ?_
      refine X_icmp_ge rfl (fun c21 => absurd ((n_le hm rfl (by omega) (by omega)).mp c21) (by omega)) (fun c21 => ?_)
      refine X_ld rfl rfl rfl rfl ?_
      refine X_ld rfl rfl rfl rfl ?_
      refine X_vcallv (r_D hi updR_eq) l_X3_X3_takeStatisticsOf (d_takeStatisticsOf hG d i hi rfl (by omega) q hq1 hq40) rfl rfl rfl rfl (Nat.le_of_ble_eq_true rfl) (Nat.le_of_ble_eq_true rfl) (by omega) (Nat.le_of_ble_eq_true rfl) (Nat.le_of_ble_eq_true rfl) ?_
      refine X_iinc rfl rfl rfl ?_
      refine X_goto rfl ?_
      refine X_heap (N' := cset B J bf K tk ts tl tv su (updR D i (s_look c q (k + 1)))) (by rw [show s_look c q (k + 1) = s_look1 c (s_look c q k) q k from rfl, s_look1_ag (s_look_ag k (by omega))]) ?_
      refine X_loc (L' := [some (.ref (75 + 20 * i)), some (.int (nI (k + 1)))]) ⟨rfl, congrArg Value.int (m_inc rfl).symm, trivial⟩ ?_
      exact ih (k + 1) (by omega)
  refine X_ld rfl rfl rfl rfl ?_
  refine X_get f_X3_22 rfl (r_D hi updR_eq) rfl ?_
  refine X_ld rfl rfl rfl rfl ?_
  refine X_get f_X3_37 rfl (r_D hi updR_eq) rfl ?_
  refine X_put f_X3_72 rfl (r_S hi updR_eq) ⟨rfl, rfl⟩ ?_
  refine X_heap (w_S hi) ?_
  refine X_push (v := .int 0) rfl (by decide +kernel) ?_
  refine X_st rfl rfl rfl ?_
  refine X_heap (N' := cset B J bf K tk ts tl tv su (updR D i (s_look c q 0))) (by rw [show upd c 8 (c 1) = s_look c q 0 from rfl]) ?_
  refine X_loc (L' := [some (.ref (75 + 20 * i)), some (.int (nI 0))]) ⟨rfl, rfl, trivial⟩ ?_
  refine loop ?_ _ 0 (Nat.zero_add _)
  exact X_vret rfl rfl ⟨rfl, rfl⟩ (Nat.le_of_ble_eq_true rfl) (Nat.le_of_ble_eq_true rfl)
/-- rows from a on take the next one's values: k of them, and b values of one more -/
def s_rmv (c : Nat → Int32) (a : Nat) : Nat → Nat → Int32
  | 0 => c
  | n + 1 => upd (s_rmv c a n) (a + n) (s_rmv c a n (a + n + 5))
theorem s_rmv_shift {c : Nat → Int32} {a : Nat} : ∀ n, s_rmv c a n = s_shift c a n
  | 0 => s_shift_0.symm
  | n + 1 => by
    show upd (s_rmv c a n) (a + n) (s_rmv c a n (a + n + 5)) = _
    rw [s_rmv_shift n, s_shift_1]
theorem s_rmv_ne {c : Nat → Int32} {a j : Nat} (hj : j < a) : ∀ n, s_rmv c a n j = c j
  | 0 => rfl
  | n + 1 => by
    show upd (s_rmv c a n) (a + n) (s_rmv c a n (a + n + 5)) j = c j
    rw [updI_ne (by omega)]
    exact s_rmv_ne hj n
theorem d_removeRow {G : XE} (hG : x_Kn G) {B : XH} {J bf K tk ts : Nat → Int32} {tl : Int64} {tv : Nat → Int64} {su : Nat → Nat} {D : Nat → Nat → Int32} (d : Nat) (i : Nat) (hi : i < 10) {c : Nat → Int32} {x : Int32} {a q : Nat} (hx : x = nI a) (hq : c 1 = nI q) (ha : a < q) (hq40 : q ≤ 40) : x_M G mX3_removeRow (d + 3) 0 0 [.ref (75 + 20 * i), .int x] (cset B J bf K tk ts tl tv su (updR D i c)) (x_RetV (cset B J bf K tk ts tl tv su (updR D i (upd (s_rmv c (75 + 5 * a) (5 * (q - 1 - a))) 1 (nI (q - 1)))))) x_noX := by
  refine X_M hG okX3_removeRow rfl (L := [some (.ref (75 + 20 * i)), some (.int x), none, none]) rfl (Nat.le_of_ble_eq_true rfl) (fun ad0 nb0 => ?_)
  have inner : ∀ (t : Nat) (_ : a + t + 1 < q), x_W G mX3_removeRow (x_Z G (d + 3) 0 0 ad0 nb0 (x_RetV (cset B J bf K tk ts tl tv su (updR D i (upd (s_rmv c (75 + 5 * a) (5 * (q - 1 - a))) 1 (nI (q - 1)))))) x_noX) (cset B J bf K tk ts tl tv su (updR D i (s_rmv c (75 + 5 * a) (5 * t + 5)))) 0 0 39 [some (.ref (75 + 20 * i)), some (.int x), some (.int (nI (a + t))), some (.int (nI 5))] [] → ∀ (f9 b : Nat), b + f9 = 5 → x_W G mX3_removeRow (x_Z G (d + 3) 0 0 ad0 nb0 (x_RetV (cset B J bf K tk ts tl tv su (updR D i (upd (s_rmv c (75 + 5 * a) (5 * (q - 1 - a))) 1 (nI (q - 1)))))) x_noX) (cset B J bf K tk ts tl tv su (updR D i (s_rmv c (75 + 5 * a) (5 * t + b)))) 0 0 14 [some (.ref (75 + 20 * i)), some (.int x), some (.int (nI (a + t))), some (.int (nI b))] [] := by
    intro t ht Kz f9
    induction f9 with
    | zero =>
      intro b e0 
      obtain rfl : b = 5 := by omega
      refine X_ld rfl rfl rfl rfl ?_
      refine X_push (v := .int 5) rfl (by decide +kernel) ?_
      refine X_icmp_ge rfl (fun c16 => ?_) (fun c16 => absurd ((n_le (a := 5) (show (5 : Int32) = nI 5 from rfl) rfl (by omega) (by omega)).mpr (by omega)) c16)
      exact Kz
    | succ f9 ih =>
      intro b e0 
      refine X_ld rfl rfl rfl rfl ?_
      refine X_push (v := .int 5) rfl (by decide +kernel) ?_
      refine X_icmp_ge rfl (fun c16 => absurd ((n_le (a := 5) (show (5 : Int32) = nI 5 from rfl) rfl (by omega) (by omega)).mp c16) (by omega)) (fun c16 => ?_)
      refine X_ld rfl rfl rfl rfl ?_
      refine X_ld rfl rfl rfl rfl ?_
      refine X_ld rfl rfl rfl rfl ?_
      refine X_ld rfl rfl rfl rfl ?_
      refine X_ld rfl rfl rfl rfl ?_
      refine X_push (v := .int 1) rfl (by decide +kernel) ?_
      refine X_bin rfl rfl ?_
      refine X_ld rfl rfl rfl rfl ?_
      refine X_vcall (r_D hi updR_eq) l_X3_X3_cell (d_cell hG (d + 1) i hi (m_add rfl (show (1 : Int32) = nI 1 from rfl)) rfl (by omega) (by omega)) rfl rfl rfl rfl (Nat.le_of_ble_eq_true rfl) (Nat.le_of_ble_eq_true rfl) (by omega) (Nat.le_of_ble_eq_true rfl) (Nat.le_of_ble_eq_true rfl) ?_
      refine X_vcallv (r_D hi updR_eq) l_X3_X3_putCell (d_putCell hG (d + 1) i hi rfl rfl (by omega) (by omega)) rfl rfl rfl rfl (Nat.le_of_ble_eq_true rfl) (Nat.le_of_ble_eq_true rfl) (by omega) (Nat.le_of_ble_eq_true rfl) (Nat.le_of_ble_eq_true rfl) ?_
      refine X_iinc rfl rfl rfl ?_
      refine X_goto rfl ?_
      refine X_heap (N' := cset B J bf K tk ts tl tv su (updR D i (s_rmv c (75 + 5 * a) (5 * t + (b + 1))))) (by rw [show 75 + 5 * (a + t) + b = 75 + 5 * a + (5 * t + b) by omega, show s_val (s_rmv c (75 + 5 * a) (5 * t + b)) (a + t + 1) b = s_rmv c (75 + 5 * a) (5 * t + b) (75 + 5 * a + (5 * t + b) + 5) from congrArg (s_rmv c (75 + 5 * a) (5 * t + b)) (by omega)]; rfl) ?_
      refine X_loc (L' := [some (.ref (75 + 20 * i)), some (.int x), some (.int (nI (a + t))), some (.int (nI (b + 1)))]) ⟨rfl, rfl, rfl, congrArg Value.int (m_inc rfl).symm, trivial⟩ ?_
      exact ih (b + 1) (by omega)
  have loop : x_W G mX3_removeRow (x_Z G (d + 3) 0 0 ad0 nb0 (x_RetV (cset B J bf K tk ts tl tv su (updR D i (upd (s_rmv c (75 + 5 * a) (5 * (q - 1 - a))) 1 (nI (q - 1)))))) x_noX) (cset B J bf K tk ts tl tv su (updR D i (s_rmv c (75 + 5 * a) (5 * (q - 1 - a))))) 0 0 45 [some (.ref (75 + 20 * i)), some (.int x), some (.int (nI (a + (q - 1 - a)))), none] [] → ∀ (f9 t : Nat), t + f9 = (q - 1 - a) → x_W G mX3_removeRow (x_Z G (d + 3) 0 0 ad0 nb0 (x_RetV (cset B J bf K tk ts tl tv su (updR D i (upd (s_rmv c (75 + 5 * a) (5 * (q - 1 - a))) 1 (nI (q - 1)))))) x_noX) (cset B J bf K tk ts tl tv su (updR D i (s_rmv c (75 + 5 * a) (5 * t)))) 0 0 2 [some (.ref (75 + 20 * i)), some (.int x), some (.int (nI (a + t))), none] [] := by
    intro Kz f9
    induction f9 with
    | zero =>
      intro t e0 
      obtain rfl : t = (q - 1 - a) := by omega
      refine X_ld rfl rfl rfl rfl ?_
      refine X_ld rfl rfl rfl rfl ?_
      refine X_get f_X3_37 rfl (r_D hi updR_eq) rfl ?_
      refine X_push (v := .int 1) rfl (by decide +kernel) ?_
      refine X_bin rfl rfl ?_
      refine X_icmp_ge rfl (fun c9 => ?_) (fun c9 => absurd ((n_le (m_subc (b := 1) (by omega) ((s_rmv_ne (by omega) _).trans hq)) rfl (by omega) (by omega)).mpr (by omega)) c9)
      exact Kz
    | succ f9 ih =>
      intro t e0 
      refine X_ld rfl rfl rfl rfl ?_
      refine X_ld rfl rfl rfl rfl ?_
      refine X_get f_X3_37 rfl (r_D hi updR_eq) rfl ?_
      refine X_push (v := .int 1) rfl (by decide +kernel) ?_
      refine X_bin rfl rfl ?_
      refine X_icmp_ge rfl (fun c9 => absurd ((n_le (m_subc (b := 1) (by omega) ((s_rmv_ne (by omega) _).trans hq)) rfl (by omega) (by omega)).mp c9) (by omega)) (fun c9 => ?_)
      refine X_push (v := .int 0) rfl (by decide +kernel) ?_
      refine X_st rfl rfl rfl ?_
      refine X_heap (N' := cset B J bf K tk ts tl tv su (updR D i (s_rmv c (75 + 5 * a) (5 * t + 0)))) rfl ?_
      refine X_loc (L' := [some (.ref (75 + 20 * i)), some (.int x), some (.int (nI (a + t))), some (.int (nI 0))]) ⟨rfl, rfl, rfl, rfl, trivial⟩ ?_
      refine inner t (by omega) ?_ _ 0 (Nat.zero_add _)
      refine X_iinc rfl rfl rfl ?_
      refine X_goto rfl ?_
      refine X_heap (N' := cset B J bf K tk ts tl tv su (updR D i (s_rmv c (75 + 5 * a) (5 * (t + 1))))) (by rw [show 5 * t + 5 = 5 * (t + 1) by omega]) ?_
      refine X_loc (L' := [some (.ref (75 + 20 * i)), some (.int x), some (.int (nI (a + (t + 1)))), none]) ⟨rfl, rfl, (congrArg Value.int (m_inc rfl)).symm, trivial⟩ ?_
      exact ih (t + 1) (by omega)
  refine X_ld rfl rfl rfl rfl ?_
  refine X_st rfl rfl rfl ?_
  refine X_heap (N' := cset B J bf K tk ts tl tv su (updR D i (s_rmv c (75 + 5 * a) (5 * 0)))) rfl ?_
  refine X_loc (L' := [some (.ref (75 + 20 * i)), some (.int x), some (.int (nI (a + 0))), none]) ⟨rfl, rfl, congrArg Value.int hx.symm, trivial⟩ ?_
  refine loop ?_ _ 0 (Nat.zero_add _)
  refine X_ld rfl rfl rfl rfl ?_
  refine X_dup rfl rfl ?_
  refine X_get f_X3_37 rfl (r_D hi updR_eq) rfl ?_
  refine X_push (v := .int 1) rfl (by decide +kernel) ?_
  refine X_bin rfl rfl ?_
  refine X_put f_X3_37 rfl (r_D hi updR_eq) ⟨rfl, rfl⟩ ?_
  refine X_heap (w_D1 hi) ?_
  exact X_vret rfl rfl ⟨by rw [show s_rmv c (75 + 5 * a) (5 * (q - 1 - a)) 1 - 1 = nI (q - 1) from m_subc (b := 1) (by omega) ((s_rmv_ne (by omega) _).trans hq)], rfl⟩ (Nat.le_of_ble_eq_true rfl) (Nat.le_of_ble_eq_true rfl)
theorem u_keepsFreshPlan {G : XE} (hG : x_Kn G) {B : XH} {J bf K tk ts : Nat → Int32} {tl : Int64} {tv : Nat → Int64} {su : Nat → Nat} {D : Nat → Nat → Int32} (d : Nat) (i : Nat) (hi : i < 10) {c : Nat → Int32} (s : Nat) (hs : s < 6) {v : Int32} : x_M G mX9_keepsFreshPlan d 0 0 [.ref (75 + 20 * i + (8 + 2 * s)), .int v] (cset B J bf K tk ts tl tv su (updR D i c)) (x_Ret (cset B J bf K tk ts tl tv su (updR D i c)) (.int (bI (¬ s_st c s 14 = -2 ∧ s_st c s 16 = v)))) x_noX := by
  refine X_M hG okX9_keepsFreshPlan rfl (L := [some (.ref (75 + 20 * i + (8 + 2 * s))), some (.int v)]) rfl (Nat.le_of_ble_eq_true rfl) (fun ad0 nb0 => ?_)
  refine X_ld rfl rfl rfl rfl ?_
  refine X_get f_X9_9 rfl (r_u hi hs updR_eq) rfl ?_
  refine X_push (v := .int (-2)) rfl (by decide +kernel) ?_
  refine X_icmp_eq rfl (fun c6 => ?_) (fun c6 => ?_)
  · refine X_push (v := .int 0) rfl (by decide +kernel) ?_
    exact X_zret rfl rfl rfl ⟨rfl, by rw [bI_f (fun q => q.1 c6)]⟩ (Nat.le_of_ble_eq_true rfl) (Nat.le_of_ble_eq_true rfl)
  · refine X_ld rfl rfl rfl rfl ?_
    refine X_get f_X9_34 rfl (r_u hi hs updR_eq) rfl ?_
    refine X_ld rfl rfl rfl rfl ?_
    refine X_icmp_ne rfl (fun c14 => ?_) (fun c14 => ?_)
    · refine X_push (v := .int 0) rfl (by decide +kernel) ?_
      exact X_zret rfl rfl rfl ⟨rfl, by rw [bI_f (fun q => c14 q.2)]⟩ (Nat.le_of_ble_eq_true rfl) (Nat.le_of_ble_eq_true rfl)
    · refine X_push (v := .int 1) rfl (by decide +kernel) ?_
      refine X_goto rfl ?_
      exact X_zret rfl rfl rfl ⟨rfl, by rw [bI_t ⟨c6, c14⟩]⟩ (Nat.le_of_ble_eq_true rfl) (Nat.le_of_ble_eq_true rfl)
theorem u_prefersKeptPlan {G : XE} (hG : x_Kn G) {B : XH} {J bf K tk ts : Nat → Int32} {tl : Int64} {tv : Nat → Int64} {su : Nat → Nat} {D : Nat → Nat → Int32} (d : Nat) (i : Nat) (hi : i < 10) {c : Nat → Int32} (s : Nat) (hs : s < 6) : x_M G mX9_prefersKeptPlan d 0 0 [.ref (75 + 20 * i + (8 + 2 * s))] (cset B J bf K tk ts tl tv su (updR D i c)) (x_Ret (cset B J bf K tk ts tl tv su (updR D i c)) (.int (bI (s_st c s 15 * s_st c s 9 ≤ s_st c s 10)))) x_noX := by
  refine X_M hG okX9_prefersKeptPlan rfl (L := [some (.ref (75 + 20 * i + (8 + 2 * s)))]) rfl (Nat.le_of_ble_eq_true rfl) (fun ad0 nb0 => ?_)
  refine X_ld rfl rfl rfl rfl ?_
  refine X_get f_X9_31 rfl (r_u hi hs updR_eq) rfl ?_
  refine X_ld rfl rfl rfl rfl ?_
  refine X_get f_X9_22 rfl (r_u hi hs updR_eq) rfl ?_
  refine X_bin rfl rfl ?_
  refine X_ld rfl rfl rfl rfl ?_
  refine X_get f_X9_25 rfl (r_u hi hs updR_eq) rfl ?_
  refine X_icmp_gt rfl (fun c13 => ?_) (fun c13 => ?_)
  · refine X_push (v := .int 0) rfl (by decide +kernel) ?_
    exact X_zret rfl rfl rfl ⟨rfl, by rw [bI_f (Int32.not_le.mpr c13)]⟩ (Nat.le_of_ble_eq_true rfl) (Nat.le_of_ble_eq_true rfl)
  · refine X_push (v := .int 1) rfl (by decide +kernel) ?_
    refine X_goto rfl ?_
    exact X_zret rfl rfl rfl ⟨rfl, by rw [bI_t (Int32.not_lt.mp c13)]⟩ (Nat.le_of_ble_eq_true rfl) (Nat.le_of_ble_eq_true rfl)
def s_kept (c : Nat → Int32) (s : Nat) (p v w : Int32) : Nat → Int32 := upd (upd (upd (upd c (275 + 30 * s + 14) p) (275 + 30 * s + 15) v) (275 + 30 * s + 16) w) (275 + 30 * s + 11) (c (275 + 30 * s + 11) + 1)
theorem u_keep {G : XE} (hG : x_Kn G) {B : XH} {J bf K tk ts : Nat → Int32} {tl : Int64} {tv : Nat → Int64} {su : Nat → Nat} {D : Nat → Nat → Int32} (d : Nat) (i : Nat) (hi : i < 10) {c : Nat → Int32} (s : Nat) (hs : s < 6) {p v w : Int32} : x_M G mX9_keep d 0 0 [.ref (75 + 20 * i + (8 + 2 * s)), .int p, .int v, .int w] (cset B J bf K tk ts tl tv su (updR D i c)) (x_RetV (cset B J bf K tk ts tl tv su (updR D i (s_kept c s p v w)))) x_noX := by
  refine X_M hG okX9_keep rfl (L := [some (.ref (75 + 20 * i + (8 + 2 * s))), some (.int p), some (.int v), some (.int w)]) rfl (Nat.le_of_ble_eq_true rfl) (fun ad0 nb0 => ?_)
  refine X_ld rfl rfl rfl rfl ?_
  refine X_ld rfl rfl rfl rfl ?_
  refine X_put f_X9_9 rfl (r_u hi hs updR_eq) ⟨rfl, rfl⟩ ?_
  refine X_heap (N' := cset B J bf K tk ts tl tv su (updR D i (upd c (275 + 30 * s + 14) p))) (w_u (k := 4) hi hs (by decide)) ?_
  refine X_ld rfl rfl rfl rfl ?_
  refine X_ld rfl rfl rfl rfl ?_
  refine X_put f_X9_31 rfl (r_u hi hs updR_eq) ⟨rfl, rfl⟩ ?_
  refine X_heap (N' := cset B J bf K tk ts tl tv su (updR D i (upd (upd c (275 + 30 * s + 14) p) (275 + 30 * s + 15) v))) (w_u (k := 5) hi hs (by decide)) ?_
  refine X_ld rfl rfl rfl rfl ?_
  refine X_ld rfl rfl rfl rfl ?_
  refine X_put f_X9_34 rfl (r_u hi hs updR_eq) ⟨rfl, rfl⟩ ?_
  refine X_heap (N' := cset B J bf K tk ts tl tv su (updR D i (upd (upd (upd c (275 + 30 * s + 14) p) (275 + 30 * s + 15) v) (275 + 30 * s + 16) w))) (w_u (k := 6) hi hs (by decide)) ?_
  refine X_ld rfl rfl rfl rfl ?_
  refine X_dup rfl rfl ?_
  refine X_get f_X9_28 rfl (r_u hi hs updR_eq) rfl ?_
  refine X_push (v := .int 1) rfl (by decide +kernel) ?_
  refine X_bin rfl rfl ?_
  refine X_put f_X9_28 rfl (r_u hi hs updR_eq) ⟨rfl, rfl⟩ ?_
  refine X_heap (N' := cset B J bf K tk ts tl tv su (updR D i (upd (upd (upd (upd c (275 + 30 * s + 14) p) (275 + 30 * s + 15) v) (275 + 30 * s + 16) w) (275 + 30 * s + 11) (((upd (upd (upd c (275 + 30 * s + 14) p) (275 + 30 * s + 15) v) (275 + 30 * s + 16) w) (275 + 30 * s + 11)) + 1)))) (w_u (k := 3) hi hs (by decide)) ?_
  exact X_vret rfl rfl ⟨by unfold s_kept; rw [updI_ne (show 275 + 30 * s + 11 ≠ 275 + 30 * s + 16 by omega), updI_ne (show 275 + 30 * s + 11 ≠ 275 + 30 * s + 15 by omega), updI_ne (show 275 + 30 * s + 11 ≠ 275 + 30 * s + 14 by omega)], rfl⟩ (Nat.le_of_ble_eq_true rfl) (Nat.le_of_ble_eq_true rfl)

