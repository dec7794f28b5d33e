/-! ===== the constructors over any names (wip/p26/gen_f3.py) ===== -/
def wV (u su : Nat) : Nat → Value := updV (updV (updV (updV (updV (y_dfl tyX3) 3 (.ref (u + 1))) 4 (.ref (u + 2))) 5 (.ref (u + 3))) 6 (.ref (u + 7))) 0 (.ref su)
def wE (u su s : Nat) : List XC := [.inl (3, wV u su), .inr (true, .int, 200, fun _ => .int 0), .inr (true, .boolean, 5, fun _ => .int 0), .inl (7, zS (u + 3)), .inr (true, .int, 5, fun _ => .int 0), .inr (true, .int, 5, fun _ => .int 0), .inr (true, .int, 5, fun _ => .int 0), .inr (true, .object "PreparedPlans$Usage", 6, fun j => if j < s then .ref (u + (8 + 2 * j)) else .null)]
def wUs (u : Nat) : Nat → List XC
  | 0 => []
  | s + 1 => wUs u s ++ [.inl (9, zU (u + (8 + 2 * s))), .inr (true, .int, 5, fun _ => .int 0)]
theorem wUs_len {u : Nat} : ∀ s, (wUs u s).length = 2 * s
  | 0 => rfl
  | s + 1 => by
    show (wUs u s ++ [_, _]).length = _
    rw [List.length_append, wUs_len s]
    show 2 * s + 2 = _
    omega
theorem wUs_get {u s : Nat} : (wUs u (s + 1))[2 * s]? = some (.inl (9, zU (u + (8 + 2 * s)))) := by
  show (wUs u s ++ [_, _])[2 * s]? = _
  rw [List.getElem?_append_right (by rw [wUs_len]; omega), wUs_len, Nat.sub_self]
  rfl
theorem wE_1 {u s : Nat} : updV (fun j => if j < s then Value.ref (u + (8 + 2 * j)) else .null) s (.ref (u + (8 + 2 * s))) = fun j => if j < s + 1 then Value.ref (u + (8 + 2 * j)) else .null := by
  funext j
  unfold updV
  by_cases h : j = s
  · subst h
    rw [if_pos rfl, if_pos (Nat.lt_succ_self j)]
  · rw [if_neg h]
    show (if j < s then Value.ref (u + (8 + 2 * j)) else .null) = _
    by_cases h2 : j < s
    · rw [if_pos h2, if_pos (by omega)]
    · rw [if_neg h2, if_neg (by omega)]
theorem w_X3 {G : XE} (hG : x_Kn G) {N : XH} (d : Nat) (u su : Nat) (ha : 64 ≤ u) : x_M G mX3_init (d + 2) 19 314 [.ref u, .ref su] (k_at N u [.inl (3, y_dfl tyX3)]) (x_RetV (k_at N u (wE u su 6 ++ wUs u 6))) x_noX := by
  refine X_M hG okX3_init rfl (L := [some (.ref u), some (.ref su), none]) rfl (Nat.le_of_ble_eq_true rfl) (fun ad0 nb0 => ?_)
  refine X_ld rfl rfl rfl rfl ?_
  refine X_obj (x_in 214 (by decide +kernel) rfl) (x_in 93 (by decide +kernel) rfl) (x_in 94 (by decide +kernel) rfl) rfl (by show 1 ≤ d + _; omega) (by show _ ≤ 100 * (d + _); simp; omega) ?_
  refine X_ld rfl rfl rfl rfl ?_
  refine X_push (v := .int 200) rfl (by decide +kernel) ?_
  refine X_newaK 200 rfl rfl (List.mem_of_getElem? (i := 0) rfl) (x_in 131 (by decide +kernel) rfl) (by decide) (by decide +kernel) (by decide) (Nat.le_of_ble_eq_true rfl) (Nat.le_of_ble_eq_true rfl) (Z_new ha (u + 1) rfl ?_)
  refine Z_putF (j := 0) ha f_X3_9 rfl rfl ⟨rfl, rfl⟩ rfl (fun C T n h => by cases h; rfl) ?_
  refine X_ld rfl rfl rfl rfl ?_
  refine X_push (v := .int 5) rfl (by decide +kernel) ?_
  refine X_newaK 5 rfl rfl (List.mem_of_getElem? (i := 3) rfl) (x_in 242 (by decide +kernel) rfl) (by decide) (by decide +kernel) (by decide) (Nat.le_of_ble_eq_true rfl) (Nat.le_of_ble_eq_true rfl) (Z_new ha (u + 2) rfl ?_)
  refine Z_putF (j := 0) ha f_X3_15 rfl rfl ⟨rfl, rfl⟩ rfl (fun C T n h => by cases h; rfl) ?_
  refine X_ld rfl rfl rfl rfl ?_
  refine X_newK n_X3_19 rfl (Nat.le_of_ble_eq_true rfl) (Nat.le_of_ble_eq_true rfl) (Z_new ha (u + 3) rfl ?_)
  refine X_dup rfl rfl ?_
  refine X_heap (z_app ha (f := u + 3) rfl) ?_
  refine X_icallNv l_X3_X7_init (z_X7 hG d (a := u + 3) (by omega)) rfl rfl rfl (Nat.le_of_ble_eq_true rfl) (Nat.le_of_ble_eq_true rfl) (by omega) (Nat.le_of_ble_eq_true rfl) (Nat.le_of_ble_eq_true rfl) ?_
  refine X_heap (z_app ha rfl).symm ?_
  refine Z_putF (j := 0) ha f_X3_22 rfl rfl ⟨rfl, rfl⟩ rfl (fun C T n h => by cases h; rfl) ?_
  refine X_ld rfl rfl rfl rfl ?_
  refine X_push (v := .int 6) rfl (by decide +kernel) ?_
  refine X_anewK 6 rfl (List.mem_of_getElem? (i := 5) rfl) (x_in 243 (by decide +kernel) rfl) (List.mem_of_getElem? (i := 244) (by decide +kernel)) (by decide) (by decide +kernel) (by decide) (Nat.le_of_ble_eq_true rfl) (Nat.le_of_ble_eq_true rfl) (Z_new ha (u + 7) rfl ?_)
  refine Z_putF (j := 0) ha f_X3_28 rfl rfl ⟨rfl, rfl⟩ rfl (fun C T n h => by cases h; rfl) ?_
  refine X_ld rfl rfl rfl rfl ?_
  refine X_ld rfl rfl rfl rfl ?_
  refine Z_put (j := 0) ha f_X3_32 rfl rfl ⟨rfl, rfl⟩ ?_
  refine X_push (v := .int 0) rfl (by decide +kernel) ?_
  refine X_st rfl rfl rfl ?_
  refine X_alz (l' := wE u su 0 ++ wUs u 0) ha ⟨x_lk_rfl, x_lk_rfl, x_lk_rfl, x_lk_rfl, x_lk_rfl, x_lk_rfl, x_lk_rfl, ⟨⟨rfl, rfl, rfl⟩, fun j _ => (if_neg (Nat.not_lt_zero j)).symm⟩, trivial⟩ ?_
  refine X_loc (L' := [some (.ref u), some (.ref su), some (.int (nI 0))]) ⟨rfl, rfl, rfl, trivial⟩ ?_
  have loop : ∀ (f s : Nat), s + f = 6 → x_W G mX3_init (x_Z G (d + 2) 19 314 ad0 nb0 (x_RetV (k_at N u (wE u su 6 ++ wUs u 6))) x_noX) (k_at N u (wE u su s ++ wUs u s)) (7 + 2 * s) (230 + 14 * s) 47 [some (.ref u), some (.ref su), some (.int (nI s))] [] := by
    intro f
    induction f with
    | zero =>
      intro s hs
      obtain rfl : s = 6 := by omega
      refine X_ld rfl rfl rfl rfl ?_
      refine X_push (v := .int 6) rfl (by decide +kernel) ?_
      refine X_icmp_ge rfl (fun _ => ?_) (fun q => absurd (by decide) q)
      exact X_vret rfl rfl ⟨rfl, rfl⟩ (Nat.le_of_ble_eq_true rfl) (Nat.le_of_ble_eq_true rfl)
    | succ f ih =>
      intro s hs
      refine X_ld rfl rfl rfl rfl ?_
      refine X_push (v := .int 6) rfl (by decide +kernel) ?_
      refine X_icmp_ge rfl (fun q => absurd ((n_le (a := 6) (show (6 : Int32) = nI 6 from rfl) rfl (by omega) (by omega)).mp q) (by omega)) (fun _ => ?_)
      refine X_ld rfl rfl rfl rfl ?_
      refine X_get f_X3_28 rfl ((z_get (j := 0) ha).trans rfl) (v := .ref (u + 7)) rfl ?_
      refine X_ld rfl rfl rfl rfl ?_
      refine X_newK n_X3_26 rfl (by show _ ≤ 19; omega) (by show _ ≤ 314; omega) (Z_new ha (u + (8 + 2 * s)) (by rw [List.length_append, wUs_len]; rfl) ?_)
      refine X_dup rfl rfl ?_
      refine X_heap (z_app ha (f := u + (8 + 2 * s)) (by rw [List.length_append, wUs_len]; rfl)) ?_
      refine X_icallNv l_X3_X9_init (z_X9 hG d (a := u + (8 + 2 * s)) (by omega)) rfl rfl rfl (Nat.le_of_ble_eq_true rfl) (Nat.le_of_ble_eq_true rfl) (by omega) (by omega) (by omega) ?_
      refine X_heap (z_app ha (by rw [List.length_append, wUs_len]; rfl)).symm ?_
      refine X_heap (N' := k_at N u (wE u su s ++ wUs u (s + 1))) (by rw [List.append_assoc]; rfl) ?_
      have e20 : (wE u su s ++ wUs u (s + 1))[8 + 2 * s]? = some (.inl (9, zU (u + (8 + 2 * s)))) := by
        rw [List.getElem?_append_right (by show 8 ≤ _; omega)]
        show (wUs u (s + 1))[8 + 2 * s - 8]? = _
        rw [Nat.add_sub_cancel_left]
        exact wUs_get
      refine Z_aast (j := 7) (i := 8 + 2 * s) (n := 6) (F := fun j => if j < s then .ref (u + (8 + 2 * j)) else .null) ha rfl rfl e20 rfl (vp_in_nI (by omega) (by omega)) rfl ?_
      rw [nI_clamp (by omega), wE_1]
      refine X_heap (N' := k_at N u (wE u su (s + 1) ++ wUs u (s + 1))) rfl ?_
      refine X_iinc rfl rfl rfl ?_
      refine X_goto rfl ?_
      refine X_loc (L' := [some (.ref u), some (.ref su), some (.int (nI (s + 1)))]) ⟨rfl, rfl, congrArg Value.int (m_inc rfl).symm, trivial⟩ ?_
      refine X_room (by omega) (by omega) (ih (s + 1) (by omega))
  exact loop 6 0 rfl
/-- a Data's twenty cells as they are made -/
def wD (u su : Nat) : List XC := wE u su 6 ++ wUs u 6
theorem wD_len {u su : Nat} : (wD u su).length = 20 := rfl
/-- the Data that are made -/
def wDs (a : Nat) : Nat → List XC
  | 0 => []
  | i + 1 => wDs a i ++ wD (a + (11 + 20 * i)) (a + 7)
theorem wDs_len {a : Nat} : ∀ i, (wDs a i).length = 20 * i
  | 0 => rfl
  | i + 1 => by
    show (wDs a i ++ wD _ _).length = _
    rw [List.length_append, wDs_len i, wD_len]
    omega
theorem wDs_get {a : Nat} : ∀ (n i q : Nat), i < n → q < 20 → (wDs a n)[20 * i + q]? = (wD (a + (11 + 20 * i)) (a + 7))[q]?
  | 0, i, q, h, _ => absurd h (by omega)
  | n + 1, i, q, h, hq => by
    show (wDs a n ++ wD _ _)[20 * i + q]? = _
    by_cases e : i = n
    · subst e
      rw [List.getElem?_append_right (by rw [wDs_len]; omega), wDs_len, Nat.add_sub_cancel_left]
    · rw [List.getElem?_append_left (by rw [wDs_len]; omega)]
      exact wDs_get n i q (by omega) hq
/-- the class's own eleven cells, i Data made -/
def wJ (a : Nat) : Nat → Value := updV (updV (updV (updV (y_dfl tyX10) 0 (.ref (a + 1))) 2 (.int (-1))) 3 (.ref (a + 2))) 4 (.ref (a + 6))
def wC (a i : Nat) : List XC := [.inl (10, wJ a), .inr (true, .byte, 800, fun _ => .int 0), .inl (8, zT (a + 2)), .inr (true, .int, 801, fun _ => .int 0), .inr (true, .int, 801, fun _ => .int 0), .inr (true, .long, 801, fun _ => .long 0), .inr (true, .object "PreparedPlans$Data", 10, fun j => if j < i then .ref (a + (11 + 20 * j)) else .null), .inl (5, stV (a + 8) (a + 9) (a + 10) s_pl), .inr (true, .long, 5, fun _ => .long 0), .inr (true, .int, 5, fun _ => .int 0), .inl (0, lV 0 2 0)]
theorem wC_1 {a i : Nat} : updV (fun j => if j < i then Value.ref (a + (11 + 20 * j)) else .null) i (.ref (a + (11 + 20 * i))) = fun j => if j < i + 1 then Value.ref (a + (11 + 20 * j)) else .null := by
  funext j
  unfold updV
  by_cases h : j = i
  · subst h
    rw [if_pos rfl, if_pos (Nat.lt_succ_self j)]
  · rw [if_neg h]
    show (if j < i then Value.ref (a + (11 + 20 * j)) else .null) = _
    by_cases h2 : j < i
    · rw [if_pos h2, if_pos (by omega)]
    · rw [if_neg h2, if_neg (by omega)]
theorem w_X10 {G : XE} (hG : x_Kn G) (hK : x_KS G) (hM : x_KM G) {N : XH} (d : Nat) {a : Nat} (ha : 64 ≤ a) : x_M G mX10_init (d + 5) 210 6452 [.ref a] (k_at N a [.inl (10, y_dfl tyX10)]) (x_RetV (k_at N a (wC a 10 ++ wDs a 10))) x_noX := by
  refine X_M hG okX10_init rfl (L := [some (.ref a), none, none]) rfl (Nat.le_of_ble_eq_true rfl) (fun ad0 nb0 => ?_)
  refine X_ld rfl rfl rfl rfl ?_
  refine X_obj (x_in 92 (by decide +kernel) rfl) (x_in 93 (by decide +kernel) rfl) (x_in 94 (by decide +kernel) rfl) rfl (by show 1 ≤ d + _; omega) (by show _ ≤ 100 * (d + _); simp; omega) ?_
  refine X_ld rfl rfl rfl rfl ?_
  refine X_push (v := .int 800) rfl (by decide +kernel) ?_
  refine X_newaK 800 rfl rfl (List.mem_of_getElem? (i := 2) rfl) (x_in 130 (by decide +kernel) rfl) (by decide) (by decide +kernel) (by decide) (Nat.le_of_ble_eq_true rfl) (Nat.le_of_ble_eq_true rfl) (Z_new ha (a + 1) rfl ?_)
  refine Z_putF (j := 0) ha f_X10_9 rfl rfl ⟨rfl, rfl⟩ rfl (fun C T n h => by cases h; rfl) ?_
  refine X_ld rfl rfl rfl rfl ?_
  refine X_push (v := .int (-1)) rfl (by decide +kernel) ?_
  refine Z_put (j := 0) ha f_X10_13 rfl rfl ⟨rfl, rfl⟩ ?_
  refine X_ld rfl rfl rfl rfl ?_
  refine X_newK n_X10_17 rfl (Nat.le_of_ble_eq_true rfl) (Nat.le_of_ble_eq_true rfl) (Z_new ha (a + 2) rfl ?_)
  refine X_dup rfl rfl ?_
  refine X_heap (z_app ha (f := a + 2) rfl) ?_
  refine X_icallNv l_X10_X8_init (z_X8 hG (d + 3) (a := a + 2) (by omega)) rfl rfl rfl (Nat.le_of_ble_eq_true rfl) (Nat.le_of_ble_eq_true rfl) (by omega) (Nat.le_of_ble_eq_true rfl) (Nat.le_of_ble_eq_true rfl) ?_
  refine X_heap (z_app ha rfl).symm ?_
  refine Z_putF (j := 0) ha f_X10_20 rfl rfl ⟨rfl, rfl⟩ rfl (fun C T n h => by cases h; rfl) ?_
  refine X_ld rfl rfl rfl rfl ?_
  refine X_push (v := .int 10) rfl (by decide +kernel) ?_
  refine X_anewK 10 rfl (List.mem_of_getElem? (i := 4) rfl) (x_in 133 (by decide +kernel) rfl) (List.mem_of_getElem? (i := 134) (by decide +kernel)) (by decide) (by decide +kernel) (by decide) (Nat.le_of_ble_eq_true rfl) (Nat.le_of_ble_eq_true rfl) (Z_new ha (a + 6) rfl ?_)
  refine Z_putF (j := 0) ha f_X10_26 rfl rfl ⟨rfl, rfl⟩ rfl (fun C T n h => by cases h; rfl) ?_
  refine X_newK n_X10_30 rfl (Nat.le_of_ble_eq_true rfl) (Nat.le_of_ble_eq_true rfl) (Z_new ha (a + 7) rfl ?_)
  refine X_dup rfl rfl ?_
  refine X_heap (z_app ha (f := a + 7) rfl) ?_
  refine X_icallNv l_X10_X5_init (z_X5 hG hK hM d (a := a + 7) (by omega)) rfl rfl rfl (Nat.le_of_ble_eq_true rfl) (Nat.le_of_ble_eq_true rfl) (by omega) (Nat.le_of_ble_eq_true rfl) (Nat.le_of_ble_eq_true rfl) ?_
  refine X_heap (z_app ha rfl).symm ?_
  refine X_st rfl rfl rfl ?_
  refine X_push (v := .int 0) rfl (by decide +kernel) ?_
  refine X_st rfl rfl rfl ?_
  refine X_alz (l' := wC a 0 ++ wDs a 0) ha ⟨x_lk_rfl, x_lk_rfl, x_lk_rfl, x_lk_rfl, x_lk_rfl, x_lk_rfl, ⟨⟨rfl, rfl, rfl⟩, fun j _ => (if_neg (Nat.not_lt_zero j)).symm⟩, x_lk_rfl, x_lk_rfl, x_lk_rfl, x_lk_rfl, trivial⟩ ?_
  have loop : ∀ (f i : Nat), i + f = 10 → x_W G mX10_init (x_Z G (d + 5) 210 6452 ad0 nb0 (x_RetV (k_at N a (wC a 10 ++ wDs a 10))) x_noX) (k_at N a (wC a i ++ wDs a i)) (10 + 20 * i) (3242 + 321 * i) 48 [some (.ref a), some (.ref (a + 7)), some (.int (nI i))] [] := by
    intro f
    induction f with
    | zero =>
      intro i hi
      obtain rfl : i = 10 := by omega
      refine X_ld rfl rfl rfl rfl ?_
      refine X_push (v := .int 10) rfl (by decide +kernel) ?_
      refine X_icmp_ge rfl (fun _ => ?_) (fun q => absurd (by decide) q)
      exact X_vret rfl rfl ⟨rfl, rfl⟩ (Nat.le_of_ble_eq_true rfl) (Nat.le_of_ble_eq_true rfl)
    | succ f ih =>
      intro i hi
      refine X_ld rfl rfl rfl rfl ?_
      refine X_push (v := .int 10) rfl (by decide +kernel) ?_
      refine X_icmp_ge rfl (fun q => absurd ((n_le (a := 10) (show (10 : Int32) = nI 10 from rfl) rfl (by omega) (by omega)).mp q) (by omega)) (fun _ => ?_)
      refine X_ld rfl rfl rfl rfl ?_
      refine X_get f_X10_26 rfl ((z_get (j := 0) ha).trans rfl) (v := .ref (a + 6)) rfl ?_
      refine X_ld rfl rfl rfl rfl ?_
      refine X_newK n_X10_24 rfl (by show _ ≤ 210; omega) (by show _ ≤ 6452; omega) (Z_new ha (a + (11 + 20 * i)) (by rw [List.length_append, wDs_len]; show a + (11 + 20 * i) = _; rfl) ?_)
      refine X_dup rfl rfl ?_
      refine X_ld rfl rfl rfl rfl ?_
      refine X_heap (z_app ha (f := a + (11 + 20 * i)) (by rw [List.length_append, wDs_len]; show a + (11 + 20 * i) = _; rfl)) ?_
      refine X_icallv l_X10_X3_init (w_X3 hG (d + 2) (a + (11 + 20 * i)) (a + 7) (by omega)) rfl rfl rfl (Nat.le_of_ble_eq_true rfl) (Nat.le_of_ble_eq_true rfl) (by omega) (by omega) (by omega) ?_
      refine X_heap (z_app ha (by rw [List.length_append, wDs_len]; show a + (11 + 20 * i) = _; rfl)).symm ?_
      refine X_heap (N' := k_at N a (wC a i ++ wDs a (i + 1))) (by rw [List.append_assoc]; rfl) ?_
      have e20 : (wC a i ++ wDs a (i + 1))[11 + (20 * i + 0)]? = some (.inl (3, wV (a + (11 + 20 * i)) (a + 7))) := by
        rw [List.getElem?_append_right (by show 11 ≤ _; omega)]
        show (wDs a (i + 1))[11 + (20 * i + 0) - 11]? = _
        rw [Nat.add_sub_cancel_left, wDs_get (i + 1) i 0 (by omega) (by omega)]
        rfl
      refine Z_aast (j := 6) (i := 11 + (20 * i + 0)) (n := 10) (F := fun j => if j < i then .ref (a + (11 + 20 * j)) else .null) ha rfl rfl e20 rfl (vp_in_nI (by omega) (by omega)) rfl ?_
      rw [nI_clamp (by omega), wC_1]
      refine X_heap (N' := k_at N a (wC a (i + 1) ++ wDs a (i + 1))) rfl ?_
      refine X_iinc rfl rfl rfl ?_
      refine X_goto rfl ?_
      refine X_loc (L' := [some (.ref a), some (.ref (a + 7)), some (.int (nI (i + 1)))]) ⟨rfl, rfl, congrArg Value.int (m_inc rfl).symm, trivial⟩ ?_
      refine X_room (by omega) (by omega) (ih (i + 1) (by omega))
  refine X_loc (L' := [some (.ref a), some (.ref (a + 7)), some (.int (nI 0))]) ⟨rfl, rfl, rfl, trivial⟩ ?_
  exact loop 10 0 rfl
theorem w_ref {a j k : Nat} (ha : 275 ≤ a) (hj : j < 211) (hk : k = 64 + j) : vren (rsw a) (.ref (a + j)) = .ref k := by
  subst hk
  exact congrArg Value.ref (rsw_a ha hj)
theorem w_alD {a i : Nat} (ha : 275 ≤ a) (hi : i < 10) : ∀ q, q < 20 → ∃ c, (wD (a + (11 + 20 * i)) (a + 7))[q]? = some c ∧ x_lk (cren (rsw a) c) (dcell 71 s_dz i q)
  | 0, _ => ⟨_, rfl, rfl, fun r h => by cases h; exact z_f7 (w_ref ha (j := 7) (by omega) rfl) rfl rfl (w_ref ha (j := 11 + 20 * i + 1) (by omega) (by omega)) (w_ref ha (j := 11 + 20 * i + 2) (by omega) (by omega)) (w_ref ha (j := 11 + 20 * i + 3) (by omega) (by omega)) (w_ref ha (j := 11 + 20 * i + 7) (by omega) (by omega))⟩
  | 1, _ => ⟨_, rfl, ⟨rfl, rfl, rfl⟩, fun j hj => z_cI (fun j hj => s_dz0 (by omega))⟩
  | 2, _ => ⟨_, rfl, ⟨rfl, rfl, rfl⟩, fun j hj => z_cI (fun j hj => s_dz0 (by omega))⟩
  | 3, _ => ⟨_, rfl, rfl, fun r h => by cases h; exact z_f4 rfl (w_ref ha (j := 11 + 20 * i + 4) (by omega) (by omega)) (w_ref ha (j := 11 + 20 * i + 5) (by omega) (by omega)) (w_ref ha (j := 11 + 20 * i + 6) (by omega) (by omega))⟩
  | 4, _ => ⟨_, rfl, ⟨rfl, rfl, rfl⟩, fun j hj => z_cI (fun j hj => s_dz0 (by omega))⟩
  | 5, _ => ⟨_, rfl, ⟨rfl, rfl, rfl⟩, fun j hj => z_cI (fun j hj => s_dz0 (by omega))⟩
  | 6, _ => ⟨_, rfl, ⟨rfl, rfl, rfl⟩, fun j hj => z_cI (fun j hj => s_dz0 (by omega))⟩
  | 7, _ => ⟨_, rfl, ⟨rfl, rfl, rfl⟩, fun j hj => by
    show vren (rsw a) (if j < 6 then .ref (a + (11 + 20 * i) + (8 + 2 * j)) else .null) = .ref (75 + 20 * i + (8 + 2 * j))
    rw [if_pos hj, Nat.add_assoc a]
    exact w_ref ha (j := 11 + 20 * i + (8 + 2 * j)) (k := 75 + 20 * i + (8 + 2 * j)) (by omega) (by omega)⟩
  | 8, _ => ⟨_, rfl, rfl, fun r h => by cases h; exact z_f9 rfl rfl rfl rfl rfl rfl rfl rfl (w_ref ha (j := 11 + 20 * i + (9 + 2 * 0)) (by omega) (by omega))⟩
  | 9, _ => ⟨_, rfl, ⟨rfl, rfl, rfl⟩, fun j hj => z_cI (fun j hj => s_dz0 (by omega))⟩
  | 10, _ => ⟨_, rfl, rfl, fun r h => by cases h; exact z_f9 rfl rfl rfl rfl rfl rfl rfl rfl (w_ref ha (j := 11 + 20 * i + (9 + 2 * 1)) (by omega) (by omega))⟩
  | 11, _ => ⟨_, rfl, ⟨rfl, rfl, rfl⟩, fun j hj => z_cI (fun j hj => s_dz0 (by omega))⟩
  | 12, _ => ⟨_, rfl, rfl, fun r h => by cases h; exact z_f9 rfl rfl rfl rfl rfl rfl rfl rfl (w_ref ha (j := 11 + 20 * i + (9 + 2 * 2)) (by omega) (by omega))⟩
  | 13, _ => ⟨_, rfl, ⟨rfl, rfl, rfl⟩, fun j hj => z_cI (fun j hj => s_dz0 (by omega))⟩
  | 14, _ => ⟨_, rfl, rfl, fun r h => by cases h; exact z_f9 rfl rfl rfl rfl rfl rfl rfl rfl (w_ref ha (j := 11 + 20 * i + (9 + 2 * 3)) (by omega) (by omega))⟩
  | 15, _ => ⟨_, rfl, ⟨rfl, rfl, rfl⟩, fun j hj => z_cI (fun j hj => s_dz0 (by omega))⟩
  | 16, _ => ⟨_, rfl, rfl, fun r h => by cases h; exact z_f9 rfl rfl rfl rfl rfl rfl rfl rfl (w_ref ha (j := 11 + 20 * i + (9 + 2 * 4)) (by omega) (by omega))⟩
  | 17, _ => ⟨_, rfl, ⟨rfl, rfl, rfl⟩, fun j hj => z_cI (fun j hj => s_dz0 (by omega))⟩
  | 18, _ => ⟨_, rfl, rfl, fun r h => by cases h; exact z_f9 rfl rfl rfl rfl rfl rfl rfl rfl (w_ref ha (j := 11 + 20 * i + (9 + 2 * 5)) (by omega) (by omega))⟩
  | 19, _ => ⟨_, rfl, ⟨rfl, rfl, rfl⟩, fun j hj => z_cI (fun j hj => s_dz0 (by omega))⟩
  | q + 20, h => absurd h (by omega)
