/-! ===== the start: the class, the reference ===== -/
/-- the Data that are made -/
def zDs : Nat → List XC
  | 0 => []
  | i + 1 => zDs i ++ zD i 71
theorem zDs_len : ∀ i, (zDs i).length = 20 * i
  | 0 => rfl
  | i + 1 => by
    show (zDs i ++ zD i 71).length = _
    rw [List.length_append, zDs_len i]
    show 20 * i + 20 = _
    omega
theorem zD_get {i su q : Nat} (h : q < 20) : (zD i su)[q]? = some (dcell su s_dz i q) := by
  match q, h with
  | 0, _ => rfl
  | 1, _ => rfl
  | 2, _ => rfl
  | 3, _ => rfl
  | 4, _ => rfl
  | 5, _ => rfl
  | 6, _ => rfl
  | 7, _ => rfl
  | 8, _ => rfl
  | 9, _ => rfl
  | 10, _ => rfl
  | 11, _ => rfl
  | 12, _ => rfl
  | 13, _ => rfl
  | 14, _ => rfl
  | 15, _ => rfl
  | 16, _ => rfl
  | 17, _ => rfl
  | 18, _ => rfl
  | 19, _ => rfl
  | q + 20, h => exact absurd h (by omega)
theorem zDs_get : ∀ (n i q : Nat), i < n → q < 20 → (zDs n)[20 * i + q]? = some (dcell 71 s_dz i q)
  | 0, i, q, h, _ => absurd h (by omega)
  | n + 1, i, q, h, hq => by
    show (zDs n ++ zD n 71)[20 * i + q]? = _
    by_cases e : i = n
    · subst e
      rw [List.getElem?_append_right (by rw [zDs_len]; omega), zDs_len, Nat.add_sub_cancel_left]
      exact zD_get hq
    · rw [List.getElem?_append_left (by rw [zDs_len]; omega)]
      exact zDs_get n i q (by omega) hq
/-- the class's own eleven cells, i Data made -/
def zJ : Nat → Value := updV (updV (updV (updV (y_dfl tyX10) 0 (.ref 65)) 2 (.int (-1))) 3 (.ref 66)) 4 (.ref 70)
def zC (i : Nat) : List XC := [.inl (10, zJ), .inr (true, .byte, 800, fun _ => .int 0), .inl (8, zT 66), .inr (true, .int, 801, fun _ => .int 0), .inr (true, .int, 801, fun _ => .int 0), .inr (true, .long, 801, fun _ => .long 0), .inr (true, .object "PreparedPlans$Data", 10, fun j => if j < i then .ref (75 + 20 * j) else .null), .inl (5, stV 72 73 74 s_pl), .inr (true, .long, 5, fun _ => .long 0), .inr (true, .int, 5, fun _ => .int 0), .inl (0, lV 0 2 0)]
theorem zC_1 {i : Nat} : updV (fun j => if j < i then Value.ref (75 + 20 * j) else .null) i (.ref (75 + 20 * i)) = fun j => if j < i + 1 then Value.ref (75 + 20 * j) else .null := by
  funext j
  unfold updV
  by_cases h : j = i
  · subst h
    rw [if_pos rfl, if_pos (Nat.lt_succ_self j)]
  · rw [if_neg h]
    show (if j < i then Value.ref (75 + 20 * j) else .null) = _
    by_cases h2 : j < i
    · rw [if_pos h2, if_pos (by omega)]
    · rw [if_neg h2, if_neg (by omega)]
theorem z_X10 {G : XE} (hG : x_Kn G) (hK : x_KS G) (hM : x_KM G) {N : XH} (d : Nat)  : x_M G mX10_init (d + 5) 210 6452 [.ref 64] (k_at N 64 [.inl (10, y_dfl tyX10)]) (x_RetV (k_at N 64 (zC 10 ++ zDs 10))) x_noX := by
  refine X_M hG okX10_init rfl (L := [some (.ref 64), none, none]) rfl (Nat.le_of_ble_eq_true rfl) (fun ad0 nb0 => ?_)
  have ha : 64 ≤ 64 := Nat.le_refl _
  refine X_ld rfl rfl rfl rfl ?_
  refine X_obj (x_in 92 (by decide +kernel) rfl) (x_in 93 (by decide +kernel) rfl) (x_in 94 (by decide +kernel) rfl) rfl (by show 1 ≤ d + _; omega) (by show _ ≤ 100 * (d + _); simp; omega) ?_
  refine X_ld rfl rfl rfl rfl ?_
  refine X_push (v := .int 800) rfl (by decide +kernel) ?_
  refine X_newaK 800 rfl rfl (List.mem_of_getElem? (i := 2) rfl) (x_in 130 (by decide +kernel) rfl) (by decide) (by decide +kernel) (by decide) (Nat.le_of_ble_eq_true rfl) (Nat.le_of_ble_eq_true rfl) (Z_new ha 65 rfl ?_)
  refine Z_putF (j := 0) ha f_X10_9 rfl rfl ⟨rfl, rfl⟩ rfl (fun C T n h => by cases h; rfl) ?_
  refine X_ld rfl rfl rfl rfl ?_
  refine X_push (v := .int (-1)) rfl (by decide +kernel) ?_
  refine Z_put (j := 0) ha f_X10_13 rfl rfl ⟨rfl, rfl⟩ ?_
  refine X_ld rfl rfl rfl rfl ?_
  refine X_newK n_X10_17 rfl (Nat.le_of_ble_eq_true rfl) (Nat.le_of_ble_eq_true rfl) (Z_new ha 66 rfl ?_)
  refine X_dup rfl rfl ?_
  refine X_heap (z_app ha (f := 66) rfl) ?_
  refine X_icallNv l_X10_X8_init (z_X8 hG (d + 3) (a := 66) (by omega)) rfl rfl rfl (Nat.le_of_ble_eq_true rfl) (Nat.le_of_ble_eq_true rfl) (by omega) (Nat.le_of_ble_eq_true rfl) (Nat.le_of_ble_eq_true rfl) ?_
  refine X_heap (z_app ha rfl).symm ?_
  refine Z_putF (j := 0) ha f_X10_20 rfl rfl ⟨rfl, rfl⟩ rfl (fun C T n h => by cases h; rfl) ?_
  refine X_ld rfl rfl rfl rfl ?_
  refine X_push (v := .int 10) rfl (by decide +kernel) ?_
  refine X_anewK 10 rfl (List.mem_of_getElem? (i := 4) rfl) (x_in 133 (by decide +kernel) rfl) (List.mem_of_getElem? (i := 134) (by decide +kernel)) (by decide) (by decide +kernel) (by decide) (Nat.le_of_ble_eq_true rfl) (Nat.le_of_ble_eq_true rfl) (Z_new ha 70 rfl ?_)
  refine Z_putF (j := 0) ha f_X10_26 rfl rfl ⟨rfl, rfl⟩ rfl (fun C T n h => by cases h; rfl) ?_
  refine X_newK n_X10_30 rfl (Nat.le_of_ble_eq_true rfl) (Nat.le_of_ble_eq_true rfl) (Z_new ha 71 rfl ?_)
  refine X_dup rfl rfl ?_
  refine X_heap (z_app ha (f := 71) rfl) ?_
  refine X_icallNv l_X10_X5_init (z_X5 hG hK hM d (a := 71) (by omega)) rfl rfl rfl (Nat.le_of_ble_eq_true rfl) (Nat.le_of_ble_eq_true rfl) (by omega) (Nat.le_of_ble_eq_true rfl) (Nat.le_of_ble_eq_true rfl) ?_
  refine X_heap (z_app ha rfl).symm ?_
  refine X_st rfl rfl rfl ?_
  refine X_push (v := .int 0) rfl (by decide +kernel) ?_
  refine X_st rfl rfl rfl ?_
  refine X_alz (l' := zC 0 ++ zDs 0) ha ⟨x_lk_rfl, x_lk_rfl, x_lk_rfl, x_lk_rfl, x_lk_rfl, x_lk_rfl, ⟨⟨rfl, rfl, rfl⟩, fun j _ => (if_neg (Nat.not_lt_zero j)).symm⟩, x_lk_rfl, x_lk_rfl, x_lk_rfl, x_lk_rfl, trivial⟩ ?_
  have loop : ∀ (f i : Nat), i + f = 10 → x_W G mX10_init (x_Z G (d + 5) 210 6452 ad0 nb0 (x_RetV (k_at N 64 (zC 10 ++ zDs 10))) x_noX) (k_at N 64 (zC i ++ zDs i)) (10 + 20 * i) (3242 + 321 * i) 48 [some (.ref 64), some (.ref 71), some (.int (nI i))] [] := by
    intro f
    induction f with
    | zero =>
      intro i hi
      obtain rfl : i = 10 := by omega
      refine X_ld rfl rfl rfl rfl ?_
      refine X_push (v := .int 10) rfl (by decide +kernel) ?_
      refine X_icmp_ge rfl (fun _ => ?_) (fun q => absurd (by decide) q)
      exact X_vret rfl rfl ⟨rfl, rfl⟩ (Nat.le_of_ble_eq_true rfl) (Nat.le_of_ble_eq_true rfl)
    | succ f ih =>
      intro i hi
      refine X_ld rfl rfl rfl rfl ?_
      refine X_push (v := .int 10) rfl (by decide +kernel) ?_
      refine X_icmp_ge rfl (fun q => absurd ((n_le (a := 10) (show (10 : Int32) = nI 10 from rfl) rfl (by omega) (by omega)).mp q) (by omega)) (fun _ => ?_)
      refine X_ld rfl rfl rfl rfl ?_
      refine X_get f_X10_26 rfl ((z_get (j := 0) ha).trans rfl) (v := .ref 70) rfl ?_
      refine X_ld rfl rfl rfl rfl ?_
      refine X_newK n_X10_24 rfl (by show _ ≤ 210; omega) (by show _ ≤ 6452; omega) (Z_new ha (75 + 20 * i) (by rw [List.length_append, zDs_len]; show 64 + (11 + 20 * i) = _; omega) ?_)
      refine X_dup rfl rfl ?_
      refine X_ld rfl rfl rfl rfl ?_
      refine X_heap (z_app ha (f := 75 + 20 * i) (by rw [List.length_append, zDs_len]; show 64 + (11 + 20 * i) = _; omega)) ?_
      refine X_icallv l_X10_X3_init (z_X3 hG (d + 2) i 71) rfl rfl rfl (Nat.le_of_ble_eq_true rfl) (Nat.le_of_ble_eq_true rfl) (by omega) (by omega) (by omega) ?_
      refine X_heap (z_app ha (by rw [List.length_append, zDs_len]; show 64 + (11 + 20 * i) = _; omega)).symm ?_
      refine X_heap (N' := k_at N 64 (zC i ++ zDs (i + 1))) (by rw [List.append_assoc]; rfl) ?_
      have e20 : (zC i ++ zDs (i + 1))[11 + (20 * i + 0)]? = some (dcell 71 s_dz i 0) := by
        rw [List.getElem?_append_right (by show 11 ≤ _; omega)]
        show (zDs (i + 1))[11 + (20 * i + 0) - 11]? = _
        rw [Nat.add_sub_cancel_left]
        exact zDs_get (i + 1) i 0 (by omega) (by omega)
      refine Z_aast (j := 6) (i := 11 + (20 * i + 0)) (n := 10) (F := fun j => if j < i then .ref (75 + 20 * j) else .null) ha rfl rfl e20 rfl (vp_in_nI (by omega) (by omega)) (by omega) ?_
      rw [nI_clamp (by omega), zC_1]
      refine X_heap (N' := k_at N 64 (zC (i + 1) ++ zDs (i + 1))) rfl ?_
      refine X_iinc rfl rfl rfl ?_
      refine X_goto rfl ?_
      refine X_loc (L' := [some (.ref 64), some (.ref 71), some (.int (nI (i + 1)))]) ⟨rfl, rfl, congrArg Value.int (m_inc rfl).symm, trivial⟩ ?_
      refine X_room (by omega) (by omega) (ih (i + 1) (by omega))
  refine X_loc (L' := [some (.ref 64), some (.ref 71), some (.int (nI 0))]) ⟨rfl, rfl, rfl, trivial⟩ ?_
  exact loop 10 0 rfl
