/-! ===== the law's own methods: numbers (wip/p26/gen_e1.py) ===== -/
/-- the law's object: its arrays at 276, 277, its numbers -/
def e_V (F : Nat → Int32) : Nat → Value
  | 0 => .ref 276
  | 1 => .ref 277
  | k + 2 => .int (F (k + 2))
abbrev e_O (F : Nat → Int32) : XC := .inl (11, e_V F)
abbrev e_A (A : Nat → Int32) : XC := .inr (true, .int, 40, fun j => .int (A j))
def e_cost (F : Nat → Int32) (x : Int32) : Int32 := F 9 + F 10 * (x * F 15 / 100)
def e_plan (F : Nat → Int32) (x : Int32) : Int32 := if e_cost F x < F 8 * F 3 then 0 else -1
def e_costOf (F : Nat → Int32) (p x : Int32) : Int32 := if p < 0 then F 8 * F 3 else e_cost F x
abbrev e_stale (F : Nat → Int32) : Prop := F 18 = -2 ∨ ¬ F 20 = F 7
def e_its (F : Nat → Int32) (g : Int32) : Int32 := if e_stale F then e_costOf F (e_plan F g) g else F 19
abbrev e_turn (F : Nat → Int32) (g : Int32) : Prop := ¬ F 12 < F 11 ∧ ¬ F 14 < e_its F g * F 13
def e_used (F : Nat → Int32) (s g : Int32) : Int32 := if e_turn F g then 2 * ((if e_stale F then e_plan F g else F 18) + 1) + 1 else 2 * (e_plan F s + 1)
def e_est (F : Nat → Int32) (v : Int32) (z l : Bool) : Int32 :=
  if F 3 = 0 then 0 else if z = false then (if l = false then (F 3 + F 4 - 1) / F 4 else (F 3 + 2) / 3)
  else if l = false then (if v < F 5 then 0 else if F 6 < v then 0 else (F 3 + F 4 - 1) / F 4)
  else x_max 0 (x_min (F 3) (F 3 * (v - F 5) / (F 6 - F 5 + 1)))
def e_cell (n : Nat) (xs : Nat → Int32) (k : Nat) : Int32 := if k < n then xs k else 0
/-- bound: (v & 2147483647) mod n -/
def e_bnd (v n : Int32) : Int32 := (v &&& 2147483647) - (v &&& 2147483647) / n * n
theorem v_bound {G : XE} (hG : x_Kn G) {N : XH} (d : Nat) {x y : Int32} (hy : ¬ y = 0) : x_M G mL_bound d 0 0 [.int x, .int y] (N) (x_Ret N (.int (e_bnd x y))) x_noX := by
  refine X_M hG okL_bound rfl (L := [some (.int x), some (.int y)]) rfl (Nat.le_of_ble_eq_true rfl) (fun ad0 nb0 => ?_)
  refine X_ld rfl rfl rfl rfl ?_
  refine X_ldc k_L_23 rfl ?_
  refine X_bin rfl rfl ?_
  refine X_ld rfl rfl rfl rfl ?_
  refine X_irem rfl hy ?_
  exact X_iret rfl rfl ⟨rfl, rfl⟩ (Nat.le_of_ble_eq_true rfl) (Nat.le_of_ble_eq_true rfl)
theorem v_cost {G : XE} (hG : x_Kn G) {N : XH} (d : Nat) {F : Nat → Int32} (hN : N 275 = some (e_O F)) {x : Int32} : x_M G mL_cost d 0 0 [.ref 275, .int x] (N) (x_Ret N (.int (e_cost F x))) x_noX := by
  refine X_M hG okL_cost rfl (L := [some (.ref 275), some (.int x)]) rfl (Nat.le_of_ble_eq_true rfl) (fun ad0 nb0 => ?_)
  refine X_ld rfl rfl rfl rfl ?_
  refine X_get f_L_68 rfl hN rfl ?_
  refine X_ld rfl rfl rfl rfl ?_
  refine X_get f_L_71 rfl hN rfl ?_
  refine X_ld rfl rfl rfl rfl ?_
  refine X_ld rfl rfl rfl rfl ?_
  refine X_get f_L_16 rfl hN rfl ?_
  refine X_bin rfl rfl ?_
  refine X_push (v := .int 100) rfl (by decide +kernel) ?_
  refine X_idiv rfl (by decide) ?_
  refine X_bin rfl rfl ?_
  refine X_bin rfl rfl ?_
  exact X_iret rfl rfl ⟨rfl, rfl⟩ (Nat.le_of_ble_eq_true rfl) (Nat.le_of_ble_eq_true rfl)
theorem v_plan {G : XE} (hG : x_Kn G) {N : XH} (d : Nat) {F : Nat → Int32} (hN : N 275 = some (e_O F)) {x : Int32} : x_M G mL_plan (d + 1) 0 0 [.ref 275, .int x] (N) (x_Ret N (.int (e_plan F x))) x_noX := by
  refine X_M hG okL_plan rfl (L := [some (.ref 275), some (.int x)]) rfl (Nat.le_of_ble_eq_true rfl) (fun ad0 nb0 => ?_)
  refine X_ld rfl rfl rfl rfl ?_
  refine X_ld rfl rfl rfl rfl ?_
  refine X_vcall hN l_L_L_cost (v_cost hG d hN) rfl rfl rfl rfl (Nat.le_of_ble_eq_true rfl) (Nat.le_of_ble_eq_true rfl) (Nat.le_refl _) (Nat.le_of_ble_eq_true rfl) (Nat.le_of_ble_eq_true rfl) ?_
  refine X_ld rfl rfl rfl rfl ?_
  refine X_get f_L_77 rfl hN rfl ?_
  refine X_ld rfl rfl rfl rfl ?_
  refine X_get f_L_47 rfl hN rfl ?_
  refine X_bin rfl rfl ?_
  refine X_icmp_ge rfl (fun c14 => ?_) (fun c14 => ?_)
  · refine X_push (v := .int (-1)) rfl (by decide +kernel) ?_
    exact X_iret rfl rfl ⟨rfl, congrArg (fun q => some (Value.int q)) (if_neg (Int32.not_lt.mpr c14)).symm⟩ (Nat.le_of_ble_eq_true rfl) (Nat.le_of_ble_eq_true rfl)
  · refine X_push (v := .int 0) rfl (by decide +kernel) ?_
    refine X_goto rfl ?_
    exact X_iret rfl rfl ⟨rfl, congrArg (fun q => some (Value.int q)) (if_pos (Int32.not_le.mp c14)).symm⟩ (Nat.le_of_ble_eq_true rfl) (Nat.le_of_ble_eq_true rfl)
theorem v_costOf {G : XE} (hG : x_Kn G) {N : XH} (d : Nat) {F : Nat → Int32} (hN : N 275 = some (e_O F)) {p x : Int32} : x_M G mL_costOf (d + 1) 0 0 [.ref 275, .int p, .int x] (N) (x_Ret N (.int (e_costOf F p x))) x_noX := by
  refine X_M hG okL_costOf rfl (L := [some (.ref 275), some (.int p), some (.int x)]) rfl (Nat.le_of_ble_eq_true rfl) (fun ad0 nb0 => ?_)
  refine X_ld rfl rfl rfl rfl ?_
  refine X_if_ge rfl (fun c1 => ?_) (fun c1 => ?_)
  · refine X_ld rfl rfl rfl rfl ?_
    refine X_ld rfl rfl rfl rfl ?_
    refine X_vcall hN l_L_L_cost (v_cost hG d hN) rfl rfl rfl rfl (Nat.le_of_ble_eq_true rfl) (Nat.le_of_ble_eq_true rfl) (Nat.le_refl _) (Nat.le_of_ble_eq_true rfl) (Nat.le_of_ble_eq_true rfl) ?_
    exact X_iret rfl rfl ⟨rfl, congrArg (fun q => some (Value.int q)) (if_neg (Int32.not_lt.mpr c1)).symm⟩ (Nat.le_of_ble_eq_true rfl) (Nat.le_of_ble_eq_true rfl)
  · refine X_ld rfl rfl rfl rfl ?_
    refine X_get f_L_77 rfl hN rfl ?_
    refine X_ld rfl rfl rfl rfl ?_
    refine X_get f_L_47 rfl hN rfl ?_
    refine X_bin rfl rfl ?_
    refine X_goto rfl ?_
    exact X_iret rfl rfl ⟨rfl, congrArg (fun q => some (Value.int q)) (if_pos (Int32.not_le.mp c1)).symm⟩ (Nat.le_of_ble_eq_true rfl) (Nat.le_of_ble_eq_true rfl)
theorem v_turn {G : XE} (hG : x_Kn G) {N : XH} (d : Nat) {F : Nat → Int32} (hN : N 275 = some (e_O F)) {g : Int32} : x_M G mL_isGenericTurn (d + 2) 0 0 [.ref 275, .int g] (N) (x_Ret N (.int (bI (e_turn F g)))) x_noX := by
  refine X_M hG okL_isGenericTurn rfl (L := [some (.ref 275), some (.int g), none, none]) rfl (Nat.le_of_ble_eq_true rfl) (fun ad0 nb0 => ?_)
  refine X_ld rfl rfl rfl rfl ?_
  refine X_get f_L_20 rfl hN rfl ?_
  refine X_push (v := .int (-2)) rfl (by decide +kernel) ?_
  refine X_icmp_eq rfl (fun c6 => ?_) (fun c6 => ?_)
  · refine X_push (v := .int 1) rfl (by decide +kernel) ?_
    refine X_goto rfl ?_
    refine X_st rfl rfl rfl ?_
    refine X_ld rfl rfl rfl rfl ?_
    refine X_if_eq rfl (fun c27 => absurd c27 (by decide)) (fun c27 => ?_)
    refine X_ld rfl rfl rfl rfl ?_
    refine X_ld rfl rfl rfl rfl ?_
    refine X_ld rfl rfl rfl rfl ?_
    refine X_vcall hN l_L_L_plan (v_plan hG d hN) rfl rfl rfl rfl (Nat.le_of_ble_eq_true rfl) (Nat.le_of_ble_eq_true rfl) (Nat.le_refl _) (Nat.le_of_ble_eq_true rfl) (Nat.le_of_ble_eq_true rfl) ?_
    refine X_ld rfl rfl rfl rfl ?_
    refine X_vcall hN l_L_L_costOf (v_costOf hG d hN) rfl rfl rfl rfl (Nat.le_of_ble_eq_true rfl) (Nat.le_of_ble_eq_true rfl) (Nat.le_refl _) (Nat.le_of_ble_eq_true rfl) (Nat.le_of_ble_eq_true rfl) ?_
    refine X_goto rfl ?_
    refine X_st rfl rfl rfl ?_
    refine X_ld rfl rfl rfl rfl ?_
    refine X_get f_L_95 rfl hN rfl ?_
    refine X_ld rfl rfl rfl rfl ?_
    refine X_get f_L_98 rfl hN rfl ?_
    refine X_icmp_lt rfl (fun c56 => ?_) (fun c56 => ?_)
    · refine X_push (v := .int 0) rfl (by decide +kernel) ?_
      exact X_zret rfl rfl rfl ⟨rfl, congrArg (fun q => some (Value.int q)) (bI_f (fun q : e_turn F g => q.1 c56)).symm⟩ (Nat.le_of_ble_eq_true rfl) (Nat.le_of_ble_eq_true rfl)
    · refine X_ld rfl rfl rfl rfl ?_
      refine X_ld rfl rfl rfl rfl ?_
      refine X_get f_L_101 rfl hN rfl ?_
      refine X_bin rfl rfl ?_
      refine X_ld rfl rfl rfl rfl ?_
      refine X_get f_L_104 rfl hN rfl ?_
      refine X_icmp_gt rfl (fun c69 => ?_) (fun c69 => ?_)
      · refine X_push (v := .int 0) rfl (by decide +kernel) ?_
        exact X_zret rfl rfl rfl ⟨rfl, congrArg (fun q => some (Value.int q)) (bI_f (fun q : e_turn F g => q.2 (by rw [(show e_its F g = _ from (if_pos (show e_stale F from Or.inl c6)))]; exact c69))).symm⟩ (Nat.le_of_ble_eq_true rfl) (Nat.le_of_ble_eq_true rfl)
      · refine X_push (v := .int 1) rfl (by decide +kernel) ?_
        refine X_goto rfl ?_
        exact X_zret rfl rfl rfl ⟨rfl, congrArg (fun q => some (Value.int q)) (bI_t (p := e_turn F g) ⟨c56, by rw [(show e_its F g = _ from (if_pos (show e_stale F from Or.inl c6)))]; exact c69⟩).symm⟩ (Nat.le_of_ble_eq_true rfl) (Nat.le_of_ble_eq_true rfl)
  · refine X_ld rfl rfl rfl rfl ?_
    refine X_get f_L_80 rfl hN rfl ?_
    refine X_ld rfl rfl rfl rfl ?_
    refine X_get f_L_83 rfl hN rfl ?_
    refine X_icmp_eq rfl (fun c17 => ?_) (fun c17 => ?_)
    · refine X_push (v := .int 0) rfl (by decide +kernel) ?_
      refine X_st rfl rfl rfl ?_
      refine X_ld rfl rfl rfl rfl ?_
      refine X_if_eq rfl (fun c27 => ?_) (fun c27 => absurd (by decide) c27)
      refine X_ld rfl rfl rfl rfl ?_
      refine X_get f_L_92 rfl hN rfl ?_
      refine X_st rfl rfl rfl ?_
      refine X_ld rfl rfl rfl rfl ?_
      refine X_get f_L_95 rfl hN rfl ?_
      refine X_ld rfl rfl rfl rfl ?_
      refine X_get f_L_98 rfl hN rfl ?_
      refine X_icmp_lt rfl (fun c56 => ?_) (fun c56 => ?_)
      · refine X_push (v := .int 0) rfl (by decide +kernel) ?_
        exact X_zret rfl rfl rfl ⟨rfl, congrArg (fun q => some (Value.int q)) (bI_f (fun q : e_turn F g => q.1 c56)).symm⟩ (Nat.le_of_ble_eq_true rfl) (Nat.le_of_ble_eq_true rfl)
      · refine X_ld rfl rfl rfl rfl ?_
        refine X_ld rfl rfl rfl rfl ?_
        refine X_get f_L_101 rfl hN rfl ?_
        refine X_bin rfl rfl ?_
        refine X_ld rfl rfl rfl rfl ?_
        refine X_get f_L_104 rfl hN rfl ?_
        refine X_icmp_gt rfl (fun c69 => ?_) (fun c69 => ?_)
        · refine X_push (v := .int 0) rfl (by decide +kernel) ?_
          exact X_zret rfl rfl rfl ⟨rfl, congrArg (fun q => some (Value.int q)) (bI_f (fun q : e_turn F g => q.2 (by rw [(show e_its F g = _ from (if_neg (show ¬ e_stale F from fun q => q.elim c6 (fun q => q c17))))]; exact c69))).symm⟩ (Nat.le_of_ble_eq_true rfl) (Nat.le_of_ble_eq_true rfl)
        · refine X_push (v := .int 1) rfl (by decide +kernel) ?_
          refine X_goto rfl ?_
          exact X_zret rfl rfl rfl ⟨rfl, congrArg (fun q => some (Value.int q)) (bI_t (p := e_turn F g) ⟨c56, by rw [(show e_its F g = _ from (if_neg (show ¬ e_stale F from fun q => q.elim c6 (fun q => q c17))))]; exact c69⟩).symm⟩ (Nat.le_of_ble_eq_true rfl) (Nat.le_of_ble_eq_true rfl)
    · refine X_push (v := .int 1) rfl (by decide +kernel) ?_
      refine X_goto rfl ?_
      refine X_st rfl rfl rfl ?_
      refine X_ld rfl rfl rfl rfl ?_
      refine X_if_eq rfl (fun c27 => absurd c27 (by decide)) (fun c27 => ?_)
      refine X_ld rfl rfl rfl rfl ?_
      refine X_ld rfl rfl rfl rfl ?_
      refine X_ld rfl rfl rfl rfl ?_
      refine X_vcall hN l_L_L_plan (v_plan hG d hN) rfl rfl rfl rfl (Nat.le_of_ble_eq_true rfl) (Nat.le_of_ble_eq_true rfl) (Nat.le_refl _) (Nat.le_of_ble_eq_true rfl) (Nat.le_of_ble_eq_true rfl) ?_
      refine X_ld rfl rfl rfl rfl ?_
      refine X_vcall hN l_L_L_costOf (v_costOf hG d hN) rfl rfl rfl rfl (Nat.le_of_ble_eq_true rfl) (Nat.le_of_ble_eq_true rfl) (Nat.le_refl _) (Nat.le_of_ble_eq_true rfl) (Nat.le_of_ble_eq_true rfl) ?_
      refine X_goto rfl ?_
      refine X_st rfl rfl rfl ?_
      refine X_ld rfl rfl rfl rfl ?_
      refine X_get f_L_95 rfl hN rfl ?_
      refine X_ld rfl rfl rfl rfl ?_
      refine X_get f_L_98 rfl hN rfl ?_
      refine X_icmp_lt rfl (fun c56 => ?_) (fun c56 => ?_)
      · refine X_push (v := .int 0) rfl (by decide +kernel) ?_
        exact X_zret rfl rfl rfl ⟨rfl, congrArg (fun q => some (Value.int q)) (bI_f (fun q : e_turn F g => q.1 c56)).symm⟩ (Nat.le_of_ble_eq_true rfl) (Nat.le_of_ble_eq_true rfl)
      · refine X_ld rfl rfl rfl rfl ?_
        refine X_ld rfl rfl rfl rfl ?_
        refine X_get f_L_101 rfl hN rfl ?_
        refine X_bin rfl rfl ?_
        refine X_ld rfl rfl rfl rfl ?_
        refine X_get f_L_104 rfl hN rfl ?_
        refine X_icmp_gt rfl (fun c69 => ?_) (fun c69 => ?_)
        · refine X_push (v := .int 0) rfl (by decide +kernel) ?_
          exact X_zret rfl rfl rfl ⟨rfl, congrArg (fun q => some (Value.int q)) (bI_f (fun q : e_turn F g => q.2 (by rw [(show e_its F g = _ from (if_pos (show e_stale F from Or.inr c17)))]; exact c69))).symm⟩ (Nat.le_of_ble_eq_true rfl) (Nat.le_of_ble_eq_true rfl)
        · refine X_push (v := .int 1) rfl (by decide +kernel) ?_
          refine X_goto rfl ?_
          exact X_zret rfl rfl rfl ⟨rfl, congrArg (fun q => some (Value.int q)) (bI_t (p := e_turn F g) ⟨c56, by rw [(show e_its F g = _ from (if_pos (show e_stale F from Or.inr c17)))]; exact c69⟩).symm⟩ (Nat.le_of_ble_eq_true rfl) (Nat.le_of_ble_eq_true rfl)
theorem v_used {G : XE} (hG : x_Kn G) {N : XH} (d : Nat) {F : Nat → Int32} (hN : N 275 = some (e_O F)) {s g : Int32} : x_M G mL_used (d + 3) 0 0 [.ref 275, .int s, .int g] (N) (x_Ret N (.int (e_used F s g))) x_noX := by
  refine X_M hG okL_used rfl (L := [some (.ref 275), some (.int s), some (.int g), none]) rfl (Nat.le_of_ble_eq_true rfl) (fun ad0 nb0 => ?_)
  refine X_ld rfl rfl rfl rfl ?_
  refine X_ld rfl rfl rfl rfl ?_
  refine X_vcall hN l_L_L_isGenericTurn (v_turn hG d hN) rfl rfl rfl rfl (Nat.le_of_ble_eq_true rfl) (Nat.le_of_ble_eq_true rfl) (Nat.le_refl _) (Nat.le_of_ble_eq_true rfl) (Nat.le_of_ble_eq_true rfl) ?_
  refine X_if_ne rfl (fun c5 => ?_) (fun c5 => ?_)
  · have h5 : e_turn F g := bI_ne.mp c5
    refine X_ld rfl rfl rfl rfl ?_
    refine X_get f_L_20 rfl hN rfl ?_
    refine X_push (v := .int (-2)) rfl (by decide +kernel) ?_
    refine X_icmp_eq rfl (fun c24 => ?_) (fun c24 => ?_)
    · refine X_push (v := .int 1) rfl (by decide +kernel) ?_
      refine X_goto rfl ?_
      refine X_st rfl rfl rfl ?_
      refine X_push (v := .int 2) rfl (by decide +kernel) ?_
      refine X_ld rfl rfl rfl rfl ?_
      refine X_if_eq rfl (fun c46 => absurd c46 (by decide)) (fun c46 => ?_)
      refine X_ld rfl rfl rfl rfl ?_
      refine X_ld rfl rfl rfl rfl ?_
      refine X_vcall hN l_L_L_plan (v_plan hG (d + 1) hN) rfl rfl rfl rfl (Nat.le_of_ble_eq_true rfl) (Nat.le_of_ble_eq_true rfl) (Nat.le_refl _) (Nat.le_of_ble_eq_true rfl) (Nat.le_of_ble_eq_true rfl) ?_
      refine X_goto rfl ?_
      refine X_push (v := .int 1) rfl (by decide +kernel) ?_
      refine X_bin rfl rfl ?_
      refine X_bin rfl rfl ?_
      refine X_push (v := .int 1) rfl (by decide +kernel) ?_
      refine X_bin rfl rfl ?_
      exact X_iret rfl rfl ⟨rfl, congrArg (fun q => some (Value.int q)) ((if_pos h5).trans (congrArg (fun q : Int32 => 2 * (q + 1) + 1) (if_pos (Or.inl c24)))).symm⟩ (Nat.le_of_ble_eq_true rfl) (Nat.le_of_ble_eq_true rfl)
    · refine X_ld rfl rfl rfl rfl ?_
      refine X_get f_L_80 rfl hN rfl ?_
      refine X_ld rfl rfl rfl rfl ?_
      refine X_get f_L_83 rfl hN rfl ?_
      refine X_icmp_eq rfl (fun c35 => ?_) (fun c35 => ?_)
      · refine X_push (v := .int 0) rfl (by decide +kernel) ?_
        refine X_st rfl rfl rfl ?_
        refine X_push (v := .int 2) rfl (by decide +kernel) ?_
        refine X_ld rfl rfl rfl rfl ?_
        refine X_if_eq rfl (fun c46 => ?_) (fun c46 => absurd (by decide) c46)
        refine X_ld rfl rfl rfl rfl ?_
        refine X_get f_L_20 rfl hN rfl ?_
        refine X_push (v := .int 1) rfl (by decide +kernel) ?_
        refine X_bin rfl rfl ?_
        refine X_bin rfl rfl ?_
        refine X_push (v := .int 1) rfl (by decide +kernel) ?_
        refine X_bin rfl rfl ?_
        exact X_iret rfl rfl ⟨rfl, congrArg (fun q => some (Value.int q)) ((if_pos h5).trans (congrArg (fun q : Int32 => 2 * (q + 1) + 1) (if_neg (fun q => q.elim c24 (fun q => q c35))))).symm⟩ (Nat.le_of_ble_eq_true rfl) (Nat.le_of_ble_eq_true rfl)
      · refine X_push (v := .int 1) rfl (by decide +kernel) ?_
        refine X_goto rfl ?_
        refine X_st rfl rfl rfl ?_
        refine X_push (v := .int 2) rfl (by decide +kernel) ?_
        refine X_ld rfl rfl rfl rfl ?_
        refine X_if_eq rfl (fun c46 => absurd c46 (by decide)) (fun c46 => ?_)
        refine X_ld rfl rfl rfl rfl ?_
        refine X_ld rfl rfl rfl rfl ?_
        refine X_vcall hN l_L_L_plan (v_plan hG (d + 1) hN) rfl rfl rfl rfl (Nat.le_of_ble_eq_true rfl) (Nat.le_of_ble_eq_true rfl) (Nat.le_refl _) (Nat.le_of_ble_eq_true rfl) (Nat.le_of_ble_eq_true rfl) ?_
        refine X_goto rfl ?_
        refine X_push (v := .int 1) rfl (by decide +kernel) ?_
        refine X_bin rfl rfl ?_
        refine X_bin rfl rfl ?_
        refine X_push (v := .int 1) rfl (by decide +kernel) ?_
        refine X_bin rfl rfl ?_
        exact X_iret rfl rfl ⟨rfl, congrArg (fun q => some (Value.int q)) ((if_pos h5).trans (congrArg (fun q : Int32 => 2 * (q + 1) + 1) (if_pos (Or.inr c35)))).symm⟩ (Nat.le_of_ble_eq_true rfl) (Nat.le_of_ble_eq_true rfl)
  · have h5 : ¬ (e_turn F g) := fun q => bI_ne.mpr q c5
    refine X_push (v := .int 2) rfl (by decide +kernel) ?_
    refine X_ld rfl rfl rfl rfl ?_
    refine X_ld rfl rfl rfl rfl ?_
    refine X_vcall hN l_L_L_plan (v_plan hG (d + 1) hN) rfl rfl rfl rfl (Nat.le_of_ble_eq_true rfl) (Nat.le_of_ble_eq_true rfl) (Nat.le_refl _) (Nat.le_of_ble_eq_true rfl) (Nat.le_of_ble_eq_true rfl) ?_
    refine X_push (v := .int 1) rfl (by decide +kernel) ?_
    refine X_bin rfl rfl ?_
    refine X_bin rfl rfl ?_
    exact X_iret rfl rfl ⟨rfl, congrArg (fun q => some (Value.int q)) (if_neg h5).symm⟩ (Nat.le_of_ble_eq_true rfl) (Nat.le_of_ble_eq_true rfl)
theorem v_est {G : XE} (hG : x_Kn G) {N : XH} (d : Nat) {F : Nat → Int32} (hN : N 275 = some (e_O F)) {v : Int32} {z l : Bool} (h4 : ¬ F 3 = 0 → ¬ F 4 = 0 ∧ ¬ F 6 - F 5 + 1 = 0) : x_M G mL_estimate (d + 2) 0 0 [.ref 275, .int v, .int (b2 z), .int (b2 l)] (N) (x_Ret N (.int (e_est F v z l))) x_noX := by
  refine X_M hG okL_estimate rfl (L := [some (.ref 275), some (.int v), some (.int (b2 z)), some (.int (b2 l))]) rfl (Nat.le_of_ble_eq_true rfl) (fun ad0 nb0 => ?_)
  refine X_ld rfl rfl rfl rfl ?_
  refine X_get f_L_47 rfl hN rfl ?_
  refine X_if_ne rfl (fun c4 => ?_) (fun c4 => ?_)
  · refine X_ld rfl rfl rfl rfl ?_
    refine X_if_ne rfl (fun c10 => ?_) (fun c10 => ?_)
    · have h10 : (z) = true := b2_1 c10
      refine X_ld rfl rfl rfl rfl ?_
      refine X_if_ne rfl (fun c46 => ?_) (fun c46 => ?_)
      · have h46 : (l) = true := b2_1 c46
        refine X_push (v := .int 0) rfl (by decide +kernel) ?_
        refine X_ld rfl rfl rfl rfl ?_
        refine X_get f_L_47 rfl hN rfl ?_
        refine X_ld rfl rfl rfl rfl ?_
        refine X_get f_L_47 rfl hN rfl ?_
        refine X_ld rfl rfl rfl rfl ?_
        refine X_ld rfl rfl rfl rfl ?_
        refine X_get f_L_53 rfl hN rfl ?_
        refine X_bin rfl rfl ?_
        refine X_bin rfl rfl ?_
        refine X_ld rfl rfl rfl rfl ?_
        refine X_get f_L_56 rfl hN rfl ?_
        refine X_ld rfl rfl rfl rfl ?_
        refine X_get f_L_53 rfl hN rfl ?_
        refine X_bin rfl rfl ?_
        refine X_push (v := .int 1) rfl (by decide +kernel) ?_
        refine X_bin rfl rfl ?_
        refine X_idiv rfl (h4 c4).2 ?_
        refine X_min lmin_L rfl (by omega) (Nat.le_of_ble_eq_true rfl) (Nat.le_of_ble_eq_true rfl) (Nat.le_of_ble_eq_true rfl) ?_
        refine X_max lmax_L rfl (by omega) (Nat.le_of_ble_eq_true rfl) (Nat.le_of_ble_eq_true rfl) (Nat.le_of_ble_eq_true rfl) ?_
        exact X_iret rfl rfl ⟨rfl, congrArg (fun q => some (Value.int q)) ((if_neg c4).trans ((if_neg (fun q => by rw [h10] at q; cases q)).trans (if_neg (fun q => by rw [h46] at q; cases q)))).symm⟩ (Nat.le_of_ble_eq_true rfl) (Nat.le_of_ble_eq_true rfl)
      · have h46 : (l) = false := b2_0 c46
        refine X_ld rfl rfl rfl rfl ?_
        refine X_ld rfl rfl rfl rfl ?_
        refine X_get f_L_53 rfl hN rfl ?_
        refine X_icmp_lt rfl (fun c54 => ?_) (fun c54 => ?_)
        · refine X_push (v := .int 0) rfl (by decide +kernel) ?_
          refine X_goto rfl ?_
          exact X_iret rfl rfl ⟨rfl, congrArg (fun q => some (Value.int q)) ((if_neg c4).trans ((if_neg (fun q => by rw [h10] at q; cases q)).trans ((if_pos h46).trans (if_pos c54)))).symm⟩ (Nat.le_of_ble_eq_true rfl) (Nat.le_of_ble_eq_true rfl)
        · refine X_ld rfl rfl rfl rfl ?_
          refine X_ld rfl rfl rfl rfl ?_
          refine X_get f_L_56 rfl hN rfl ?_
          refine X_icmp_le rfl (fun c62 => ?_) (fun c62 => ?_)
          · refine X_ld rfl rfl rfl rfl ?_
            refine X_get f_L_47 rfl hN rfl ?_
            refine X_ld rfl rfl rfl rfl ?_
            refine X_get f_L_50 rfl hN rfl ?_
            refine X_bin rfl rfl ?_
            refine X_push (v := .int 1) rfl (by decide +kernel) ?_
            refine X_bin rfl rfl ?_
            refine X_ld rfl rfl rfl rfl ?_
            refine X_get f_L_50 rfl hN rfl ?_
            refine X_idiv rfl (h4 c4).1 ?_
            exact X_iret rfl rfl ⟨rfl, congrArg (fun q => some (Value.int q)) ((if_neg c4).trans ((if_neg (fun q => by rw [h10] at q; cases q)).trans ((if_pos h46).trans ((if_neg c54).trans (if_neg (Int32.not_lt.mpr c62)))))).symm⟩ (Nat.le_of_ble_eq_true rfl) (Nat.le_of_ble_eq_true rfl)
          · refine X_push (v := .int 0) rfl (by decide +kernel) ?_
            refine X_goto rfl ?_
            exact X_iret rfl rfl ⟨rfl, congrArg (fun q => some (Value.int q)) ((if_neg c4).trans ((if_neg (fun q => by rw [h10] at q; cases q)).trans ((if_pos h46).trans ((if_neg c54).trans (if_pos (Int32.not_le.mp c62)))))).symm⟩ (Nat.le_of_ble_eq_true rfl) (Nat.le_of_ble_eq_true rfl)
    · have h10 : (z) = false := b2_0 c10
      refine X_ld rfl rfl rfl rfl ?_
      refine X_if_eq rfl (fun c14 => ?_) (fun c14 => ?_)
      · have h14 : (l) = false := b2_0 c14
        refine X_ld rfl rfl rfl rfl ?_
        refine X_get f_L_47 rfl hN rfl ?_
        refine X_ld rfl rfl rfl rfl ?_
        refine X_get f_L_50 rfl hN rfl ?_
        refine X_bin rfl rfl ?_
        refine X_push (v := .int 1) rfl (by decide +kernel) ?_
        refine X_bin rfl rfl ?_
        refine X_ld rfl rfl rfl rfl ?_
        refine X_get f_L_50 rfl hN rfl ?_
        refine X_idiv rfl (h4 c4).1 ?_
        exact X_iret rfl rfl ⟨rfl, congrArg (fun q => some (Value.int q)) ((if_neg c4).trans ((if_pos h10).trans (if_pos h14))).symm⟩ (Nat.le_of_ble_eq_true rfl) (Nat.le_of_ble_eq_true rfl)
      · have h14 : (l) = true := b2_1 c14
        refine X_ld rfl rfl rfl rfl ?_
        refine X_get f_L_47 rfl hN rfl ?_
        refine X_push (v := .int 2) rfl (by decide +kernel) ?_
        refine X_bin rfl rfl ?_
        refine X_push (v := .int 3) rfl (by decide +kernel) ?_
        refine X_idiv rfl (by decide) ?_
        refine X_goto rfl ?_
        exact X_iret rfl rfl ⟨rfl, congrArg (fun q => some (Value.int q)) ((if_neg c4).trans ((if_pos h10).trans (if_neg (fun q => by rw [h14] at q; cases q)))).symm⟩ (Nat.le_of_ble_eq_true rfl) (Nat.le_of_ble_eq_true rfl)
  · refine X_push (v := .int 0) rfl (by decide +kernel) ?_
    exact X_iret rfl rfl ⟨rfl, congrArg (fun q => some (Value.int q)) (if_pos c4).symm⟩ (Nat.le_of_ble_eq_true rfl) (Nat.le_of_ble_eq_true rfl)
