/-! ===== the class's reader: lines of columns ===== -/
section RS2
variable {B : XH} {ρ : Nat → Nat} {i k : Nat} {er ea x : Int32} {sv ty hv : Nat → Int32} {nm : Nat → Int64} {z : Int64}
theorem w_nm (h : y_ds ρ B) : x_set (rset B ρ i er ea sv nm ty hv) (ρ 2) (.inr (true, .long, 5, updV (fun j => .long (nm j)) k (.long z))) = rset B ρ i er ea sv (updL nm k z) ty hv := by
  rw [updV_long]
  funext q
  by_cases e : q = ρ 2
  · rw [e, x_set_eq, rs_a1 h]
  · rw [x_set_ne e]
    unfold rset
    by_cases e0 : q = ρ 0
    · rw [if_pos e0, if_pos e0]
    · by_cases e1 : q = ρ 1
      · rw [if_neg e0, if_neg e0, if_pos e1, if_pos e1]
      · rw [if_neg e0, if_neg e0, if_neg e1, if_neg e1, if_neg e, if_neg e]
theorem w_ty (h : y_ds ρ B) : x_set (rset B ρ i er ea sv nm ty hv) (ρ 3) (.inr (true, .int, 5, updV (fun j => .int (ty j)) k (.int x))) = rset B ρ i er ea sv nm (upd ty k x) hv := by
  rw [updV_int]
  funext q
  by_cases e : q = ρ 3
  · rw [e, x_set_eq, rs_a2 h]
  · rw [x_set_ne e]
    unfold rset
    by_cases e0 : q = ρ 0
    · rw [if_pos e0, if_pos e0]
    · by_cases e1 : q = ρ 1
      · rw [if_neg e0, if_neg e0, if_pos e1, if_pos e1]
      · by_cases e2 : q = ρ 2
        · rw [if_neg e0, if_neg e0, if_neg e1, if_neg e1, if_pos e2, if_pos e2]
        · rw [if_neg e0, if_neg e0, if_neg e1, if_neg e1, if_neg e2, if_neg e2, if_neg e, if_neg e]
theorem w_sV {V : Nat → Value} {sv' : Nat → Int32} (h : y_ds ρ B) (hV : V = stV (ρ 2) (ρ 3) (ρ 5) sv') : x_set (rset B ρ i er ea sv nm ty hv) (ρ 1) (.inl (5, V)) = rset B ρ i er ea sv' nm ty hv := by
  rw [hV]
  funext q
  by_cases e : q = ρ 1
  · rw [e, x_set_eq, rs_st h]
  · rw [x_set_ne e]
    unfold rset
    by_cases e0 : q = ρ 0
    · rw [if_pos e0, if_pos e0]
    · rw [if_neg e0, if_neg e0, if_neg e, if_neg e]
theorem stV_upd0 {a b c : Nat} : updV (stV a b c sv) 0 (.int x) = stV a b c (upd sv 0 x) := by
  funext j
  match j with
  | 0 => rfl
  | 1 => rfl
  | 2 => rfl
  | 3 => rfl
  | 4 => rfl
  | 5 => rfl
  | 6 => rfl
  | j + 7 => rfl
end RS2
theorem p_addColumn {G : XE} (hG : x_Kn G) (hK : x_KS G) {B : XH} {J bf K tk ts : Nat → Int32} {tl : Int64} {tv : Nat → Int64} {su : Nat → Nat} {D : Nat → Nat → Int32} {ρ : Nat → Nat} (hρ : y_ds ρ B) {i : Nat} {er ea : Int32} {sv ty hv : Nat → Int32} {nm : Nat → Int64} (d : Nat) {m : Nat} (hsv : sv 0 = nI m) (hm : m < 5) {z : Int64} {t : Int32} : x_M G mX5_addColumn d 0 0 [.ref (ρ 1), .long z, .int t] (cset (rset B ρ i er ea sv nm ty hv) J bf K tk ts tl tv su D) (x_RetV (cset (rset B ρ i er ea (upd sv 0 (nI (m + 1))) (updL nm m z) (upd ty m t) hv) J bf K tk ts tl tv su D)) x_noX := by
  refine X_M hG okX5_addColumn rfl (L := [some (.ref (ρ 1)), some (.long z), none, some (.int t)]) rfl (Nat.le_of_ble_eq_true rfl) (fun ad0 nb0 => ?_)
  refine X_ld rfl rfl rfl rfl ?_
  refine X_get f_X5_39 rfl (c_B (hρ.o 1 (by decide)) (rs_st hρ)) (v := .int (nI m)) (congrArg Value.int hsv) ?_
  refine X_push (v := .int 5) rfl (by decide +kernel) ?_
  refine X_icmp_ge rfl (fun c5 => absurd ((n_le (show (5 : Int32) = nI 5 from rfl) rfl (by omega) (by omega)).mp c5) (by omega)) (fun c5 => ?_)
  refine X_ld rfl rfl rfl rfl ?_
  refine X_get f_X5_9 rfl (c_B (hρ.o 1 (by decide)) (rs_st hρ)) rfl ?_
  refine X_ld rfl rfl rfl rfl ?_
  refine X_get f_X5_39 rfl (c_B (hρ.o 1 (by decide)) (rs_st hρ)) (v := .int (nI m)) (congrArg Value.int hsv) ?_
  refine X_ld rfl rfl rfl rfl ?_
  refine X_last rfl (c_B (hρ.o 2 (by decide)) (rs_a1 hρ)) (vp_in_nI (by omega) (by omega)) ?_
  refine X_heap (N' := cset (rset B ρ i er ea sv (updL nm m z) ty hv) J bf K tk ts tl tv su D) (by rw [y_set (hρ.o 2 (by decide)), nI_clamp (by omega), w_nm hρ]) ?_
  refine X_ld rfl rfl rfl rfl ?_
  refine X_get f_X5_15 rfl (c_B (hρ.o 1 (by decide)) (rs_st hρ)) rfl ?_
  refine X_ld rfl rfl rfl rfl ?_
  refine X_get f_X5_39 rfl (c_B (hρ.o 1 (by decide)) (rs_st hρ)) (v := .int (nI m)) (congrArg Value.int hsv) ?_
  refine X_ld rfl rfl rfl rfl ?_
  refine X_iast rfl (c_B (hρ.o 3 (by decide)) (rs_a2 hρ)) (vp_in_nI (by omega) (by omega)) ?_
  refine X_heap (N' := cset (rset B ρ i er ea sv (updL nm m z) (upd ty m t) hv) J bf K tk ts tl tv su D) (by rw [y_set (hρ.o 3 (by decide)), nI_clamp (by omega), w_ty hρ]) ?_
  refine X_ld rfl rfl rfl rfl ?_
  refine X_dup rfl rfl ?_
  refine X_get f_X5_39 rfl (c_B (hρ.o 1 (by decide)) (rs_st hρ)) (v := .int (nI m)) (congrArg Value.int hsv) ?_
  refine X_push (v := .int 1) rfl (by decide +kernel) ?_
  refine X_bin rfl rfl ?_
  refine X_stk (st' := [.int (nI (m + 1)), .ref (ρ 1)]) (congrArg (fun q => [Value.int q, .ref (ρ 1)]) (m_add (a := m) (b := 1) rfl rfl)) ?_
  refine X_put f_X5_39 rfl (c_B (hρ.o 1 (by decide)) (rs_st hρ)) ⟨rfl, rfl⟩ ?_
  refine X_heap (N' := cset (rset B ρ i er ea (upd sv 0 (nI (m + 1))) (updL nm m z) (upd ty m t) hv) J bf K tk ts tl tv su D) (by rw [y_set (hρ.o 1 (by decide)), w_sV hρ stV_upd0]) ?_
  exact X_vret rfl rfl ⟨rfl, rfl⟩ (Nat.le_of_ble_eq_true rfl) (Nat.le_of_ble_eq_true rfl)
theorem p_addColumn5 {G : XE} (hG : x_Kn G) (hK : x_KS G) {B : XH} {J bf K tk ts : Nat → Int32} {tl : Int64} {tv : Nat → Int64} {su : Nat → Nat} {D : Nat → Nat → Int32} {ρ : Nat → Nat} (hρ : y_ds ρ B) {i : Nat} {er ea : Int32} {sv ty hv : Nat → Int32} {nm : Nat → Int64} (d : Nat) (hsv : sv 0 = nI 5) {z : Int64} {t : Int32} : x_M G mX5_addColumn d 0 0 [.ref (ρ 1), .long z, .int t] (cset (rset B ρ i er ea sv nm ty hv) J bf K tk ts tl tv su D) (x_RetV (cset (rset B ρ i er ea sv nm ty hv) J bf K tk ts tl tv su D)) x_noX := by
  refine X_M hG okX5_addColumn rfl (L := [some (.ref (ρ 1)), some (.long z), none, some (.int t)]) rfl (Nat.le_of_ble_eq_true rfl) (fun ad0 nb0 => ?_)
  refine X_ld rfl rfl rfl rfl ?_
  refine X_get f_X5_39 rfl (c_B (hρ.o 1 (by decide)) (rs_st hρ)) (v := .int (nI 5)) (congrArg Value.int hsv) ?_
  refine X_push (v := .int 5) rfl (by decide +kernel) ?_
  refine X_icmp_ge rfl (fun c5 => ?_) (fun c5 => absurd (by decide) c5)
  exact X_vret rfl rfl ⟨rfl, rfl⟩ (Nat.le_of_ble_eq_true rfl) (Nat.le_of_ble_eq_true rfl)
theorem w_col74 {G : XE} (hG : x_Kn G) (hK : x_KS G) {B : XH} {J bf K tk ts : Nat → Int32} {tl : Int64} {tv : Nat → Int64} {su : Nat → Nat} {D : Nat → Nat → Int32} {ρ : Nat → Nat} (hρ : y_ds ρ B) {i : Nat} {er ea : Int32} {sv ty hv : Nat → Int32} {nm : Nat → Int64} (d : Nat) {m : Nat} (hsv : sv 0 = nI m) (hm : m ≤ 5) {st t : Int32} {z : Int64} {nb0 : Nat} {ad0 : Nat → Nat} {Qn : XH → Option Value → Prop} (kk : ∀ N rr, (∃ sv2 nm2 ty2, (∃ m2, m2 ≤ 5 ∧ sv2 0 = nI m2) ∧ N = cset (rset B ρ i er ea sv2 nm2 ty2 hv) J bf K tk ts tl tv su D ∧ rr = none) → Qn N rr) : x_W G mX6_readColumn (x_Z G (d + 7) 0 0 ad0 nb0 Qn x_noX) (cset (rset B ρ i er ea sv nm ty hv) J bf K tk ts tl tv su D) 0 0 74 [some (.ref (ρ 0)), some (.int st), some (.long z), none, some (.int t)] [] := by
  refine X_ld rfl rfl rfl rfl ?_
  refine X_get f_X6_12 rfl (c_B (hρ.o 0 (by decide)) rs_r) rfl ?_
  refine X_ld rfl rfl rfl rfl ?_
  refine X_ld rfl rfl rfl rfl ?_
  by_cases hm5 : m < 5
  · refine X_vcallv (c_B (hρ.o 1 (by decide)) (rs_st hρ)) l_X6_X5_addColumn (p_addColumn hG hK hρ d hsv hm5) rfl rfl rfl rfl (Nat.le_of_ble_eq_true rfl) (Nat.le_of_ble_eq_true rfl) (by omega) (by omega) (by omega) ?_
    exact X_vret rfl rfl (kk _ _ ⟨_, _, _, ⟨m + 1, by omega, rfl⟩, rfl, rfl⟩) (Nat.le_of_ble_eq_true rfl) (Nat.le_of_ble_eq_true rfl)
  · obtain rfl : m = 5 := by omega
    refine X_vcallv (c_B (hρ.o 1 (by decide)) (rs_st hρ)) l_X6_X5_addColumn (p_addColumn5 hG hK hρ d hsv) rfl rfl rfl rfl (Nat.le_of_ble_eq_true rfl) (Nat.le_of_ble_eq_true rfl) (by omega) (by omega) (by omega) ?_
    exact X_vret rfl rfl (kk _ _ ⟨sv, nm, ty, ⟨5, by omega, hsv⟩, rfl, rfl⟩) (Nat.le_of_ble_eq_true rfl) (Nat.le_of_ble_eq_true rfl)
theorem w_col68X {G : XE} (hG : x_Kn G) (hK : x_KS G) {B : XH} {J bf K tk ts : Nat → Int32} {tl : Int64} {tv : Nat → Int64} {su : Nat → Nat} {D : Nat → Nat → Int32} {ρ : Nat → Nat} (hρ : y_ds ρ B) {i : Nat} {er ea : Int32} {sv ty hv : Nat → Int32} {nm : Nat → Int64} (d : Nat) (her : ¬ er = 0) (hek : z_er K) {m : Nat} (hsv : sv 0 = nI m) (hm : m ≤ 5) {st t : Int32} {z : Int64} {nb0 : Nat} {ad0 : Nat → Nat} {Qn : XH → Option Value → Prop} (kk : ∀ N rr, (∃ sv2 nm2 ty2, (∃ m2, m2 ≤ 5 ∧ sv2 0 = nI m2) ∧ N = cset (rset B ρ i er ea sv2 nm2 ty2 hv) J bf K tk ts tl tv su D ∧ rr = none) → Qn N rr) : x_W G mX6_readColumn (x_Z G (d + 7) 0 0 ad0 nb0 Qn x_noX) (cset (rset B ρ i er ea sv nm ty hv) J bf K tk ts tl tv su D) 0 0 68 [some (.ref (ρ 0)), some (.int st), some (.long z), none, some (.int t)] [] := by
  refine X_ld rfl rfl rfl rfl ?_
  refine X_push (v := .int 59) rfl (by decide +kernel) ?_
  refine X_vcallv (c_B (hρ.o 0 (by decide)) rs_r) l_X6_X6_expectByte (p_expectByteX hG hK hρ d her hek (s := 59) (by decide)) rfl rfl rfl rfl (Nat.le_of_ble_eq_true rfl) (Nat.le_of_ble_eq_true rfl) (by omega) (by omega) (by omega) ?_
  exact w_col74 hG hK hρ d hsv hm kk
theorem w_col62X {G : XE} (hG : x_Kn G) (hK : x_KS G) {B : XH} {J bf K tk ts : Nat → Int32} {tl : Int64} {tv : Nat → Int64} {su : Nat → Nat} {D : Nat → Nat → Int32} {ρ : Nat → Nat} (hρ : y_ds ρ B) {i : Nat} {er ea : Int32} {sv ty hv : Nat → Int32} {nm : Nat → Int64} (d : Nat) (her : ¬ er = 0) (hek : z_er K) {m : Nat} (hsv : sv 0 = nI m) (hm : m ≤ 5) {st : Int32} {z : Int64} {nb0 : Nat} {ad0 : Nat → Nat} {Qn : XH → Option Value → Prop} (kk : ∀ N rr, (∃ sv2 nm2 ty2, (∃ m2, m2 ≤ 5 ∧ sv2 0 = nI m2) ∧ N = cset (rset B ρ i er ea sv2 nm2 ty2 hv) J bf K tk ts tl tv su D ∧ rr = none) → Qn N rr) : x_W G mX6_readColumn (x_Z G (d + 7) 0 0 ad0 nb0 Qn x_noX) (cset (rset B ρ i er ea sv nm ty hv) J bf K tk ts tl tv su D) 0 0 62 [some (.ref (ρ 0)), some (.int st), some (.long z), none, none] [] := by
  refine X_ld rfl rfl rfl rfl ?_
  refine X_vcall (c_B (hρ.o 0 (by decide)) rs_r) l_X6_X6_takeType (p_takeTypeX hG hK hρ d her hek) rfl rfl rfl rfl (Nat.le_of_ble_eq_true rfl) (Nat.le_of_ble_eq_true rfl) (by omega) (by omega) (by omega) ?_
  refine X_st rfl rfl rfl ?_
  exact w_col68X hG hK hρ d her hek hsv hm kk

