/-! ===== ArrayList: <init>, add ===== -/
def y_dfl (ty : Nat → FieldType) : Nat → Value := fun k => defaultValue (ty k)
/-- a list's object, before its constructor -/
theorem y_lini : updV (updV (y_dfl tyJx4a65c) 0 (.int 0)) 1 (.ref 2) = lV 0 2 0 := by
  funext k
  match k with
  | 0 => rfl
  | 1 => rfl
  | k + 2 => rfl
theorem j_initC {G : XE} (hG : x_Kn G) {N : XH} (d : Nat) {a : Nat} : x_M G mJxa1e45_init_da8c8 (d + 1) 0 0 [.ref a] (N) (x_RetV N) x_noX := by
  refine X_M hG okJxa1e45_init_da8c8 rfl (L := [some (.ref a)]) rfl (Nat.le_of_ble_eq_true rfl) (fun ad0 nb0 => ?_)
  refine X_ld rfl rfl rfl rfl ?_
  refine X_obj (x_in 152 (by decide +kernel) rfl) (x_in 93 (by decide +kernel) rfl) (x_in 94 (by decide +kernel) rfl) rfl (by show 1 ≤ d + _; omega) (by show _ ≤ 100 * (d + _); simp; omega) ?_
  exact X_vret rfl rfl ⟨rfl, rfl⟩ (Nat.le_of_ble_eq_true rfl) (Nat.le_of_ble_eq_true rfl)
theorem j_initL {G : XE} (hG : x_Kn G) {N : XH} (d : Nat) {a : Nat} {V : Nat → Value} (hN : N a = some (.inl (0, V))) : x_M G mJxc12de_init_da8c8 (d + 2) 0 0 [.ref a] (N) (x_RetV (x_set N a (.inl (0, updV V 0 (.int 0))))) x_noX := by
  refine X_M hG okJxc12de_init_da8c8 rfl (L := [some (.ref a)]) rfl (Nat.le_of_ble_eq_true rfl) (fun ad0 nb0 => ?_)
  refine X_ld rfl rfl rfl rfl ?_
  refine X_icallv l_Jxc12de_Jxa1e45_init_da8c8 (j_initC hG d) rfl rfl rfl (Nat.le_of_ble_eq_true rfl) (Nat.le_of_ble_eq_true rfl) (by omega) (Nat.le_of_ble_eq_true rfl) (Nat.le_of_ble_eq_true rfl) ?_
  refine X_ld rfl rfl rfl rfl ?_
  refine X_push (v := .int 0) rfl (by decide +kernel) ?_
  refine X_put f_Jxc12de_7 rfl hN ⟨rfl, rfl⟩ ?_
  exact X_vret rfl rfl ⟨rfl, rfl⟩ (Nat.le_of_ble_eq_true rfl) (Nat.le_of_ble_eq_true rfl)
theorem j_init {G : XE} (hG : x_Kn G) (hK : x_KS G) (hM : x_KM G) {N : XH} (d : Nat) {a : Nat} (hN : N a = some (.inl (0, y_dfl tyJx4a65c))) : x_M G mJx4a65c_init_da8c8 (d + 3) 0 0 [.ref a] (N) (x_RetV (x_set N a (.inl (0, lV 0 2 0)))) x_noX := by
  refine X_M hG okJx4a65c_init_da8c8 rfl (L := [some (.ref a)]) rfl (Nat.le_of_ble_eq_true rfl) (fun ad0 nb0 => ?_)
  refine X_ld rfl rfl rfl rfl ?_
  refine X_icallv l_Jx4a65c_Jxc12de_init_da8c8 (j_initL hG d hN) rfl rfl rfl (Nat.le_of_ble_eq_true rfl) (Nat.le_of_ble_eq_true rfl) (by omega) (Nat.le_of_ble_eq_true rfl) (Nat.le_of_ble_eq_true rfl) ?_
  refine X_ld rfl rfl rfl rfl ?_
  refine X_gets (v := .ref 2) (x_in 153 (by decide +kernel) rfl) hK.1.2.2.1 (show (2 : Nat) < 64 by decide) rfl ?_
  refine X_put f_Jx4a65c_9 rfl x_set_eq ⟨rfl, rfl⟩ ?_
  exact X_vret rfl rfl ⟨by rw [x_set_set, y_lini], rfl⟩ (Nat.le_of_ble_eq_true rfl) (Nat.le_of_ble_eq_true rfl)
theorem y_half {a : Nat} (h : a < 2147483648) : nI a >>> ((1 : Int32) &&& 31) = nI (a / 2) := by
  have k := pk_shrN (n := a) h ((1 : Int32) &&& 31) 1 (by decide)
  rw [Nat.pow_one] at k
  exact k
theorem y_newlen {a : Nat} (ha : 2 ≤ a ∧ a ≤ 4000) : nI a + x_max 1 (nI (a / 2)) = nI (a + a / 2) := by
  have e : x_max 1 (nI (a / 2)) = nI (a / 2) := by
    unfold x_max
    by_cases h : (1 : Int32) < nI (a / 2)
    · rw [if_pos h]
    · rw [if_neg h]
      have h2 := mt (n_lt (show (1 : Int32) = nI 1 from rfl) rfl (by omega) (by omega)).mpr h
      rw [show a / 2 = 1 by omega]
      rfl
  rw [e]
  exact nI_add a (a / 2)
theorem j_newLength {G : XE} (hG : x_Kn G) {N : XH} (d : Nat) {a : Nat} (ha : 2 ≤ a ∧ a ≤ 4000) : x_M G mJ8_newLength_cabcc (d + 1) 0 0 [.int (nI a), .int 1, .int (nI (a / 2))] (N) (x_Ret N (.int (nI (a + a / 2)))) x_noX := by
  refine X_M hG okJ8_newLength_cabcc rfl (L := [some (.int (nI a)), some (.int 1), some (.int (nI (a / 2))), none]) rfl (Nat.le_of_ble_eq_true rfl) (fun ad0 nb0 => ?_)
  refine X_ld rfl rfl rfl rfl ?_
  refine X_ld rfl rfl rfl rfl ?_
  refine X_ld rfl rfl rfl rfl ?_
  refine X_max lmax_J8 rfl (by omega) (Nat.le_of_ble_eq_true rfl) (Nat.le_of_ble_eq_true rfl) (Nat.le_of_ble_eq_true rfl) ?_
  refine X_bin rfl rfl ?_
  refine X_stk (st' := [.int (nI (a + a / 2))]) (congrArg (fun q => [Value.int q]) (y_newlen ha)) ?_
  refine X_st rfl rfl rfl ?_
  refine X_push (v := .int 0) rfl (by decide +kernel) ?_
  refine X_ld rfl rfl rfl rfl ?_
  refine X_icmp_ge rfl (fun c10 => absurd ((n_le (b := 0) rfl (show (0 : Int32) = nI 0 from rfl) (by omega) (by omega)).mp c10) (by omega)) (fun c10 => ?_)
  refine X_ld rfl rfl rfl rfl ?_
  refine X_ldc k_J8_200 rfl ?_
  refine X_icmp_gt rfl (fun c16 => absurd ((n_lt (show (2147483639 : Int32) = nI 2147483639 from rfl) rfl (by decide) (by omega)).mp c16) (by omega)) (fun c16 => ?_)
  refine X_ld rfl rfl rfl rfl ?_
  exact X_iret rfl rfl ⟨rfl, rfl⟩ (Nat.le_of_ble_eq_true rfl) (Nat.le_of_ble_eq_true rfl)
/-- a new row with the old one's first things -/
def x_QCp (N : XH) (c2 n : Nat) (f : Nat → Value) : XH → Option Value → Prop := fun N' r => ∃ q g, 64 ≤ q ∧ N q = none ∧ N' = x_set N q (.inr (true, .object "java/lang/Object", c2, g)) ∧ r = some (.ref q) ∧ ∀ j, j < n → g j = f j
theorem y_min_le {a b : Nat} (h : a ≤ b) (hb : b < 2147483648) : x_min (nI a) (nI b) = nI a := by
  unfold x_min
  rw [if_neg (fun q => absurd ((n_lt rfl rfl hb (by omega)).mp q) (by omega))]
theorem j_copyOf3 {G : XE} (hG : x_Kn G) (hK : x_KS G) (hM : x_KM G) {N : XH} (d : Nat) (h0 : N 0 = none) {a n c2 : Nat} {f : Nat → Value} (hN : N a = some (.inr (true, .object "java/lang/Object", n, f))) (hel : ∀ j, j < n → ∃ y, f j = .ref y ∧ y_ob N y) (hn : n ≤ c2) (hc : c2 ≤ 8000) : x_M G mJ7_copyOf_6403c (d + 1) 1 c2 [.ref a, .int (nI c2), .ref 62] (N) (x_QCp N c2 n f) x_noX := by
  refine X_M hG okJ7_copyOf_6403c rfl (L := [some (.ref a), some (.int (nI c2)), some (.ref 62), none]) rfl (Nat.le_of_ble_eq_true rfl) (fun ad0 nb0 => ?_)
  refine X_ld rfl rfl rfl rfl ?_
  refine X_ldcM hM (x_in 856 (by decide +kernel) rfl) rfl ?_
  refine X_acmp_ne (rx := some 62) (ry := some 62) rfl (fun h => absurd rfl h) ?_ rfl
  refine X_ld rfl rfl rfl rfl ?_
  refine X_anewK c2 rfl (List.mem_of_getElem? (i := 6) rfl) (x_in 858 (by decide +kernel) rfl) (List.mem_of_getElem? (i := 857) (by decide +kernel)) (Int32.not_lt.mpr (nI_ge0 (by omega))) (nI_clamp (by omega)) (by omega) (by show 0 + 1 ≤ 1; omega) (by show 0 + c2 ≤ c2; omega) (x_K_any h0 (fun q hq h64 => ?_))
  refine X_goto rfl ?_
  refine X_st rfl rfl rfl ?_
  have hNq : x_set N q (.inr (true, .object "java/lang/Object", c2, fun _ => .null)) a = some (.inr (true, .object "java/lang/Object", n, f)) := (x_set_ne (fun e => by rw [e, hq] at hN; cases hN)).trans hN
  refine X_ld rfl rfl rfl rfl ?_
  refine X_push (v := .int 0) rfl (by decide +kernel) ?_
  refine X_ld rfl rfl rfl rfl ?_
  refine X_push (v := .int 0) rfl (by decide +kernel) ?_
  refine X_ld rfl rfl rfl rfl ?_
  refine X_alen rfl hNq ?_
  refine X_ld rfl rfl rfl rfl ?_
  refine X_min lmin_J7 rfl (by omega) (Nat.le_of_ble_eq_true rfl) (by omega) (by omega) ?_
  refine X_stk (st' := [.int (nI n), .int 0, .ref q, .int 0, .ref a]) (congrArg (fun z => [Value.int z, .int 0, .ref q, .int 0, .ref a]) (y_min_le hn (by omega))) ?_
  have hz : (0 : Int32).toNatClampNeg = 0 := by decide
  refine X_copyr (f := f) (g := fun _ => .null) lcpy_J7 rfl hNq x_set_eq (fun i hi => ?_) (by decide) (by decide) (Int32.not_lt.mpr (nI_ge0 (by omega))) (by rw [hz, nI_clamp (by omega)]; omega) (by rw [hz, nI_clamp (by omega)]; omega) (by omega) (Nat.le_of_ble_eq_true rfl) ?_
  · rw [nI_clamp (by omega)] at hi
    obtain ⟨y, h1, ci, V, C, T, nf, h2, h3⟩ := hel i hi
    exact ⟨y, by rw [hz, Nat.zero_add]; exact h1, ci, V, C, T, nf, (x_set_ne (fun e => by rw [e, hq] at h2; cases h2)).trans h2, h3⟩
  · rw [x_set_set]
    refine X_ld rfl rfl rfl rfl ?_
    exact X_aret rfl rfl (Or.inr ⟨_, rfl⟩) (Or.inr ⟨_, rfl⟩) ⟨q, _, h64, hq, rfl, rfl, fun j hj => by unfold va_cpy; rw [hz, nI_clamp (by omega), if_pos ⟨Nat.zero_le _, by omega⟩, Nat.sub_zero, Nat.zero_add]⟩ (by omega) (by omega)
theorem j_copyOf {G : XE} (hG : x_Kn G) (hK : x_KS G) (hM : x_KM G) {N : XH} (d : Nat) (h0 : N 0 = none) {a n c2 : Nat} {f : Nat → Value} (hN : N a = some (.inr (true, .object "java/lang/Object", n, f))) (hel : ∀ j, j < n → ∃ y, f j = .ref y ∧ y_ob N y) (hn : n ≤ c2) (hc : c2 ≤ 8000) : x_M G mJ7_copyOf_1904c (d + 2) 1 c2 [.ref a, .int (nI c2)] (N) (x_QCp N c2 n f) x_noX := by
  refine X_M hG okJ7_copyOf_1904c rfl (L := [some (.ref a), some (.int (nI c2))]) rfl (Nat.le_of_ble_eq_true rfl) (fun ad0 nb0 => ?_)
  refine X_ld rfl rfl rfl rfl ?_
  refine X_ld rfl rfl rfl rfl ?_
  refine X_ld rfl rfl rfl rfl ?_
  refine X_getC hM (x_in 832 (by decide +kernel) rfl) hN rfl (by omega) (Nat.le_of_ble_eq_true rfl) ?_
  refine X_scallP l_J7_J7_copyOf_6403c (j_copyOf3 hG hK hM d h0 hN hel hn hc) rfl rfl rfl (Nat.le_of_ble_eq_true rfl) (Nat.le_of_ble_eq_true rfl) (by omega) (by omega) (by omega) (fun N1 r hq => ?_)
  obtain ⟨q, g, h64, hq1, rfl, rfl, hg⟩ := hq
  exact X_aret rfl rfl (Or.inr ⟨_, rfl⟩) (Or.inr ⟨_, rfl⟩) ⟨q, g, h64, hq1, rfl, rfl, hg⟩ (by omega) (by omega)
/-- a list's row that is full -/
def y_full (N : XH) (el n : Nat) (p : Nat → Nat) : Prop := (n = 0 ∧ el = 2) ∨ ∃ f, N el = some (.inr (true, .object "java/lang/Object", n, f)) ∧ (10 ≤ n ∧ n ≤ 2000) ∧ ∀ j, j < n → f j = .ref (p j) ∧ y_ob N (p j)
def y_gs (n : Nat) : Nat := if n = 0 then 10 else n + n / 2
def x_QGr (N : XH) (a mc el n : Nat) (m : Int32) (p : Nat → Nat) : XH → Option Value → Prop := fun N' r => ∃ q g, 64 ≤ q ∧ N q = none ∧ N' = x_set (x_set N q (.inr (true, .object "java/lang/Object", y_gs n, g))) a (.inl (0, lV m q n)) ∧ r = some (.ref q) ∧ ∀ j, j < n → g j = .ref (p j)
theorem y_lV {m : Int32} {el n q : Nat} : updV (lV m el n) 1 (.ref q) = lV m q n := by
  funext k
  match k with
  | 0 => rfl
  | 1 => rfl
  | k + 2 => rfl
theorem y_grst {n : Nat} (h : n < 2147483647) : [Value.int (Int32.ofNat n >>> ((1 : Int32) &&& 31)), .int (nI (n + 1) - Int32.ofNat n), .int (Int32.ofNat n)] = [.int (nI (n / 2)), .int 1, .int (nI n)] := by
  have e1 : Int32.ofNat n >>> ((1 : Int32) &&& 31) = nI (n / 2) := y_half (by omega)
  have e2 : nI (n + 1) - Int32.ofNat n = 1 := by
    rw [show Int32.ofNat n = nI n from rfl, m_subc (b := n) (by omega) rfl, Nat.add_sub_cancel_left]
    rfl
  rw [e1, e2]
  rfl
theorem j_grow1 {G : XE} (hG : x_Kn G) (hK : x_KS G) (hM : x_KM G) {N : XH} (d : Nat) (h0 : N 0 = none) {a el n : Nat} {m : Int32} {p : Nat → Nat} (hN : N a = some (.inl (0, lV m el n))) (hf : y_full N el n p) : x_M G mJx4a65c_grow_92f84 (d + 3) 1 (y_gs n) [.ref a, .int (nI (n + 1))] (N) (x_QGr N a 0 el n m p) x_noX := by
  refine X_M hG okJx4a65c_grow_92f84 rfl (L := [some (.ref a), some (.int (nI (n + 1))), none, none]) rfl (Nat.le_of_ble_eq_true rfl) (fun ad0 nb0 => ?_)
  have hne : ∀ q c, N q = none → x_set N q c a = some (.inl (0, lV m el n)) := fun q c hq => (x_set_ne (fun e => by rw [e, hq] at hN; cases hN)).trans hN
  rcases hf with ⟨hn0, he2⟩ | ⟨f, hel, hn10, hfj⟩
  · subst hn0
    subst he2
    obtain ⟨fe, hfe⟩ := hM.2
    refine X_ld rfl rfl rfl rfl ?_
    refine X_get f_Jx4a65c_9 rfl hN rfl ?_
    refine X_alenS (by decide) hfe rfl ?_
    refine X_st rfl rfl rfl ?_
    refine X_ld rfl rfl rfl rfl ?_
    refine X_if_gt rfl (fun c7 => absurd c7 (by decide)) (fun c7 => ?_)
    refine X_ld rfl rfl rfl rfl ?_
    refine X_get f_Jx4a65c_9 rfl hN rfl ?_
    refine X_gets (v := .ref 2) (x_in 153 (by decide +kernel) rfl) hK.1.2.2.1 (show (2 : Nat) < 64 by decide) rfl ?_
    refine X_acmp_eq (rx := some 2) (ry := some 2) rfl (fun _ _ _ _ _ => rfl) (fun _ => ?_) (fun h => absurd rfl h)
    refine X_ld rfl rfl rfl rfl ?_
    refine X_push (v := .int 10) rfl (by decide +kernel) ?_
    refine X_ld rfl rfl rfl rfl ?_
    refine X_max lmax_JA rfl (by omega) (Nat.le_of_ble_eq_true rfl) (Nat.le_of_ble_eq_true rfl) (by omega) ?_
    refine X_stk (st' := [.int 10, .ref a]) rfl ?_
    refine X_anewK 10 rfl (List.mem_of_getElem? (i := 6) rfl) (x_in 864 (by decide +kernel) rfl) (List.mem_of_getElem? (i := 857) (by decide +kernel)) (by decide) rfl (by decide) (by show 0 + 1 ≤ 1; omega) (by show 0 + 10 ≤ y_gs 0; exact Nat.le_refl _) (x_K_any h0 (fun q hq h64 => ?_))
    refine X_dup_x1 rfl rfl rfl ?_
    refine X_put f_Jx4a65c_9 rfl (hne q _ hq) ⟨rfl, rfl⟩ ?_
    rw [y_lV]
    exact X_aret rfl rfl (Or.inr ⟨_, rfl⟩) (Or.inr ⟨_, rfl⟩) ⟨q, _, h64, hq, rfl, rfl, fun j hj => absurd hj (Nat.not_lt_zero _)⟩ (by omega) (Nat.le_refl _)
  · have hgs : y_gs n = n + n / 2 := if_neg (by omega)
    refine X_ld rfl rfl rfl rfl ?_
    refine X_get f_Jx4a65c_9 rfl hN rfl ?_
    refine X_alen rfl hel ?_
    refine X_st rfl rfl rfl ?_
    refine X_ld rfl rfl rfl rfl ?_
    refine X_if_gt rfl (fun c7 => ?_) (fun c7 => absurd ((n_lt (b := n) (show (0 : Int32) = nI 0 from rfl) rfl (by omega) (by omega)).mpr (by omega)) c7)
    refine X_ld rfl rfl rfl rfl ?_
    refine X_ld rfl rfl rfl rfl ?_
    refine X_ld rfl rfl rfl rfl ?_
    refine X_bin rfl rfl ?_
    refine X_ld rfl rfl rfl rfl ?_
    refine X_push (v := .int 1) rfl (by decide +kernel) ?_
    refine X_bin rfl rfl ?_
    refine X_stk (st' := [.int (nI (n / 2)), .int 1, .int (nI n)]) (y_grst (by omega)) ?_
    refine X_scall l_Jx4a65c_J8_newLength_cabcc (j_newLength hG d ⟨by omega, by omega⟩) rfl rfl rfl (Nat.le_of_ble_eq_true rfl) (Nat.le_of_ble_eq_true rfl) (by omega) (Nat.le_of_ble_eq_true rfl) (by omega) ?_
    refine X_st rfl rfl rfl ?_
    refine X_ld rfl rfl rfl rfl ?_
    refine X_ld rfl rfl rfl rfl ?_
    refine X_get f_Jx4a65c_9 rfl hN rfl ?_
    refine X_ld rfl rfl rfl rfl ?_
    refine X_scallP l_Jx4a65c_J7_copyOf_1904c (j_copyOf hG hK hM d h0 hel (fun j hj => ⟨_, hfj j hj⟩) (c2 := n + n / 2) (by omega) (by omega)) rfl rfl rfl (Nat.le_of_ble_eq_true rfl) (Nat.le_of_ble_eq_true rfl) (by omega) (by omega) (by rw [hgs]; omega) (fun N1 r hq => ?_)
    obtain ⟨q, g, h64, hq1, rfl, rfl, hg⟩ := hq
    refine X_stk (st' := [.ref q, .ref a]) rfl ?_
    refine X_dup_x1 rfl rfl rfl ?_
    refine X_put f_Jx4a65c_9 rfl (hne q _ hq1) ⟨rfl, rfl⟩ ?_
    rw [y_lV]
    exact X_aret rfl rfl (Or.inr ⟨_, rfl⟩) (Or.inr ⟨_, rfl⟩) ⟨q, g, h64, hq1, by rw [hgs], rfl, fun j hj => (hg j hj).trans (hfj j hj).1⟩ (by omega) (by rw [hgs]; omega)
theorem j_grow0 {G : XE} (hG : x_Kn G) (hK : x_KS G) (hM : x_KM G) {N : XH} (d : Nat) (h0 : N 0 = none) {a el n : Nat} {m : Int32} {p : Nat → Nat} (hN : N a = some (.inl (0, lV m el n))) (hf : y_full N el n p) : x_M G mJx4a65c_grow_d5877 (d + 4) 1 (y_gs n) [.ref a] (N) (x_QGr N a 0 el n m p) x_noX := by
  refine X_M hG okJx4a65c_grow_d5877 rfl (L := [some (.ref a)]) rfl (Nat.le_of_ble_eq_true rfl) (fun ad0 nb0 => ?_)
  refine X_ld rfl rfl rfl rfl ?_
  refine X_ld rfl rfl rfl rfl ?_
  refine X_get f_Jx4a65c_48 rfl hN rfl ?_
  refine X_push (v := .int 1) rfl (by decide +kernel) ?_
  refine X_bin rfl rfl ?_
  refine X_stk (st' := [.int (nI (n + 1)), .ref a]) (congrArg (fun z => [Value.int z, .ref a]) (m_add (b := 1) rfl rfl)) ?_
  refine X_vcallP hN l_Jx4a65c_Jx4a65c_grow_92f84 (j_grow1 hG hK hM d h0 hN hf) rfl rfl rfl rfl (Nat.le_of_ble_eq_true rfl) (Nat.le_of_ble_eq_true rfl) (by omega) (by omega) (by omega) (fun N1 r hq => ?_)
  obtain ⟨q, g, h64, hq1, rfl, rfl, hg⟩ := hq
  exact X_aret rfl rfl (Or.inr ⟨_, rfl⟩) (Or.inr ⟨_, rfl⟩) ⟨q, g, h64, hq1, rfl, rfl, hg⟩ (by omega) (by omega)
/-- a list with its row: of n things p -/
def y_ls (N : XH) (a : Nat) (m : Int32) (el n : Nat) (p : Nat → Nat) : Prop := N a = some (.inl (0, lV m el n)) ∧ ((n = 0 ∧ el = 2) ∨ ∃ cap f, 64 ≤ el ∧ N el = some (.inr (true, .object "java/lang/Object", cap, f)) ∧ (10 ≤ cap ∧ n ≤ cap ∧ 2 * cap ≤ 3 * n + 20) ∧ ∀ j, j < n → f j = .ref (p j) ∧ y_ob N (p j))
/-- the list has one more -/
def y_ad (N : XH) (a : Nat) (m : Int32) (el n : Nat) (p : Nat → Nat) (v : Nat) (N' : XH) : Prop := ∃ el' cap f, (el' = el ∧ ¬ el = 2 ∨ N el' = none) ∧ 64 ≤ el' ∧ N' = x_set (x_set N el' (.inr (true, .object "java/lang/Object", cap, f))) a (.inl (0, lV (m + 1) el' (n + 1))) ∧ (10 ≤ cap ∧ n + 1 ≤ cap ∧ 2 * cap ≤ 3 * (n + 1) + 20) ∧ (∀ j, j < n → f j = .ref (p j)) ∧ f n = .ref v
def x_QAd (N : XH) (a : Nat) (m : Int32) (el n : Nat) (p : Nat → Nat) (v : Nat) (r0 : Option Value) : XH → Option Value → Prop := fun N' r => y_ad N a m el n p v N' ∧ r = r0
theorem y_ob_set {N : XH} {o q : Nat} {c : XC} (h : y_ob N o) (hq : ∀ V, ¬ N q = some (.inl V)) : y_ob (x_set N q c) o := by
  obtain ⟨ci, V, C, T, nf, h1, h2⟩ := h
  exact ⟨ci, V, C, T, nf, (x_set_ne (fun e => hq _ (by rw [← e]; exact h1))).trans h1, h2⟩
theorem y_obn_set {N : XH} {o q ci : Nat} {V : Nat → Value} (h : y_ob N o) (hq : ∀ V', N q = some (.inl V') → V'.1 = ci) : y_ob (x_set N q (.inl (ci, V))) o := by
  obtain ⟨cj, W, C, T, nf, h1, h2, h3⟩ := h
  by_cases e : o = q
  · subst e
    have e2 := hq _ h1
    dsimp only at e2
    exact ⟨ci, V, C, T, nf, x_set_eq, by rw [← e2]; exact h2, h3⟩
  · exact ⟨cj, W, C, T, nf, (x_set_ne e).trans h1, h2, h3⟩
theorem y_lV2 {m : Int32} {el n q : Nat} : ∀ k, k < 3 → updV (lV m el n) 2 (.int (nI q)) k = lV m el q k := by
  intro k hk
  have h3 : k = 0 ∨ k = 1 ∨ k = 2 := by omega
  rcases h3 with rfl | rfl | rfl <;> rfl
theorem y_lV0 {m x : Int32} {el n : Nat} : updV (lV m el n) 0 (.int x) = lV x el n := by
  funext j
  match j with
  | 0 => rfl
  | 1 => rfl
  | j + 2 => rfl
/-- an object's fields are told otherwise -/
theorem X_recell {G : XE} {M : XMI} {Z : XZ} {N : XH} {cells slots pc : Nat} {L : List (Option Value)} {st : List Value} {o ci n : Nat} {V V' : Nat → Value} {C : String} {T : u_T} (hc : vwCl[ci]? = some (C, T, n)) (h : ∀ k, k < n → V k = V' k) (kk : x_W G M Z (x_set N o (.inl (ci, V'))) cells slots pc L st) : x_W G M Z (x_set N o (.inl (ci, V))) cells slots pc L st := by
  intro p e s m args below meth c ad nb H locs ls B hR hn he hS hl hvs
  refine kk p e s m args below meth c ad nb H locs ls B ?_ hn he hS hl hvs
  obtain ⟨h1, h2, h3, h4, h5⟩ := hR
  have dom : ∀ k d, x_set N o (.inl (ci, V')) k = some d → ∃ d', x_set N o (.inl (ci, V)) k = some d' := fun k d hk => by
    by_cases e : k = o
    · rw [e]; exact ⟨_, x_set_eq⟩
    · rw [x_set_ne e] at hk ⊢; exact ⟨d, hk⟩
  refine ⟨fun k d k0 hk => ?_, fun i j di dj i0 j0 hi hj => ?_, h3, h4, fun d hd => ?_⟩
  · by_cases e : k = o
    · subst e
      rw [x_set_eq] at hk
      cases hk
      obtain ⟨g1, g2, g3, r, g4, g5⟩ := h1 k _ k0 x_set_eq
      cases hc.symm.trans g4
      exact ⟨g1, fun r hr j hj => by cases hc.symm.trans hr; rw [← h j hj]; exact g2 _ hc j hj, g3, _, hc, g5.to fun k hk => by rw [h k hk]⟩
    · rw [x_set_ne e] at hk
      exact h1 k d k0 (by rw [x_set_ne e]; exact hk)
  · obtain ⟨ei, hi'⟩ := dom i di hi
    obtain ⟨ej, hj'⟩ := dom j dj hj
    exact h2 i j ei ej i0 j0 hi' hj'
  · by_cases e : o = 0
    · subst e
      obtain ⟨f, h6, -⟩ := h5 _ x_set_eq
      cases h6
      cases hc
    · rw [x_set_ne (Ne.symm e)] at hd
      exact h5 d (by rw [x_set_ne (Ne.symm e)]; exact hd)
theorem y_s3 {N : XH} {a q : Nat} {x y z : XC} : x_set (x_set (x_set N a x) q y) a z = x_set (x_set N q y) a z := by
  funext k
  unfold x_set
  by_cases h : k = a
  · rw [if_pos h, if_pos h]
  · rw [if_neg h, if_neg h, if_neg h]
theorem y_s4 {N : XH} {a q : Nat} {x y z w : XC} : x_set (x_set (x_set (x_set N q x) a y) q z) a w = x_set (x_set N q z) a w := by
  rw [y_s3]
  funext k
  unfold x_set
  by_cases h : k = a
  · rw [if_pos h, if_pos h]
  · rw [if_neg h, if_neg h]
    by_cases h2 : k = q
    · rw [if_pos h2, if_pos h2]
    · rw [if_neg h2, if_neg h2, if_neg h2]
def y_ad3 (N : XH) (a : Nat) (m : Int32) (el n : Nat) (p : Nat → Nat) (v : Nat) (N' : XH) : Prop := ∃ el' cap f, (el' = el ∧ ¬ el = 2 ∨ N el' = none) ∧ 64 ≤ el' ∧ N' = x_set (x_set N el' (.inr (true, .object "java/lang/Object", cap, f))) a (.inl (0, lV m el' (n + 1))) ∧ (10 ≤ cap ∧ n + 1 ≤ cap ∧ 2 * cap ≤ 3 * (n + 1) + 20) ∧ (∀ j, j < n → f j = .ref (p j)) ∧ f n = .ref v
theorem y_gs_ad {n : Nat} (h : n ≤ 2000) (hn : n = 0 ∨ 10 ≤ n) : 10 ≤ y_gs n ∧ n + 1 ≤ y_gs n ∧ 2 * y_gs n ≤ 3 * (n + 1) + 20 := by
  unfold y_gs
  by_cases e : n = 0
  · rw [if_pos e]; omega
  · rw [if_neg e]; omega
theorem j_add3 {G : XE} (hG : x_Kn G) (hK : x_KS G) (hM : x_KM G) {N : XH} (d : Nat) (h0 : N 0 = none) {a el n v : Nat} {m : Int32} {p : Nat → Nat} (hl : y_ls N a m el n p) (hv : y_ob N v) (hn : n ≤ 2000) : x_M G mJx4a65c_add_72be8 (d + 5) 1 (y_gs n) [.ref a, .ref v, .ref el, .int (nI n)] (N) (fun N' r => y_ad3 N a m el n p v N' ∧ r = none) x_noX := by
  refine X_M hG okJx4a65c_add_72be8 rfl (L := [some (.ref a), some (.ref v), some (.ref el), some (.int (nI n))]) rfl (Nat.le_of_ble_eq_true rfl) (fun ad0 nb0 => ?_)
  obtain ⟨hN, hrow⟩ := hl
  rcases hrow with ⟨hn0, he2⟩ | ⟨cap, f, h64, hel, hcap, hfj⟩
  · have hng : n = 0 ∨ 10 ≤ n := Or.inl hn0
    have hn00 := hn0
    subst he2
    obtain ⟨fe, hfe⟩ := hM.2
    refine X_ld rfl rfl rfl rfl ?_
    refine X_ld rfl rfl rfl rfl ?_
    refine X_alenS (by decide) hfe rfl ?_
    refine X_icmp_ne rfl (fun c3 => absurd (congrArg nI hn0) c3) (fun c3 => ?_)
    refine X_ld rfl rfl rfl rfl ?_
    refine X_vcallP hN l_Jx4a65c_Jx4a65c_grow_d5877 (j_grow0 hG hK hM d h0 (p := p) hN (Or.inl ⟨hn0, rfl⟩)) rfl rfl rfl rfl (Nat.le_of_ble_eq_true rfl) (Nat.le_of_ble_eq_true rfl) (by omega) (by omega) (by omega) (fun N1 r hq => ?_)
    obtain ⟨q, g, h64, hq1, rfl, rfl, hg⟩ := hq
    refine X_stk (st' := [.ref q]) rfl ?_
    have hqa : ¬ q = a := fun e => by rw [e, hN] at hq1; cases hq1
    have hvq := y_obn_set (ci := 0) (V := lV m q n) (y_ob_set (c := .inr (true, .object "java/lang/Object", y_gs n, g)) hv (q := q) (fun V e => by rw [hq1] at e; cases e)) (q := a) (fun V e => by rw [x_set_ne (Ne.symm hqa), hN] at e; cases e; rfl)
    have hga := y_gs_ad hn hng
    refine X_st rfl rfl rfl ?_
    refine X_ld rfl rfl rfl rfl ?_
    refine X_ld rfl rfl rfl rfl ?_
    refine X_ld rfl rfl rfl rfl ?_
    refine X_aastO rfl ((x_set_ne hqa).trans x_set_eq) hvq (vp_in_nI (by omega) (by omega)) ?_
    refine X_ld rfl rfl rfl rfl ?_
    refine X_ld rfl rfl rfl rfl ?_
    refine X_push (v := .int 1) rfl (by decide +kernel) ?_
    refine X_bin rfl rfl ?_
    refine X_stk (st' := [.int (nI (n + 1)), .ref a]) (congrArg (fun z => [Value.int z, .ref a]) (m_add (b := 1) rfl rfl)) ?_
    refine X_put f_Jx4a65c_48 rfl ((x_set_ne (Ne.symm hqa)).trans x_set_eq) ⟨rfl, rfl⟩ ?_
    refine X_recell (n := 3) rfl y_lV2 ?_
    rw [y_s4, nI_clamp (by omega)]
    exact X_vret rfl rfl ⟨⟨q, y_gs n, updV g n (.ref v), Or.inr hq1, h64, rfl, by omega, fun j hj => by unfold updV; rw [if_neg (by omega)]; exact hg j hj, by unfold updV; rw [if_pos rfl]⟩, rfl⟩ (by omega) (by omega)
  · have hne : ¬ el = a := fun e => by rw [e, hN] at hel; cases hel
    by_cases hlt : n = cap
    · subst hlt
      have hng : n = 0 ∨ 10 ≤ n := Or.inr hcap.1
      refine X_ld rfl rfl rfl rfl ?_
      refine X_ld rfl rfl rfl rfl ?_
      refine X_alen rfl hel ?_
      refine X_icmp_ne rfl (fun c3 => absurd rfl c3) (fun c3 => ?_)
      refine X_ld rfl rfl rfl rfl ?_
      refine X_vcallP hN l_Jx4a65c_Jx4a65c_grow_d5877 (j_grow0 hG hK hM d h0 (p := p) hN (Or.inr ⟨f, hel, ⟨by omega, hn⟩, hfj⟩)) rfl rfl rfl rfl (Nat.le_of_ble_eq_true rfl) (Nat.le_of_ble_eq_true rfl) (by omega) (by omega) (by omega) (fun N1 r hq => ?_)
      obtain ⟨q, g, h64, hq1, rfl, rfl, hg⟩ := hq
      refine X_stk (st' := [.ref q]) rfl ?_
      have hqa : ¬ q = a := fun e => by rw [e, hN] at hq1; cases hq1
      have hvq := y_obn_set (ci := 0) (V := lV m q n) (y_ob_set (c := .inr (true, .object "java/lang/Object", y_gs n, g)) hv (q := q) (fun V e => by rw [hq1] at e; cases e)) (q := a) (fun V e => by rw [x_set_ne (Ne.symm hqa), hN] at e; cases e; rfl)
      have hga := y_gs_ad hn hng
      refine X_st rfl rfl rfl ?_
      refine X_ld rfl rfl rfl rfl ?_
      refine X_ld rfl rfl rfl rfl ?_
      refine X_ld rfl rfl rfl rfl ?_
      refine X_aastO rfl ((x_set_ne hqa).trans x_set_eq) hvq (vp_in_nI (by omega) (by omega)) ?_
      refine X_ld rfl rfl rfl rfl ?_
      refine X_ld rfl rfl rfl rfl ?_
      refine X_push (v := .int 1) rfl (by decide +kernel) ?_
      refine X_bin rfl rfl ?_
      refine X_stk (st' := [.int (nI (n + 1)), .ref a]) (congrArg (fun z => [Value.int z, .ref a]) (m_add (b := 1) rfl rfl)) ?_
      refine X_put f_Jx4a65c_48 rfl ((x_set_ne (Ne.symm hqa)).trans x_set_eq) ⟨rfl, rfl⟩ ?_
      refine X_recell (n := 3) rfl y_lV2 ?_
      rw [y_s4, nI_clamp (by omega)]
      exact X_vret rfl rfl ⟨⟨q, y_gs n, updV g n (.ref v), Or.inr hq1, h64, rfl, by omega, fun j hj => by unfold updV; rw [if_neg (by omega)]; exact hg j hj, by unfold updV; rw [if_pos rfl]⟩, rfl⟩ (by omega) (by omega)
    · refine X_ld rfl rfl rfl rfl ?_
      refine X_ld rfl rfl rfl rfl ?_
      refine X_alen rfl hel ?_
      refine X_icmp_ne rfl (fun c3 => ?_) (fun c3 => absurd ((n_eq (x := nI n) (y := Int32.ofNat cap) (a := n) (b := cap) rfl rfl (by omega) (by omega)).mp c3) hlt)
      refine X_ld rfl rfl rfl rfl ?_
      refine X_ld rfl rfl rfl rfl ?_
      refine X_ld rfl rfl rfl rfl ?_
      refine X_aastO rfl hel hv (vp_in_nI (by omega) (by omega)) ?_
      refine X_heap (N' := x_set N el (.inr (true, .object "java/lang/Object", cap, updV f n (.ref v)))) (by rw [nI_clamp (by omega)]) ?_
      refine X_ld rfl rfl rfl rfl ?_
      refine X_ld rfl rfl rfl rfl ?_
      refine X_push (v := .int 1) rfl (by decide +kernel) ?_
      refine X_bin rfl rfl ?_
      refine X_stk (st' := [.int (nI (n + 1)), .ref a]) (congrArg (fun z => [Value.int z, .ref a]) (m_add (b := 1) rfl rfl)) ?_
      refine X_put f_Jx4a65c_48 rfl ((x_set_ne (Ne.symm hne)).trans hN) ⟨rfl, rfl⟩ ?_
      refine X_recell (n := 3) rfl y_lV2 ?_
      exact X_vret rfl rfl ⟨⟨el, cap, updV f n (.ref v), Or.inl ⟨rfl, by omega⟩, h64, rfl, by omega, fun j hj => by unfold updV; rw [if_neg (by omega)]; exact (hfj j hj).1, by unfold updV; rw [if_pos rfl]⟩, rfl⟩ (by omega) (by omega)
theorem j_add {G : XE} (hG : x_Kn G) (hK : x_KS G) (hM : x_KM G) {N : XH} (d : Nat) (h0 : N 0 = none) {a el n v : Nat} {m : Int32} {p : Nat → Nat} (hl : y_ls N a m el n p) (hv : y_ob N v) (hn : n ≤ 2000) : x_M G mJx4a65c_add_9ea2d (d + 6) 1 (y_gs n) [.ref a, .ref v] (N) (x_QAd N a m el n p v (some (.int 1))) x_noX := by
  refine X_M hG okJx4a65c_add_9ea2d rfl (L := [some (.ref a), some (.ref v)]) rfl (Nat.le_of_ble_eq_true rfl) (fun ad0 nb0 => ?_)
  obtain ⟨hN, hrow⟩ := hl
  have hlk : Cond.fieldLink (x_own mJx4a65c_add_9ea2d) 63 "java/util/ArrayList" (TJx4a65c 0).2.1 (TJx4a65c 0).2.2.1 ∈ x_T := x_in 158 (by decide +kernel) rfl
  have hsm : Cond.sameField "java/util/ArrayList" (TJx4a65c 0).1 (TJx4a65c 0).2.1 (TJx4a65c 0).2.2.1 ∈ x_T := x_in 159 (by decide +kernel) rfl
  refine X_ld rfl rfl rfl rfl ?_
  refine X_dup rfl rfl ?_
  refine X_getI cl_0 (by decide) hlk hsm rfl hN rfl ?_
  refine X_push (v := .int 1) rfl (by decide +kernel) ?_
  refine X_bin rfl rfl ?_
  refine X_putI cl_0 (by decide) rfl hlk hsm rfl hN ⟨rfl, rfl⟩ ?_
  rw [y_lV0]
  have hNa : x_set N a (.inl (0, lV (m + 1) el n)) a = some (.inl (0, lV (m + 1) el n)) := x_set_eq
  have hob : ∀ w, y_ob N w → y_ob (x_set N a (.inl (0, lV (m + 1) el n))) w := fun w hw => y_obn_set hw (fun V e => by rw [hN] at e; cases e; rfl)
  refine X_ld rfl rfl rfl rfl ?_
  refine X_ld rfl rfl rfl rfl ?_
  refine X_ld rfl rfl rfl rfl ?_
  refine X_get f_Jx4a65c_9 rfl hNa rfl ?_
  refine X_ld rfl rfl rfl rfl ?_
  refine X_get f_Jx4a65c_48 rfl hNa rfl ?_
  have hls : y_ls (x_set N a (.inl (0, lV (m + 1) el n))) a (m + 1) el n p := by
    refine ⟨hNa, ?_⟩
    rcases hrow with h | ⟨cap, f, h64, hel, hcap, hfj⟩
    · exact Or.inl h
    · exact Or.inr ⟨cap, f, h64, (x_set_ne (fun e => by rw [e, hN] at hel; cases hel)).trans hel, hcap, fun j hj => ⟨(hfj j hj).1, hob _ (hfj j hj).2⟩⟩
  have h0a : x_set N a (.inl (0, lV (m + 1) el n)) 0 = none := by
    by_cases e : 0 = a
    · rw [← e, h0] at hN; cases hN
    · rw [x_set_ne e]; exact h0
  refine X_vcallP hNa l_Jx4a65c_Jx4a65c_add_72be8 (j_add3 hG hK hM d h0a hls (hob _ hv) hn) rfl rfl rfl rfl (Nat.le_of_ble_eq_true rfl) (Nat.le_of_ble_eq_true rfl) (by omega) (by omega) (by omega) (fun N1 r hq => ?_)
  obtain ⟨⟨el2, cap, f, q1, q2, rfl, q4⟩, rfl⟩ := hq
  refine X_stk (st' := []) rfl ?_
  refine X_push (v := .int 1) rfl (by decide +kernel) ?_
  refine X_zret rfl rfl (by decide) ⟨⟨el2, cap, f, ?_, q2, y_s3, q4⟩, rfl⟩ (by omega) (by omega)
  rcases q1 with h | h
  · exact Or.inl h
  · refine Or.inr ?_
    by_cases e : el2 = a
    · rw [e, hNa] at h; cases h
    · rwa [x_set_ne e] at h

