/-! ===== String: length, charAt of the grammar's words ===== -/
theorem c_coder {G : XE} (hG : x_Kn G) (hK : x_KS G) {N : XH} (d : Nat)  (i : Nat) (hi : i < 26) : x_M G mJ0_coder_7d493 d 0 0 [.ref (4 + i)] (N) (x_Ret N (.int 0)) x_noX := by
  refine X_M hG okJ0_coder_7d493 rfl (L := [some (.ref (4 + i))]) rfl (Nat.le_of_ble_eq_true rfl) (fun ad0 nb0 => ?_)
  refine X_gets (v := .int 1) (x_in 546 (by decide +kernel) rfl) hK.1.1 trivial rfl ?_
  refine X_if_eq rfl (fun c3 => absurd c3 (by decide)) (fun c3 => ?_)
  refine X_ld rfl rfl rfl rfl ?_
  refine X_getS (v := .int 0) (by omega) (x_in 1449 (by decide +kernel) rfl) (hK.2.1 i hi).2.1 trivial rfl ?_
  refine X_goto rfl ?_
  exact X_zret rfl rfl rfl ⟨rfl, rfl⟩ (Nat.le_of_ble_eq_true rfl) (Nat.le_of_ble_eq_true rfl)
theorem c_isLatin1 {G : XE} (hG : x_Kn G) (hK : x_KS G) {N : XH} (d : Nat)  (i : Nat) (hi : i < 26) : x_M G mJ0_isLatin1_aae02 d 0 0 [.ref (4 + i)] (N) (x_Ret N (.int 1)) x_noX := by
  refine X_M hG okJ0_isLatin1_aae02 rfl (L := [some (.ref (4 + i))]) rfl (Nat.le_of_ble_eq_true rfl) (fun ad0 nb0 => ?_)
  refine X_gets (v := .int 1) (x_in 546 (by decide +kernel) rfl) hK.1.1 trivial rfl ?_
  refine X_if_eq rfl (fun c3 => absurd c3 (by decide)) (fun c3 => ?_)
  refine X_ld rfl rfl rfl rfl ?_
  refine X_getS (v := .int 0) (by omega) (x_in 1449 (by decide +kernel) rfl) (hK.2.1 i hi).2.1 trivial rfl ?_
  refine X_if_ne rfl (fun c10 => absurd (by decide) c10) (fun c10 => ?_)
  refine X_push (v := .int 1) rfl (by decide +kernel) ?_
  refine X_goto rfl ?_
  exact X_zret rfl rfl rfl ⟨rfl, rfl⟩ (Nat.le_of_ble_eq_true rfl) (Nat.le_of_ble_eq_true rfl)
theorem x_w_len : ∀ i, (x_w i).length < 8 := fun i => by
  unfold x_w
  have h : ∀ k, k < 13 → (x_wd.getD k []).length < 8 := by decide
  exact h _ (Nat.mod_lt _ (by decide))
theorem x_sh0 (x : Int32) : x >>> ((0 : Int32) &&& 31) = x := by
  rw [show (0 : Int32) &&& 31 = 0 by decide]
  exact Int32.shiftRight_zero
theorem x_st_mm (i : Nat) : x_st i ∈ x_lw ∨ x_st i ∈ x_wd := by
  unfold x_st
  by_cases h : i < 13
  · rw [if_pos h]
    refine Or.inl ?_
    have h0 : x_lw.getD 0 [] ∈ x_lw := by decide +kernel
    rw [List.getD_eq_getElem?_getD]
    cases e : x_lw[i]? with
    | none => exact h0
    | some w => exact List.mem_of_getElem? e
  · rw [if_neg h]
    refine Or.inr ?_
    unfold x_w
    have h13 : i % 13 < x_wd.length := Nat.mod_lt _ (by decide)
    rw [List.getD_eq_getElem?_getD, List.getElem?_eq_getElem h13]
    exact List.getElem_mem h13
theorem x_st_ch : ((x_lw ++ x_wd).all fun w => decide (w.length < 64) && w.all fun b => decide (((b &&& 255).toUInt32 % 65536).toInt32 = b) && decide (b.toUInt32.toUInt16.toUInt32.toInt32 = b) && decide (0 ≤ b) && decide (b ≤ 127)) = true := by decide +kernel
theorem x_st_ok (i : Nat) : (decide ((x_st i).length < 64) && (x_st i).all fun b => decide (((b &&& 255).toUInt32 % 65536).toInt32 = b) && decide (b.toUInt32.toUInt16.toUInt32.toInt32 = b) && decide (0 ≤ b) && decide (b ≤ 127)) = true := List.all_eq_true.mp x_st_ch _ (List.mem_append.mpr (x_st_mm i))
theorem x_st_len (i : Nat) : (x_st i).length < 64 := of_decide_eq_true (Bool.and_eq_true_iff.mp (x_st_ok i)).1
theorem x_st_mem (i k : Nat) (hk : k < (x_st i).length) : ((((x_st i).getD k 0 &&& 255).toUInt32 % 65536).toInt32 = (x_st i).getD k 0) ∧ ((x_st i).getD k 0).toUInt32.toUInt16.toUInt32.toInt32 = (x_st i).getD k 0 ∧ (0 : Int32) ≤ (x_st i).getD k 0 ∧ (x_st i).getD k 0 ≤ 127 := by
  have hb : (x_st i).getD k 0 ∈ x_st i := by
    rw [List.getD_eq_getElem?_getD, List.getElem?_eq_getElem hk]
    exact List.getElem_mem hk
  have h2 := List.all_eq_true.mp (Bool.and_eq_true_iff.mp (x_st_ok i)).2 _ hb
  simp only [Bool.and_eq_true, decide_eq_true_eq] at h2
  exact ⟨h2.1.1.1, h2.1.1.2, h2.1.2, h2.2⟩
theorem x_st_nar (i k : Nat) (hk : k < (x_st i).length) : narrow .char (.int ((x_st i).getD k 0)) = .int ((x_st i).getD k 0) := congrArg Value.int (x_st_mem i k hk).2.1
theorem c_strlenT {G : XE} (hG : x_Kn G) (hK : x_KS G) {N : XH} (d : Nat)  (i : Nat) (hi : i < 26) : x_M G mJ0_length_8abf5 (d + 1) 0 0 [.ref (4 + i)] (N) (x_Ret N (.int (nI (x_st i).length))) x_noX := by
  refine X_M hG okJ0_length_8abf5 rfl (L := [some (.ref (4 + i))]) rfl (Nat.le_of_ble_eq_true rfl) (fun ad0 nb0 => ?_)
  refine X_ld rfl rfl rfl rfl ?_
  refine X_getS (v := .ref (30 + i)) (by omega) (x_in 1448 (by decide +kernel) rfl) (hK.2.1 i hi).2.2.1 (show 30 + i < 64 by omega) rfl ?_
  refine X_alenS (by omega) (hK.2.1 i hi).2.2.2 rfl ?_
  refine X_ld rfl rfl rfl rfl ?_
  refine X_callF (o := 4 + i) (by omega) (hK.2.1 i hi).1 l_J0_J0_coder_7d493 (c_coder hG hK d i hi) rfl rfl rfl (Nat.le_of_ble_eq_true rfl) (x_fit_of (Nat.le_of_ble_eq_true rfl) (Nat.le_refl _) (Nat.le_of_ble_eq_true rfl) (Nat.le_of_ble_eq_true rfl)) ?_
  refine X_bin rfl rfl ?_
  refine X_stk (congrArg (fun q => Value.int q :: _) (x_sh0 (nI (x_st i).length))) ?_
  exact X_iret rfl rfl ⟨rfl, rfl⟩ (Nat.le_of_ble_eq_true rfl) (Nat.le_of_ble_eq_true rfl)
theorem c_pchkN {G : XE} (hG : x_Kn G) {N : XH} (d : Nat)  {x y : Int32} (a b : Nat) (hx : x = nI a) (hy : y = nI b) (hab : a < b) (hb : b < 2147483648) : x_M G mJ3_checkIndex_8e157 d 0 0 [.int x, .int y, .null] (N) (x_Ret N (.int x)) x_noX := by
  refine X_M hG okJ3_checkIndex_8e157 rfl (L := [some (.int x), some (.int y), some (.null)]) rfl (Nat.le_of_ble_eq_true rfl) (fun ad0 nb0 => ?_)
  refine X_ld rfl rfl rfl rfl ?_
  refine X_if_lt rfl (fun c1 => absurd ((n_lt (b := 0) hx (show (0 : Int32) = nI 0 from rfl) (by omega) (by omega)).mp c1) (by omega)) (fun c1 => ?_)
  refine X_ld rfl rfl rfl rfl ?_
  refine X_ld rfl rfl rfl rfl ?_
  refine X_icmp_lt rfl (fun c6 => ?_) (fun c6 => absurd ((n_lt hx hy (by omega) (by omega)).mpr (by omega)) c6)
  refine X_ld rfl rfl rfl rfl ?_
  exact X_iret rfl rfl ⟨rfl, rfl⟩ (Nat.le_of_ble_eq_true rfl) (Nat.le_of_ble_eq_true rfl)
theorem c_pchkR {G : XE} (hG : x_Kn G) {N : XH} (d : Nat)  {x y : Int32} (a b : Nat) (hx : x = nI a) (hy : y = nI b) (hab : a < b) (hb : b < 2147483648) : x_M G mJ3_checkIndex_8e157 d 0 0 [.int x, .int y, .ref 3] (N) (x_Ret N (.int x)) x_noX := by
  refine X_M hG okJ3_checkIndex_8e157 rfl (L := [some (.int x), some (.int y), some (.ref 3)]) rfl (Nat.le_of_ble_eq_true rfl) (fun ad0 nb0 => ?_)
  refine X_ld rfl rfl rfl rfl ?_
  refine X_if_lt rfl (fun c1 => absurd ((n_lt (b := 0) hx (show (0 : Int32) = nI 0 from rfl) (by omega) (by omega)).mp c1) (by omega)) (fun c1 => ?_)
  refine X_ld rfl rfl rfl rfl ?_
  refine X_ld rfl rfl rfl rfl ?_
  refine X_icmp_lt rfl (fun c6 => ?_) (fun c6 => absurd ((n_lt hx hy (by omega) (by omega)).mpr (by omega)) c6)
  refine X_ld rfl rfl rfl rfl ?_
  exact X_iret rfl rfl ⟨rfl, rfl⟩ (Nat.le_of_ble_eq_true rfl) (Nat.le_of_ble_eq_true rfl)
theorem c_schk {G : XE} (hG : x_Kn G) (hK : x_KS G) {N : XH} (d : Nat) {x y : Int32} (a b : Nat) (hx : x = nI a) (hy : y = nI b) (hab : a < b) (hb : b < 2147483648) : x_M G mJ0_checkIndex_df160 (d + 1) 0 0 [.int x, .int y] (N) (x_RetV N) x_noX := by
  refine X_M hG okJ0_checkIndex_df160 rfl (L := [some (.int x), some (.int y)]) rfl (Nat.le_of_ble_eq_true rfl) (fun ad0 nb0 => ?_)
  refine X_ld rfl rfl rfl rfl ?_
  refine X_ld rfl rfl rfl rfl ?_
  refine X_getsq (x_in 562 (by decide +kernel) rfl) hK.1.2.1 rfl (fun v hv => ?_)
  rcases hv with rfl | rfl
  · refine X_scall l_J0_J3_checkIndex_8e157 (c_pchkN hG d a b hx hy hab hb) rfl rfl rfl (Nat.le_of_ble_eq_true rfl) (Nat.le_of_ble_eq_true rfl) (Nat.le_refl _) (Nat.le_of_ble_eq_true rfl) (Nat.le_of_ble_eq_true rfl) ?_
    refine X_pop rfl rfl ?_
    exact X_vret rfl rfl ⟨rfl, rfl⟩ (Nat.le_of_ble_eq_true rfl) (Nat.le_of_ble_eq_true rfl)
  · refine X_scall l_J0_J3_checkIndex_8e157 (c_pchkR hG d a b hx hy hab hb) rfl rfl rfl (Nat.le_of_ble_eq_true rfl) (Nat.le_of_ble_eq_true rfl) (Nat.le_refl _) (Nat.le_of_ble_eq_true rfl) (Nat.le_of_ble_eq_true rfl) ?_
    refine X_pop rfl rfl ?_
    exact X_vret rfl rfl ⟨rfl, rfl⟩ (Nat.le_of_ble_eq_true rfl) (Nat.le_of_ble_eq_true rfl)
theorem x_w_ch : (x_wd.all fun w => w.all fun b => decide (((b &&& 255).toUInt32 % 65536).toInt32 = b) && decide (97 ≤ b) && decide (b ≤ 122) && decide (b.toUInt32.toUInt16.toUInt32.toInt32 = b)) = true := by decide +kernel
theorem x_w_mem (i k : Nat) (hk : k < (x_w i).length) : ((((x_w i).getD k 0 &&& 255).toUInt32 % 65536).toInt32 = (x_w i).getD k 0) ∧ (97 : Int32) ≤ (x_w i).getD k 0 ∧ (x_w i).getD k 0 ≤ 122 ∧ ((x_w i).getD k 0).toUInt32.toUInt16.toUInt32.toInt32 = (x_w i).getD k 0 := by
  have hm : x_w i ∈ x_wd := by
    unfold x_w
    have h13 : i % 13 < x_wd.length := Nat.mod_lt _ (by decide)
    rw [List.getD_eq_getElem?_getD, List.getElem?_eq_getElem h13]
    exact List.getElem_mem h13
  have h1 := List.all_eq_true.mp x_w_ch _ hm
  have hb : (x_w i).getD k 0 ∈ x_w i := by
    rw [List.getD_eq_getElem?_getD, List.getElem?_eq_getElem hk]
    exact List.getElem_mem hk
  have h2 := List.all_eq_true.mp h1 _ hb
  simp only [Bool.and_eq_true, decide_eq_true_eq] at h2
  exact ⟨h2.1.1.1, h2.1.1.2, h2.1.2, h2.2⟩
theorem x_w_nar (i k : Nat) (hk : k < (x_w i).length) : narrow .char (.int ((x_w i).getD k 0)) = .int ((x_w i).getD k 0) := congrArg Value.int (x_w_mem i k hk).2.2.2
theorem c_l1char {G : XE} (hG : x_Kn G) (hK : x_KS G) {N : XH} (d : Nat)  (i : Nat) (hi : i < 26) (k : Nat) (hk : k < (x_st i).length) {x : Int32} (hx : x = nI k) : x_M G mJ1_charAt_3b067 (d + 2) 0 0 [.ref (30 + i), .int x] (N) (x_Ret N (.int ((x_st i).getD k 0))) x_noX := by
  refine X_M hG okJ1_charAt_3b067 rfl (L := [some (.ref (30 + i)), some (.int x)]) rfl (Nat.le_of_ble_eq_true rfl) (fun ad0 nb0 => ?_)
  have h8 := x_st_len i
  refine X_ld rfl rfl rfl rfl ?_
  refine X_ld rfl rfl rfl rfl ?_
  refine X_alenS (by omega) (hK.2.1 i hi).2.2.2 rfl ?_
  refine X_scallv l_J1_J0_checkIndex_df160 (c_schk hG hK d k (x_st i).length hx rfl hk (by omega)) rfl rfl rfl (Nat.le_of_ble_eq_true rfl) (Nat.le_of_ble_eq_true rfl) (Nat.le_refl _) (Nat.le_of_ble_eq_true rfl) (Nat.le_of_ble_eq_true rfl) ?_
  refine X_ld rfl rfl rfl rfl ?_
  refine X_ld rfl rfl rfl rfl ?_
  refine X_baldS k (by omega) (hK.2.1 i hi).2.2.2 hx hk (by omega) rfl ?_
  refine X_push (v := .int 255) rfl (by decide +kernel) ?_
  refine X_bin rfl rfl ?_
  refine X_un rfl rfl ?_
  refine X_stk (congrArg (fun q => Value.int q :: _) (x_st_mem i k hk).1) ?_
  exact X_zret rfl rfl (x_st_nar i k hk) ⟨rfl, rfl⟩ (Nat.le_of_ble_eq_true rfl) (Nat.le_of_ble_eq_true rfl)
theorem c_charAtT {G : XE} (hG : x_Kn G) (hK : x_KS G) {N : XH} (d : Nat)  (i : Nat) (hi : i < 26) (k : Nat) (hk : k < (x_st i).length) {x : Int32} (hx : x = nI k) : x_M G mJ0_charAt_5068e (d + 3) 0 0 [.ref (4 + i), .int x] (N) (x_Ret N (.int ((x_st i).getD k 0))) x_noX := by
  refine X_M hG okJ0_charAt_5068e rfl (L := [some (.ref (4 + i)), some (.int x)]) rfl (Nat.le_of_ble_eq_true rfl) (fun ad0 nb0 => ?_)
  refine X_ld rfl rfl rfl rfl ?_
  refine X_callF (o := 4 + i) (by omega) (hK.2.1 i hi).1 l_J0_J0_isLatin1_aae02 (c_isLatin1 hG hK (d + 2) i hi) rfl rfl rfl (Nat.le_of_ble_eq_true rfl) (x_fit_of (Nat.le_of_ble_eq_true rfl) (Nat.le_refl _) (Nat.le_of_ble_eq_true rfl) (Nat.le_of_ble_eq_true rfl)) ?_
  refine X_if_eq rfl (fun c4 => absurd c4 (by decide)) (fun c4 => ?_)
  refine X_ld rfl rfl rfl rfl ?_
  refine X_getS (v := .ref (30 + i)) (by omega) (x_in 1448 (by decide +kernel) rfl) (hK.2.1 i hi).2.2.1 (show 30 + i < 64 by omega) rfl ?_
  refine X_ld rfl rfl rfl rfl ?_
  refine X_scall l_J0_J1_charAt_3b067 (c_l1char hG hK d i hi k hk hx) rfl rfl rfl (Nat.le_of_ble_eq_true rfl) (Nat.le_of_ble_eq_true rfl) (Nat.le_refl _) (Nat.le_of_ble_eq_true rfl) (Nat.le_of_ble_eq_true rfl) ?_
  exact X_zret rfl rfl (x_st_nar i k hk) ⟨rfl, rfl⟩ (Nat.le_of_ble_eq_true rfl) (Nat.le_of_ble_eq_true rfl)
theorem c_strlen {G : XE} (hG : x_Kn G) (hK : x_KS G) {N : XH} (d : Nat) (i : Nat) (hi : 13 ≤ i ∧ i < 26) : x_M G mJ0_length_8abf5 (d + 1) 0 0 [.ref (4 + i)] (N) (x_Ret N (.int (nI (x_w i).length))) x_noX := by
  rw [← x_st_w hi.1]
  exact c_strlenT hG hK d i hi.2
theorem c_charAt {G : XE} (hG : x_Kn G) (hK : x_KS G) {N : XH} (d : Nat) (i : Nat) (hi : 13 ≤ i ∧ i < 26) (k : Nat) (hk : k < (x_w i).length) {x : Int32} (hx : x = nI k) : x_M G mJ0_charAt_5068e (d + 3) 0 0 [.ref (4 + i), .int x] (N) (x_Ret N (.int ((x_w i).getD k 0))) x_noX := by
  rw [← x_st_w hi.1] at hk ⊢
  exact c_charAtT hG hK d i hi.2 k hk hx
