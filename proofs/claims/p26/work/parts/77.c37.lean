/-! ===== the class: names ===== -/
theorem y_cmp0 {x y : Int64} : lg_cmp x y = 0 ↔ x = y := lg_cmp_eq x y
/-- are the first n bytes from a letters -/
def s_ltb (bf : Nat → Int32) (a : Nat) : Nat → Bool
  | 0 => true
  | k + 1 => s_ltb bf a k && decide (s_let (bf (a + k)))
theorem s_ltb_f {bf : Nat → Int32} {a : Nat} : ∀ m k, s_ltb bf a k = false → k ≤ m → s_ltb bf a m = false
  | 0, k, h, hk => by
    obtain rfl : k = 0 := by omega
    exact h
  | m + 1, k, h, hk => by
    by_cases e : k = m + 1
    · rw [← e]; exact h
    · show (s_ltb bf a m && _) = false
      rw [s_ltb_f m k h (by omega)]
      rfl
/-- the number of the first n bytes from a -/
def s_nmv (bf : Nat → Int32) (a : Nat) : Nat → Int64
  | 0 => 0
  | k + 1 => 32 * s_nmv bf a k + (bf (a + k)).toInt64 - 97 + 1
def s_nin (bf : Nat → Int32) (a b : Nat) : Int64 := if b - a ≤ 8 ∧ s_ltb bf a (b - a) = true then s_nmv bf a (b - a) else 0
theorem p_isLetter {G : XE} (hG : x_Kn G) {N : XH} (d : Nat) {x : Int32} : x_M G mX10_isLetter d 0 0 [.int x] (N) (x_Ret N (.int (bI (s_let x)))) x_noX := by
  refine X_M hG okX10_isLetter rfl (L := [some (.int x)]) rfl (Nat.le_of_ble_eq_true rfl) (fun ad0 nb0 => ?_)
  refine X_ld rfl rfl rfl rfl ?_
  refine X_push (v := .int 97) rfl (by decide +kernel) ?_
  refine X_icmp_lt rfl (fun c3 => ?_) (fun c3 => ?_)
  · refine X_push (v := .int 0) rfl (by decide +kernel) ?_
    exact X_zret rfl rfl rfl ⟨rfl, by rw [bI_f (fun q => absurd c3 (Int32.not_lt.mpr q.1))]⟩ (Nat.le_of_ble_eq_true rfl) (Nat.le_of_ble_eq_true rfl)
  · refine X_ld rfl rfl rfl rfl ?_
    refine X_push (v := .int 122) rfl (by decide +kernel) ?_
    refine X_icmp_gt rfl (fun c9 => ?_) (fun c9 => ?_)
    · refine X_push (v := .int 0) rfl (by decide +kernel) ?_
      exact X_zret rfl rfl rfl ⟨rfl, by rw [bI_f (fun q => absurd c9 (Int32.not_lt.mpr q.2))]⟩ (Nat.le_of_ble_eq_true rfl) (Nat.le_of_ble_eq_true rfl)
    · refine X_push (v := .int 1) rfl (by decide +kernel) ?_
      refine X_goto rfl ?_
      exact X_zret rfl rfl rfl ⟨rfl, by rw [bI_t ⟨Int32.not_lt.mp c3, Int32.not_lt.mp c9⟩]⟩ (Nat.le_of_ble_eq_true rfl) (Nat.le_of_ble_eq_true rfl)
/-- is it a digit -/
abbrev s_dig (x : Int32) : Prop := (48 : Int32) ≤ x ∧ x ≤ 57
theorem p_isDigit {G : XE} (hG : x_Kn G) {N : XH} (d : Nat) {x : Int32} : x_M G mX10_isDigit d 0 0 [.int x] (N) (x_Ret N (.int (bI (s_dig x)))) x_noX := by
  refine X_M hG okX10_isDigit rfl (L := [some (.int x)]) rfl (Nat.le_of_ble_eq_true rfl) (fun ad0 nb0 => ?_)
  refine X_ld rfl rfl rfl rfl ?_
  refine X_push (v := .int 48) rfl (by decide +kernel) ?_
  refine X_icmp_lt rfl (fun c3 => ?_) (fun c3 => ?_)
  · refine X_push (v := .int 0) rfl (by decide +kernel) ?_
    exact X_zret rfl rfl rfl ⟨rfl, by rw [bI_f (fun q => absurd c3 (Int32.not_lt.mpr q.1))]⟩ (Nat.le_of_ble_eq_true rfl) (Nat.le_of_ble_eq_true rfl)
  · refine X_ld rfl rfl rfl rfl ?_
    refine X_push (v := .int 57) rfl (by decide +kernel) ?_
    refine X_icmp_gt rfl (fun c9 => ?_) (fun c9 => ?_)
    · refine X_push (v := .int 0) rfl (by decide +kernel) ?_
      exact X_zret rfl rfl rfl ⟨rfl, by rw [bI_f (fun q => absurd c9 (Int32.not_lt.mpr q.2))]⟩ (Nat.le_of_ble_eq_true rfl) (Nat.le_of_ble_eq_true rfl)
    · refine X_push (v := .int 1) rfl (by decide +kernel) ?_
      refine X_goto rfl ?_
      exact X_zret rfl rfl rfl ⟨rfl, by rw [bI_t ⟨Int32.not_lt.mp c3, Int32.not_lt.mp c9⟩]⟩ (Nat.le_of_ble_eq_true rfl) (Nat.le_of_ble_eq_true rfl)
theorem p_nameIn {G : XE} (hG : x_Kn G) {N : XH} (d : Nat) {o n : Nat} {mu : Bool} {f : Nat → Int32} (hN : N o = some (.inr (mu, .byte, n, fun j => .int (f j)))) (a b : Nat) (hab : a ≤ b) (hbn : b ≤ n) (hn : n < 2147483648) {x y : Int32} (hx : x = nI a) (hy : y = nI b) : x_M G mX10_nameIn (d + 1) 0 0 [.ref o, .int x, .int y] (N) (x_Ret N (.long (s_nin f a b))) x_noX := by
  refine X_M hG okX10_nameIn rfl (L := [some (.ref o), some (.int x), some (.int y), none, none, none]) rfl (Nat.le_of_ble_eq_true rfl) (fun ad0 nb0 => ?_)
  refine X_ld rfl rfl rfl rfl ?_
  refine X_if_lt rfl (fun c1 => absurd ((n_lt (b := 0) hx (show (0 : Int32) = nI 0 from rfl) (by omega) (by omega)).mp c1) (by omega)) (fun c1 => ?_)
  refine X_ld rfl rfl rfl rfl ?_
  refine X_ld rfl rfl rfl rfl ?_
  refine X_alen rfl hN ?_
  refine X_icmp_gt rfl (fun c7 => absurd ((n_lt (x := Int32.ofNat n) (a := n) rfl hy (by omega) (by omega)).mp c7) (by omega)) (fun c7 => ?_)
  refine X_ld rfl rfl rfl rfl ?_
  refine X_ld rfl rfl rfl rfl ?_
  refine X_bin rfl rfl ?_
  refine X_push (v := .int 8) rfl (by decide +kernel) ?_
  have hd8 : y - x = nI (b - a) := m_sub (by omega) hy hx
  refine X_icmp_le rfl (fun c15 => ?_) (fun c15 => ?_)
  · have h8 := (n_le hd8 (show (8 : Int32) = nI 8 from rfl) (by omega) (by omega)).mp c15
    have loop : ∀ (f9 k : Nat), k + f9 = b - a → s_ltb f a k = true → x_W G mX10_nameIn (x_Z G (d + 1) 0 0 ad0 nb0 (x_Ret N (.long (s_nin f a b))) x_noX) N 0 0 25 [some (.ref o), some (.int x), some (.int y), some (.long (s_nmv f a k)), none, some (.int (nI (a + k)))] [] := by
      intro f9
      induction f9 with
      | zero =>
        intro k e0 hl
        obtain rfl : k = b - a := by omega
        refine X_ld rfl rfl rfl rfl ?_
        refine X_ld rfl rfl rfl rfl ?_
        refine X_icmp_ge rfl (fun c28 => ?_) (fun c28 => absurd ((n_le hy rfl (by omega) (by omega)).mpr (by omega)) c28)
        refine X_ld rfl rfl rfl rfl ?_
        exact X_lret rfl rfl ⟨rfl, by rw [show s_nin f a b = _ from if_pos ⟨h8, hl⟩]⟩ (Nat.le_of_ble_eq_true rfl) (Nat.le_of_ble_eq_true rfl)
      | succ f9 ih =>
        intro k e0 hl
        refine X_ld rfl rfl rfl rfl ?_
        refine X_ld rfl rfl rfl rfl ?_
        refine X_icmp_ge rfl (fun c28 => absurd ((n_le hy rfl (by omega) (by omega)).mp c28) (by omega)) (fun c28 => ?_)
        refine X_ld rfl rfl rfl rfl ?_
        refine X_ld rfl rfl rfl rfl ?_
        refine X_bald rfl hN (by exact vp_in_nI (by omega) (by omega)) (v := .int (f (a + k))) (by rw [nI_clamp (by omega)]) ?_
        refine X_scall l_X10_X10_isLetter (p_isLetter hG d) rfl rfl rfl (Nat.le_of_ble_eq_true rfl) (Nat.le_of_ble_eq_true rfl) (Nat.le_refl _) (Nat.le_of_ble_eq_true rfl) (Nat.le_of_ble_eq_true rfl) ?_
        refine X_if_ne rfl (fun c38 => ?_) (fun c38 => ?_)
        · have hk := bI_ne.mp c38
          refine X_ldc2 k_X10_324 rfl ?_
          refine X_ld rfl rfl rfl rfl ?_
          refine X_bin rfl rfl ?_
          refine X_ld rfl rfl rfl rfl ?_
          refine X_ld rfl rfl rfl rfl ?_
          refine X_bald rfl hN (by exact vp_in_nI (by omega) (by omega)) (v := .int (f (a + k))) (by rw [nI_clamp (by omega)]) ?_
          refine X_un rfl rfl ?_
          refine X_bin rfl rfl ?_
          refine X_ldc2 k_X10_326 rfl ?_
          refine X_bin rfl rfl ?_
          refine X_push (v := .long 1) rfl (by decide +kernel) ?_
          refine X_bin rfl rfl ?_
          refine X_stl rfl rfl rfl ?_
          refine X_iinc rfl rfl rfl ?_
          refine X_goto rfl ?_
          refine X_loc (L' := [some (.ref o), some (.int x), some (.int y), some (.long (s_nmv f a (k + 1))), none, some (.int (nI (a + (k + 1))))]) ⟨rfl, rfl, rfl, rfl, congrArg Value.int (m_inc rfl).symm, trivial⟩ ?_
          exact ih (k + 1) (by omega) (by show (s_ltb f a k && _) = true; rw [hl, decide_eq_true hk]; rfl)
        · refine X_push (v := .long 0) rfl (by decide +kernel) ?_
          exact X_lret rfl rfl ⟨rfl, by rw [show s_nin f a b = 0 from if_neg (fun q => by have e := s_ltb_f (bf := f) (a := a) (b - a) (k + 1) (by show (s_ltb f a k && _) = false; rw [decide_eq_false (fun z => bI_ne.mpr z c38), Bool.and_false]) (by omega); rw [e] at q; cases q.2)]⟩ (Nat.le_of_ble_eq_true rfl) (Nat.le_of_ble_eq_true rfl)
    refine X_push (v := .long 0) rfl (by decide +kernel) ?_
    refine X_stl rfl rfl rfl ?_
    refine X_ld rfl rfl rfl rfl ?_
    refine X_st rfl rfl rfl ?_
    refine X_loc (L' := [some (.ref o), some (.int x), some (.int y), some (.long (s_nmv f a 0)), none, some (.int (nI (a + 0)))]) ⟨rfl, rfl, rfl, rfl, congrArg Value.int hx.symm, trivial⟩ ?_
    exact loop _ 0 (Nat.zero_add _) rfl
  · have h8 := mt (n_le hd8 (show (8 : Int32) = nI 8 from rfl) (by omega) (by omega)).mpr c15
    refine X_push (v := .long 0) rfl (by decide +kernel) ?_
    exact X_lret rfl rfl ⟨rfl, by rw [show s_nin f a b = 0 from if_neg (fun q => h8 q.1)]⟩ (Nat.le_of_ble_eq_true rfl) (Nat.le_of_ble_eq_true rfl)
theorem p_findStatement {G : XE} (hG : x_Kn G) {B : XH} {J bf K tk ts : Nat → Int32} {tl : Int64} {tv : Nat → Int64} {su : Nat → Nat} {D : Nat → Nat → Int32} (d : Nat) {o a3 n : Nat} {V : Nat → Value} {pp : Nat → Nat} {nm : Nat → Int64} {z : Int64} (hso : s_out o) (hsB : B o = some (.inl (5, V))) (hV3 : V 3 = .ref a3) (hl : l_at B a3 n pp) (hp : ∀ j, j < n → s_out (pp j) ∧ ∃ W, B (pp j) = some (.inl (4, W)) ∧ W 0 = .long (nm j)) : x_M G mX5_findStatement (d + 3) 0 0 [.ref o, .long z] (cset B J bf K tk ts tl tv su D) (x_Ret (cset B J bf K tk ts tl tv su D) (.int (s_first (fun j => decide (nm j = z)) n))) x_noX := by
  refine X_M hG okX5_findStatement rfl (L := [some (.ref o), some (.long z), none, none]) rfl (Nat.le_of_ble_eq_true rfl) (fun ad0 nb0 => ?_)
  obtain ⟨VL3, hN3⟩ := l_at_N (J := J) (bf := bf) (K := K) (tk := tk) (ts := ts) (tl := tl) (tv := tv) (su := su) (D := D) hl
  have hn31 := hl.2.1
  have loop : ∀ (f9 k : Nat), k + f9 = n → (∀ j, j < k → decide (nm j = z) = false) → x_W G mX5_findStatement (x_Z G (d + 3) 0 0 ad0 nb0 (x_Ret (cset B J bf K tk ts tl tv su D) (.int (s_first (fun j => decide (nm j = z)) n))) x_noX) (cset B J bf K tk ts tl tv su D) 0 0 2 [some (.ref o), some (.long z), none, some (.int (nI k))] [] := by
    intro f9
    induction f9 with
    | zero =>
      intro k e0 hl9
      obtain rfl : k = n := by omega
      refine X_ld rfl rfl rfl rfl ?_
      refine X_ld rfl rfl rfl rfl ?_
      refine X_get f_X5_22 rfl (c_B hso hsB) hV3 ?_
      refine X_vcall (o := a3) hN3 l_X5_Jx4a65c_size_8abf5 (j_size hG (d + 2) (l_at_li hl)) rfl rfl rfl rfl (Nat.le_of_ble_eq_true rfl) (Nat.le_of_ble_eq_true rfl) (by omega) (Nat.le_of_ble_eq_true rfl) (Nat.le_of_ble_eq_true rfl) ?_
      refine X_icmp_ge rfl (fun c10 => ?_) (fun c10 => absurd (Int32.le_refl _) c10)
      refine X_push (v := .int (-1)) rfl (by decide +kernel) ?_
      exact X_iret rfl rfl ⟨rfl, by rw [s_first_no _ hl9]⟩ (Nat.le_of_ble_eq_true rfl) (Nat.le_of_ble_eq_true rfl)
    | succ f9 ih =>
      intro k e0 hl9
      obtain ⟨hpo, W, hW, hW0⟩ := hp k (by omega)
      refine X_ld rfl rfl rfl rfl ?_
      refine X_ld rfl rfl rfl rfl ?_
      refine X_get f_X5_22 rfl (c_B hso hsB) hV3 ?_
      refine X_vcall (o := a3) hN3 l_X5_Jx4a65c_size_8abf5 (j_size hG (d + 2) (l_at_li hl)) rfl rfl rfl rfl (Nat.le_of_ble_eq_true rfl) (Nat.le_of_ble_eq_true rfl) (by omega) (Nat.le_of_ble_eq_true rfl) (Nat.le_of_ble_eq_true rfl) ?_
      refine X_icmp_ge rfl (fun c10 => absurd ((n_le rfl rfl (by omega) (by omega)).mp c10) (by omega)) (fun c10 => ?_)
      refine X_ld rfl rfl rfl rfl ?_
      refine X_get f_X5_22 rfl (c_B hso hsB) hV3 ?_
      refine X_ld rfl rfl rfl rfl ?_
      refine X_vcall (o := a3) hN3 l_X5_Jx4a65c_get_915e3 (j_get hG d (l_at_li hl) k (by omega) rfl) rfl rfl rfl rfl (Nat.le_of_ble_eq_true rfl) (Nat.le_of_ble_eq_true rfl) (by omega) (Nat.le_of_ble_eq_true rfl) (Nat.le_of_ble_eq_true rfl) ?_
      refine X_castS cl_X5_50 rfl (c_B hpo hW) rfl ?_
      refine X_get f_X5_52 rfl (c_B hpo hW) hW0 ?_
      refine X_ld rfl rfl rfl rfl ?_
      refine X_bin rfl rfl ?_
      refine X_if_ne rfl (fun c29 => ?_) (fun c29 => ?_)
      · refine X_iinc rfl rfl rfl ?_
        refine X_goto rfl ?_
        refine X_loc (L' := [some (.ref o), some (.long z), none, some (.int (nI (k + 1)))]) ⟨rfl, rfl, congrArg Value.int (m_inc rfl).symm, trivial⟩ ?_
        exact ih (k + 1) (by omega) (m_below hl9 (decide_eq_false (fun q => c29 (y_cmp0.mpr q))))
      · refine X_ld rfl rfl rfl rfl ?_
        exact X_iret rfl rfl ⟨rfl, by rw [s_first_yes (P := fun j => decide (nm j = z)) (s := k) (by omega) (decide_eq_true (y_cmp0.mp c29)) hl9 n (by omega)]⟩ (Nat.le_of_ble_eq_true rfl) (Nat.le_of_ble_eq_true rfl)
  refine X_push (v := .int 0) rfl (by decide +kernel) ?_
  refine X_st rfl rfl rfl ?_
  refine X_loc (L' := [some (.ref o), some (.long z), none, some (.int (nI 0))]) ⟨rfl, rfl, rfl, trivial⟩ ?_
  exact loop _ 0 (Nat.zero_add _) (fun j hj => absurd hj (Nat.not_lt_zero _))
theorem p_findColumn {G : XE} (hG : x_Kn G) {B : XH} {J bf K tk ts : Nat → Int32} {tl : Int64} {tv : Nat → Int64} {su : Nat → Nat} {D : Nat → Nat → Int32} (d : Nat) {o a1 n : Nat} {V : Nat → Value} {nm : Nat → Int64} {z : Int64} (hso : s_out o) (hsB : B o = some (.inl (5, V))) (hV0 : V 0 = .int (nI n)) (hV1 : V 1 = .ref a1) (ha1 : s_out a1) (hB1 : B a1 = some (.inr (true, .long, 5, fun j => .long (nm j)))) (hn : n ≤ 5) : x_M G mX5_findColumn d 0 0 [.ref o, .long z] (cset B J bf K tk ts tl tv su D) (x_Ret (cset B J bf K tk ts tl tv su D) (.int (s_first (fun j => decide (nm j = z)) n))) x_noX := by
  refine X_M hG okX5_findColumn rfl (L := [some (.ref o), some (.long z), none, none]) rfl (Nat.le_of_ble_eq_true rfl) (fun ad0 nb0 => ?_)
  have loop : ∀ (f9 k : Nat), k + f9 = n → (∀ j, j < k → decide (nm j = z) = false) → x_W G mX5_findColumn (x_Z G d 0 0 ad0 nb0 (x_Ret (cset B J bf K tk ts tl tv su D) (.int (s_first (fun j => decide (nm j = z)) n))) x_noX) (cset B J bf K tk ts tl tv su D) 0 0 2 [some (.ref o), some (.long z), none, some (.int (nI k))] [] := by
    intro f9
    induction f9 with
    | zero =>
      intro k e0 hl9
      obtain rfl : k = n := by omega
      refine X_ld rfl rfl rfl rfl ?_
      refine X_ld rfl rfl rfl rfl ?_
      refine X_get f_X5_39 rfl (c_B hso hsB) hV0 ?_
      refine X_icmp_ge rfl (fun c10 => ?_) (fun c10 => absurd (Int32.le_refl _) c10)
      refine X_push (v := .int (-1)) rfl (by decide +kernel) ?_
      exact X_iret rfl rfl ⟨rfl, by rw [s_first_no _ hl9]⟩ (Nat.le_of_ble_eq_true rfl) (Nat.le_of_ble_eq_true rfl)
    | succ f9 ih =>
      intro k e0 hl9
      refine X_ld rfl rfl rfl rfl ?_
      refine X_ld rfl rfl rfl rfl ?_
      refine X_get f_X5_39 rfl (c_B hso hsB) hV0 ?_
      refine X_icmp_ge rfl (fun c10 => absurd ((n_le rfl rfl (by omega) (by omega)).mp c10) (by omega)) (fun c10 => ?_)
      refine X_ld rfl rfl rfl rfl ?_
      refine X_get f_X5_9 rfl (c_B hso hsB) hV1 ?_
      refine X_ld rfl rfl rfl rfl ?_
      refine X_lald rfl (c_B ha1 hB1) (by exact vp_in_nI (by omega) (by omega)) (v := .long (nm k)) (by rw [nI_clamp (by omega)]) ?_
      refine X_ld rfl rfl rfl rfl ?_
      refine X_bin rfl rfl ?_
      refine X_if_ne rfl (fun c29 => ?_) (fun c29 => ?_)
      · refine X_iinc rfl rfl rfl ?_
        refine X_goto rfl ?_
        refine X_loc (L' := [some (.ref o), some (.long z), none, some (.int (nI (k + 1)))]) ⟨rfl, rfl, congrArg Value.int (m_inc rfl).symm, trivial⟩ ?_
        exact ih (k + 1) (by omega) (m_below hl9 (decide_eq_false (fun q => c29 (y_cmp0.mpr q))))
      · refine X_ld rfl rfl rfl rfl ?_
        exact X_iret rfl rfl ⟨rfl, by rw [s_first_yes (P := fun j => decide (nm j = z)) (s := k) (by omega) (decide_eq_true (y_cmp0.mp c29)) hl9 n (by omega)]⟩ (Nat.le_of_ble_eq_true rfl) (Nat.le_of_ble_eq_true rfl)
  refine X_push (v := .int 0) rfl (by decide +kernel) ?_
  refine X_st rfl rfl rfl ?_
  refine X_loc (L' := [some (.ref o), some (.long z), none, some (.int (nI 0))]) ⟨rfl, rfl, rfl, trivial⟩ ?_
  exact loop _ 0 (Nat.zero_add _) (fun j hj => absurd hj (Nat.not_lt_zero _))
