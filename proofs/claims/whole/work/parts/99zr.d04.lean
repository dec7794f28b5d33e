/-! ===== the law: lemmas of its cases ===== -/
theorem s_out56 : s_out 56 := ⟨by omega, by omega⟩
section LC
variable {B : XH} {n : Nat} {xs : Nat → Int32} {c : XC} {I J : Nat → Int32} {T : Int64} {S : Nat → Nat → Int32} {rd tx gv pl : Nat → Int32} {bf K tk ts : Nat → Int32} {tl : Int64} {tv : Nat → Int64} {su : Nat → Nat} {D : Nat → Nat → Int32}
theorem L_56m (hB : L_B B n xs) : mset (cset (x_set B 281 c) J bf K tk ts tl tv su D) I T S rd tx gv pl 56 = some (.inr (false, .int, n, fun j => .int (xs j))) := by
  rw [m_out (by omega), c_out (by omega) (by omega), x_set_ne (by omega)]
  exact hB.2.2.2.2
theorem L_56c {ov : Int64} {P : Nat → Bool} (hB : L_B B n xs) : cset (L_X B ov I T S rd tx gv P) J bf K tk ts tl tv su D 56 = some (.inr (false, .int, n, fun j => .int (xs j))) := c_B s_out56 (L_X56 hB)
end LC
theorem L_J6 {x : Int32} {u : Nat} (h : x = nI u) (hu : u ≤ 8) : x_min (x + 1) 8 = nI (s_u8 u) := by
  rw [h, show (1 : Int32) = nI 1 from rfl, nI_add, show (8 : Int32) = nI 8 from rfl, y_minN (by omega) (by omega)]
  unfold s_u8
  by_cases h8 : u < 8
  · rw [if_pos h8, if_neg (by omega)]
  · rw [if_neg h8, if_pos (by omega)]
    exact congrArg nI (by omega)
theorem s_u8_le {u : Nat} (hu : u ≤ 8) : s_u8 u ≤ 8 := by
  unfold s_u8
  by_cases h8 : u < 8
  · rw [if_pos h8]; omega
  · rw [if_neg h8]; exact hu
section LI
variable {I J : Nat → Int32} {v w u b : Nat} {a : Int32}
theorem L_IC (h : I 3 = nI v ∧ v < 9 ∧ I 4 = nI u ∧ u ≤ 8 ∧ I 6 = nI b ∧ b ≤ 800) : s_ch (upd I 0 a) v u 3 = nI (s_nx v) ∧ s_nx v < 9 ∧ s_ch (upd I 0 a) v u 4 = nI (s_u8 u) ∧ s_u8 u ≤ 8 ∧ s_ch (upd I 0 a) v u 6 = nI b ∧ b ≤ 800 := ⟨s_ch3, s_nx_lt, s_ch4, s_u8_le h.2.2.2.1, (s_ch_ne (by omega) (by omega)).trans ((updI_ne (by decide)).trans h.2.2.2.2.1), h.2.2.2.2.2⟩
theorem L_JC (h : J 5 = nI w ∧ w < 10 ∧ J 6 = nI u ∧ J 1 = nI b ∧ J 2 = I 7) (hu : u ≤ 8) : upd (upd J 5 (nI (s_n10 w))) 6 (x_min (J 6 + 1) 8) 5 = nI (s_n10 w) ∧ s_n10 w < 10 ∧ upd (upd J 5 (nI (s_n10 w))) 6 (x_min (J 6 + 1) 8) 6 = nI (s_u8 u) ∧ upd (upd J 5 (nI (s_n10 w))) 6 (x_min (J 6 + 1) 8) 1 = nI b ∧ upd (upd J 5 (nI (s_n10 w))) 6 (x_min (J 6 + 1) 8) 2 = s_ch (upd I 0 a) v u 7 := ⟨(updI_ne (by decide)).trans updI_eq, s_n10_lt, updI_eq.trans (L_J6 h.2.2.1 hu), (updI_ne (by decide)).trans ((updI_ne (by decide)).trans h.2.2.2.1), (updI_ne (by decide)).trans ((updI_ne (by decide)).trans (h.2.2.2.2.trans ((s_ch_ne (by omega) (by omega)).trans (updI_ne (by decide))).symm))⟩
theorem s_ch_0 : s_ch (upd I 0 a) v u 0 = a := (s_ch_ne (by omega) (by omega)).trans updI_eq
end LI
theorem y_dec31 (x : Int32) : ∃ k, k < 32 ∧ x &&& 31 = nI k := pk_andE x 5 (by decide)
/-- load with a length that there is not -/
theorem m_loadF {G : XE} (hG : x_Kn G) (hEx : x_KX G) {B : XH} {J bf K tk ts : Nat → Int32} {tl : Int64} {tv : Nat → Int64} {su : Nat → Nat} {D : Nat → Nat → Int32} (d : Nat) {x : Int32} (hx : ¬ ((0 : Int32) ≤ x ∧ x ≤ J 1)) : x_M G mX10_load (d + 7) 1 6 [.ref 64, .int x] (cset B J bf K tk ts tl tv su D) (fun _ _ => False) (x_QxP (0 ≤ x ∧ x ≤ J 1) (cset B J bf K tk ts tl tv su D) "java/lang/IllegalArgumentException") := by
  refine X_M hG okX10_load rfl (L := [some (.ref 64), some (.int x), none]) rfl (Nat.le_of_ble_eq_true rfl) (fun ad0 nb0 => ?_)
  refine X_ld rfl rfl rfl rfl ?_
  refine X_ld rfl rfl rfl rfl ?_
  refine X_vchk c_O l_X10_X10_checkLength (m_checkLength hG hEx d) rfl rfl rfl rfl (Nat.le_of_ble_eq_true rfl) (Nat.le_of_ble_eq_true rfl) (by omega) (by omega) (by omega) rfl (fun z => ⟨z, rfl, rfl⟩) (fun hp1 => absurd hp1 hx)
