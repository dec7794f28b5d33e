/-! ===== the class: Data.clear ===== -/
def s_clx (c : Nat → Int32) : Nat → Nat → Int32
  | 0 => c
  | k + 1 => upd (s_clx c k) (10 + 13 * k + 9) 0
def s_clu (c : Nat → Int32) : Nat → Nat → Int32
  | 0 => c
  | k + 1 => s_ucl (s_clu c k) k 5
def s_cl1 (c : Nat → Int32) : Nat → Int32 := upd (upd c 1 0) 3 0
/-- a Data that is cleared -/
def s_cld (c : Nat → Int32) : Nat → Int32 := s_clu (s_clx (s_cl1 c) 5) 6
theorem d_clear {G : XE} (hG : x_Kn G) {B : XH} {J bf K tk ts : Nat → Int32} {tl : Int64} {tv : Nat → Int64} {su : Nat → Nat} {D : Nat → Nat → Int32} (d : Nat) (i : Nat) (hi : i < 10) {c : Nat → Int32} {o : Nat} : x_M G mX3_clear (d + 1) 0 0 [.ref (75 + 20 * i), .ref o] (cset B J bf K tk ts tl tv su (updR D i c)) (x_RetV (cset B J bf K tk ts tl tv (updN su i o) (updR D i (s_cld c)))) x_noX := by
  refine X_M hG okX3_clear rfl (L := [some (.ref (75 + 20 * i)), some (.ref o), none]) rfl (Nat.le_of_ble_eq_true rfl) (fun ad0 nb0 => ?_)
  have loopA : x_W G mX3_clear (x_Z G (d + 1) 0 0 ad0 nb0 (x_RetV (cset B J bf K tk ts tl tv (updN su i o) (updR D i (s_cld c)))) x_noX) (cset B J bf K tk ts tl tv (updN su i o) (updR D i (s_clx (s_cl1 c) 5))) 0 0 35 [some (.ref (75 + 20 * i)), some (.ref o), some (.int (nI 5))] [] → ∀ (f9 k : Nat), k + f9 = 5 → x_W G mX3_clear (x_Z G (d + 1) 0 0 ad0 nb0 (x_RetV (cset B J bf K tk ts tl tv (updN su i o) (updR D i (s_cld c)))) x_noX) (cset B J bf K tk ts tl tv (updN su i o) (updR D i (s_clx (s_cl1 c) k))) 0 0 17 [some (.ref (75 + 20 * i)), some (.ref o), some (.int (nI k))] [] := by
    intro Kz f9
    induction f9 with
    | zero =>
      intro k e0 
      obtain rfl : k = 5 := by omega
      refine X_ld rfl rfl rfl rfl ?_
      refine X_push (v := .int 5) rfl (by decide +kernel) ?_
      refine X_icmp_ge rfl (fun c19 => ?_) (fun c19 => absurd ((n_le (a := 5) (show (5 : Int32) = nI 5 from rfl) rfl (by omega) (by omega)).mpr (by omega)) c19)
      exact Kz
    | succ f9 ih =>
      intro k e0 
      refine X_ld rfl rfl rfl rfl ?_
      refine X_push (v := .int 5) rfl (by decide +kernel) ?_
      refine X_icmp_ge rfl (fun c19 => absurd ((n_le (a := 5) (show (5 : Int32) = nI 5 from rfl) rfl (by omega) (by omega)).mp c19) (by omega)) (fun c19 => ?_)
      refine X_ld rfl rfl rfl rfl ?_
      refine X_get f_X3_15 rfl (r_D hi updR_eq) rfl ?_
      refine X_ld rfl rfl rfl rfl ?_
      refine X_push (v := .int 0) rfl (by decide +kernel) ?_
      refine X_Xast hi updR_eq rfl (by omega) (k := k) rfl rfl ?_
      refine X_iinc rfl rfl rfl ?_
      refine X_goto rfl ?_
      refine X_heap (N' := cset B J bf K tk ts tl tv (updN su i o) (updR D i (s_clx (s_cl1 c) (k + 1)))) (by rw [updR_updR]; rfl) ?_
      refine X_loc (L' := [some (.ref (75 + 20 * i)), some (.ref o), some (.int (nI (k + 1)))]) ⟨rfl, rfl, congrArg Value.int (m_inc rfl).symm, trivial⟩ ?_
      exact ih (k + 1) (by omega)
  have loopB : x_W G mX3_clear (x_Z G (d + 1) 0 0 ad0 nb0 (x_RetV (cset B J bf K tk ts tl tv (updN su i o) (updR D i (s_cld c)))) x_noX) (cset B J bf K tk ts tl tv (updN su i o) (updR D i (s_clu (s_clx (s_cl1 c) 5) 6))) 0 0 58 [some (.ref (75 + 20 * i)), some (.ref o), some (.int (nI 6))] [] → ∀ (f9 k : Nat), k + f9 = 6 → x_W G mX3_clear (x_Z G (d + 1) 0 0 ad0 nb0 (x_RetV (cset B J bf K tk ts tl tv (updN su i o) (updR D i (s_cld c)))) x_noX) (cset B J bf K tk ts tl tv (updN su i o) (updR D i (s_clu (s_clx (s_cl1 c) 5) k))) 0 0 37 [some (.ref (75 + 20 * i)), some (.ref o), some (.int (nI k))] [] := by
    intro Kz f9
    induction f9 with
    | zero =>
      intro k e0 
      obtain rfl : k = 6 := by omega
      refine X_ld rfl rfl rfl rfl ?_
      refine X_push (v := .int 6) rfl (by decide +kernel) ?_
      refine X_icmp_ge rfl (fun c40 => ?_) (fun c40 => absurd ((n_le (a := 6) (show (6 : Int32) = nI 6 from rfl) rfl (by omega) (by omega)).mpr (by omega)) c40)
      exact Kz
    | succ f9 ih =>
      intro k e0 
      refine X_ld rfl rfl rfl rfl ?_
      refine X_push (v := .int 6) rfl (by decide +kernel) ?_
      refine X_icmp_ge rfl (fun c40 => absurd ((n_le (a := 6) (show (6 : Int32) = nI 6 from rfl) rfl (by omega) (by omega)).mp c40) (by omega)) (fun c40 => ?_)
      refine X_ld rfl rfl rfl rfl ?_
      refine X_get f_X3_28 rfl (r_D hi updR_eq) rfl ?_
      refine X_ld rfl rfl rfl rfl ?_
      refine X_uald hi updR_eq rfl (by omega) (k := k) rfl ?_
      refine X_vcallv (r_u hi (by omega) updR_eq) l_X3_X9_clear (u_clear hG d i hi k (by omega)) rfl rfl rfl rfl (Nat.le_of_ble_eq_true rfl) (Nat.le_of_ble_eq_true rfl) (by omega) (Nat.le_of_ble_eq_true rfl) (Nat.le_of_ble_eq_true rfl) ?_
      refine X_iinc rfl rfl rfl ?_
      refine X_goto rfl ?_
      refine X_heap (N' := cset B J bf K tk ts tl tv (updN su i o) (updR D i (s_clu (s_clx (s_cl1 c) 5) (k + 1)))) rfl ?_
      refine X_loc (L' := [some (.ref (75 + 20 * i)), some (.ref o), some (.int (nI (k + 1)))]) ⟨rfl, rfl, congrArg Value.int (m_inc rfl).symm, trivial⟩ ?_
      exact ih (k + 1) (by omega)
  refine X_ld rfl rfl rfl rfl ?_
  refine X_ld rfl rfl rfl rfl ?_
  refine X_put f_X3_32 rfl (r_D hi updR_eq) ⟨rfl, rfl⟩ ?_
  refine X_heap (c_cpyD hi) ?_
  refine X_ld rfl rfl rfl rfl ?_
  refine X_push (v := .int 0) rfl (by decide +kernel) ?_
  refine X_put f_X3_37 rfl (r_D hi updR_eq) ⟨rfl, rfl⟩ ?_
  refine X_heap (w_D1 hi) ?_
  refine X_ld rfl rfl rfl rfl ?_
  refine X_push (v := .int 0) rfl (by decide +kernel) ?_
  refine X_put f_X3_41 rfl (r_D hi updR_eq) ⟨rfl, rfl⟩ ?_
  refine X_heap (w_D3 hi) ?_
  refine X_push (v := .int 0) rfl (by decide +kernel) ?_
  refine X_st rfl rfl rfl ?_
  refine X_heap (N' := cset B J bf K tk ts tl tv (updN su i o) (updR D i (s_clx (s_cl1 c) 0))) rfl ?_
  refine X_loc (L' := [some (.ref (75 + 20 * i)), some (.ref o), some (.int (nI 0))]) ⟨rfl, rfl, rfl, trivial⟩ ?_
  refine loopA ?_ _ 0 (Nat.zero_add _)
  refine X_push (v := .int 0) rfl (by decide +kernel) ?_
  refine X_st rfl rfl rfl ?_
  refine X_heap (N' := cset B J bf K tk ts tl tv (updN su i o) (updR D i (s_clu (s_clx (s_cl1 c) 5) 0))) rfl ?_
  refine X_loc (L' := [some (.ref (75 + 20 * i)), some (.ref o), some (.int (nI 0))]) ⟨rfl, rfl, rfl, trivial⟩ ?_
  refine loopB ?_ _ 0 (Nat.zero_add _)
  exact X_vret rfl rfl ⟨rfl, rfl⟩ (Nat.le_of_ble_eq_true rfl) (Nat.le_of_ble_eq_true rfl)

