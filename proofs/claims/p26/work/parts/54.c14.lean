/-! ===== the class: the rows found, percentages, a bit count ===== -/
theorem s_rws_me {c gv : Nat → Int32} {s : Nat} : ∀ n, s_rws c gv s n = s_me (fun l => s_find c gv s l) n
  | 0 => rfl
  | n + 1 => by
    show s_rws c gv s n ||| _ = s_me _ n ||| _
    rw [s_rws_me n]
theorem d_findRows {G : XE} (hG : x_Kn G) {B : XH} {J bf K tk ts : Nat → Int32} {tl : Int64} {tv : Nat → Int64} {su : Nat → Nat} {D : Nat → Nat → Int32} (d : Nat) (i : Nat) (hi : i < 10) {c : Nat → Int32} {e g : Nat → Int32} {vn : Nat} (hwf : s_wf e) (hst : st_at B e (su i)) (hrel : s_rel e c) (hvv : v_at B g vn) (s : Nat) (hs : s < s_sm e) (q : Nat) (hq1 : c 1 = nI q) (hq40 : q ≤ 40) {x : Int32} (hx : x = nI s) : x_M G mX3_findRows (d + 45) 0 0 [.ref (75 + 20 * i), .int x, .ref vn] (cset B J bf K tk ts tl tv su (updR D i c)) (x_Ret (cset B J bf K tk ts tl tv su (updR D i c)) (.long (s_rws e g s q))) x_noX := by
  refine X_M hG okX3_findRows rfl (L := [some (.ref (75 + 20 * i)), some (.int x), some (.ref vn)]) rfl (Nat.le_of_ble_eq_true rfl) (fun ad0 nb0 => ?_)
  have hsm6 := hwf.smE.2
  have hcm5 := hwf.cmE.2
  obtain ⟨hso, a1, a2, a3, pp, hsB, -, -, hl3, hP⟩ := hst
  obtain ⟨hpo, nm, co, ht, sg, hPB, -, -, -, hTr⟩ := hP s hs
  obtain ⟨VL3, hN3⟩ := l_at_N (J := J) (bf := bf) (K := K) (tk := tk) (ts := ts) (tl := tl) (tv := tv) (su := su) (D := updR D i c) hl3
  refine X_ld rfl rfl rfl rfl ?_
  refine X_get f_X3_32 rfl (r_D hi updR_eq) rfl ?_
  refine X_get f_X3_102 rfl (c_B hso hsB) rfl ?_
  refine X_ld rfl rfl rfl rfl ?_
  refine X_vcall (o := a3) hN3 l_X3_Jx4a65c_get_915e3 (j_get hG (d + 42) (l_at_li hl3) s hs hx) rfl rfl rfl rfl (Nat.le_of_ble_eq_true rfl) (Nat.le_of_ble_eq_true rfl) (by omega) (Nat.le_of_ble_eq_true rfl) (Nat.le_of_ble_eq_true rfl) ?_
  refine X_castS cl_X3_112 rfl (c_B hpo hPB) rfl ?_
  refine X_get f_X3_114 rfl (c_B hpo hPB) rfl ?_
  refine X_ld rfl rfl rfl rfl ?_
  refine X_ld rfl rfl rfl rfl ?_
  obtain ⟨w0, E, hw0, hE, hET⟩ := hTr
  obtain ⟨w, rfl⟩ : ∃ w, w0 = w + 1 := by
    cases w0 with
    | zero => exact absurd hE (fun z => z)
    | succ w => exact ⟨w, rfl⟩
  rcases hE with ⟨k, hqk, hck, hEk⟩ | ⟨kd2, a4, n2, p2, F2, y1, y2, y3, y4, y5, y6⟩
  · refine X_callU (o := co) lu_X3_X0_matches (q_matches hG (d + 42) i hi hqk hvv hck hcm5 hrel q hq1 hq40) rfl rfl (c_B hqk.1 hqk.2) rfl rfl (Nat.le_of_ble_eq_true rfl) (x_fit_of (Nat.le_of_ble_eq_true rfl) (by omega) (Nat.le_of_ble_eq_true rfl) (Nat.le_of_ble_eq_true rfl)) (fun N9 r9 h9 => ?_)
    obtain ⟨rfl, rfl⟩ := h9
    refine X_stk (st' := [.long (s_rws e g s q)]) (congrArg (fun z => [Value.long z]) ((s_mt_me q).trans ((s_me_cong q (fun l _ => (s_find_ft.trans ((hET _).symm.trans (congrFun hEk _))).symm)).trans (s_rws_me q).symm))) ?_
    exact X_lret rfl rfl ⟨rfl, rfl⟩ (Nat.le_of_ble_eq_true rfl) (Nat.le_of_ble_eq_true rfl)
  · refine X_callU (o := co) lu_X3_X1_matches (h_mat_all hG (d + (39 - w)) i hi hvv hcm5 hrel q hq1 hq40 w co kd2 a4 n2 p2 F2 y1 y2 y3 y4 y5) rfl rfl (c_B y1 y2) rfl rfl (Nat.le_of_ble_eq_true rfl) (x_fit_of (Nat.le_of_ble_eq_true rfl) (by omega) (Nat.le_of_ble_eq_true rfl) (Nat.le_of_ble_eq_true rfl)) (fun N9 r9 h9 => ?_)
    obtain ⟨rfl, rfl⟩ := h9
    refine X_stk (st' := [.long (s_rws e g s q)]) (congrArg (fun z => [Value.long z]) ((s_me_cong q (fun l _ => (s_find_ft.trans ((hET _).symm.trans (congrFun y6 _))).symm)).trans (s_rws_me q).symm)) ?_
    exact X_lret rfl rfl ⟨rfl, rfl⟩ (Nat.le_of_ble_eq_true rfl) (Nat.le_of_ble_eq_true rfl)
def s_lrnc (c : Nat → Int32) (s j : Nat) (t n : Int32) : Int32 := (3 * s_st c s (21 + j) + x_min (100 * t / x_max n 1) 1000) / 4
theorem x_max_n0 {n : Int32} : ¬ x_max n 1 = 0 := by
  unfold x_max
  by_cases h : n < 1
  · rw [if_pos h]; decide
  · rw [if_neg h]
    intro e
    rw [e] at h
    exact absurd h (by decide)
theorem u_learn {G : XE} (hG : x_Kn G) {B : XH} {J bf K tk ts : Nat → Int32} {tl : Int64} {tv : Nat → Int64} {su : Nat → Nat} {D : Nat → Nat → Int32} (d : Nat) (i : Nat) (hi : i < 10) {c : Nat → Int32} (s : Nat) (hs : s < 6) {x t n : Int32} {j : Nat} (hx : x = nI j) (hj : j < 5) : x_M G mX9_learn (d + 1) 0 0 [.ref (75 + 20 * i + (8 + 2 * s)), .int x, .int t, .int n] (cset B J bf K tk ts tl tv su (updR D i c)) (x_RetV (cset B J bf K tk ts tl tv su (updR D i (upd c (275 + 30 * s + (21 + j)) (s_lrnc c s j t n))))) x_noX := by
  refine X_M hG okX9_learn rfl (L := [some (.ref (75 + 20 * i + (8 + 2 * s))), some (.int x), some (.int t), some (.int n), none]) rfl (Nat.le_of_ble_eq_true rfl) (fun ad0 nb0 => ?_)
  refine X_ld rfl rfl rfl rfl ?_
  refine X_if_lt rfl (fun c1 => absurd ((n_lt (b := 0) hx (show (0 : Int32) = nI 0 from rfl) (by omega) (by omega)).mp c1) (by omega)) (fun c1 => ?_)
  refine X_ld rfl rfl rfl rfl ?_
  refine X_push (v := .int 5) rfl (by decide +kernel) ?_
  refine X_icmp_ge rfl (fun c6 => absurd ((n_le (a := 5) (show (5 : Int32) = nI 5 from rfl) hx (by omega) (by omega)).mp c6) (by omega)) (fun c6 => ?_)
  refine X_push (v := .int 100) rfl (by decide +kernel) ?_
  refine X_ld rfl rfl rfl rfl ?_
  refine X_bin rfl rfl ?_
  refine X_ld rfl rfl rfl rfl ?_
  refine X_push (v := .int 1) rfl (by decide +kernel) ?_
  refine X_max lmax_X9 rfl (by omega) (Nat.le_of_ble_eq_true rfl) (Nat.le_of_ble_eq_true rfl) (Nat.le_of_ble_eq_true rfl) ?_
  refine X_idiv rfl x_max_n0 ?_
  refine X_push (v := .int 1000) rfl (by decide +kernel) ?_
  refine X_min lmin_X9 rfl (by omega) (Nat.le_of_ble_eq_true rfl) (Nat.le_of_ble_eq_true rfl) (Nat.le_of_ble_eq_true rfl) ?_
  refine X_st rfl rfl rfl ?_
  refine X_ld rfl rfl rfl rfl ?_
  refine X_get f_X9_15 rfl (r_u hi hs updR_eq) rfl ?_
  refine X_ld rfl rfl rfl rfl ?_
  refine X_push (v := .int 3) rfl (by decide +kernel) ?_
  refine X_ld rfl rfl rfl rfl ?_
  refine X_get f_X9_15 rfl (r_u hi hs updR_eq) rfl ?_
  refine X_ld rfl rfl rfl rfl ?_
  refine X_pald hi hs updR_eq hx (by omega) (k := j) rfl ?_
  refine X_bin rfl rfl ?_
  refine X_ld rfl rfl rfl rfl ?_
  refine X_bin rfl rfl ?_
  refine X_push (v := .int 4) rfl (by decide +kernel) ?_
  refine X_idiv rfl (by decide) ?_
  refine X_past hi hs updR_eq hx (by omega) (k := j) rfl ?_
  exact X_vret rfl rfl ⟨by rw [updR_updR]; rfl, rfl⟩ (Nat.le_of_ble_eq_true rfl) (Nat.le_of_ble_eq_true rfl)
def s_uc0 (c : Nat → Int32) (s : Nat) : Nat → Int32 := upd (upd (upd (upd (upd (upd (upd (upd c (275 + 30 * s + 8) 0) (275 + 30 * s + 9) 0) (275 + 30 * s + 10) 0) (275 + 30 * s + 11) 0) (275 + 30 * s + 14) (-2)) (275 + 30 * s + 15) 0) (275 + 30 * s + 16) 0) (275 + 30 * s + 13) 0
/-- a usage that is cleared, its first percentages too -/
def s_ucl (c : Nat → Int32) (s : Nat) : Nat → Nat → Int32
  | 0 => s_uc0 c s
  | j + 1 => upd (s_ucl c s j) (275 + 30 * s + (21 + j)) 100
theorem u_clear {G : XE} (hG : x_Kn G) {B : XH} {J bf K tk ts : Nat → Int32} {tl : Int64} {tv : Nat → Int64} {su : Nat → Nat} {D : Nat → Nat → Int32} (d : Nat) (i : Nat) (hi : i < 10) {c : Nat → Int32} (s : Nat) (hs : s < 6) : x_M G mX9_clear d 0 0 [.ref (75 + 20 * i + (8 + 2 * s))] (cset B J bf K tk ts tl tv su (updR D i c)) (x_RetV (cset B J bf K tk ts tl tv su (updR D i (s_ucl c s 5)))) x_noX := by
  refine X_M hG okX9_clear rfl (L := [some (.ref (75 + 20 * i + (8 + 2 * s))), none]) rfl (Nat.le_of_ble_eq_true rfl) (fun ad0 nb0 => ?_)
  have loop : x_W G mX9_clear (x_Z G d 0 0 ad0 nb0 (x_RetV (cset B J bf K tk ts tl tv su (updR D i (s_ucl c s 5)))) x_noX) (cset B J bf K tk ts tl tv su (updR D i (s_ucl c s 5))) 0 0 62 [some (.ref (75 + 20 * i + (8 + 2 * s))), some (.int (nI 5))] [] → ∀ (f9 k : Nat), k + f9 = 5 → x_W G mX9_clear (x_Z G d 0 0 ad0 nb0 (x_RetV (cset B J bf K tk ts tl tv su (updR D i (s_ucl c s 5)))) x_noX) (cset B J bf K tk ts tl tv su (updR D i (s_ucl c s k))) 0 0 43 [some (.ref (75 + 20 * i + (8 + 2 * s))), some (.int (nI k))] [] := by
    intro Kz f9
    induction f9 with
    | zero =>
      intro k e0 
      obtain rfl : k = 5 := by omega
      refine X_ld rfl rfl rfl rfl ?_
      refine X_push (v := .int 5) rfl (by decide +kernel) ?_
      refine X_icmp_ge rfl (fun c45 => ?_) (fun c45 => absurd ((n_le (a := 5) (show (5 : Int32) = nI 5 from rfl) rfl (by omega) (by omega)).mpr (by omega)) c45)
      exact Kz
    | succ f9 ih =>
      intro k e0 
      refine X_ld rfl rfl rfl rfl ?_
      refine X_push (v := .int 5) rfl (by decide +kernel) ?_
      refine X_icmp_ge rfl (fun c45 => absurd ((n_le (a := 5) (show (5 : Int32) = nI 5 from rfl) rfl (by omega) (by omega)).mp c45) (by omega)) (fun c45 => ?_)
      refine X_ld rfl rfl rfl rfl ?_
      refine X_get f_X9_15 rfl (r_u hi hs updR_eq) rfl ?_
      refine X_ld rfl rfl rfl rfl ?_
      refine X_push (v := .int 100) rfl (by decide +kernel) ?_
      refine X_past hi hs updR_eq rfl (by omega) (k := k) rfl ?_
      refine X_iinc rfl rfl rfl ?_
      refine X_goto rfl ?_
      refine X_heap (N' := cset B J bf K tk ts tl tv su (updR D i (s_ucl c s (k + 1)))) (by rw [updR_updR]; rfl) ?_
      refine X_loc (L' := [some (.ref (75 + 20 * i + (8 + 2 * s))), some (.int (nI (k + 1)))]) ⟨rfl, congrArg Value.int (m_inc rfl).symm, trivial⟩ ?_
      exact ih (k + 1) (by omega)
  refine X_ld rfl rfl rfl rfl ?_
  refine X_push (v := .int 0) rfl (by decide +kernel) ?_
  refine X_put f_X9_19 rfl (r_u hi hs updR_eq) ⟨rfl, rfl⟩ ?_
  refine X_heap (N' := cset B J bf K tk ts tl tv su (updR D i (upd c (275 + 30 * s + 8) 0))) (w_u (k := 0) hi hs (by decide)) ?_
  refine X_ld rfl rfl rfl rfl ?_
  refine X_push (v := .int 0) rfl (by decide +kernel) ?_
  refine X_put f_X9_22 rfl (r_u hi hs updR_eq) ⟨rfl, rfl⟩ ?_
  refine X_heap (N' := cset B J bf K tk ts tl tv su (updR D i (upd (upd c (275 + 30 * s + 8) 0) (275 + 30 * s + 9) 0))) (w_u (k := 1) hi hs (by decide)) ?_
  refine X_ld rfl rfl rfl rfl ?_
  refine X_push (v := .int 0) rfl (by decide +kernel) ?_
  refine X_put f_X9_25 rfl (r_u hi hs updR_eq) ⟨rfl, rfl⟩ ?_
  refine X_heap (N' := cset B J bf K tk ts tl tv su (updR D i (upd (upd (upd c (275 + 30 * s + 8) 0) (275 + 30 * s + 9) 0) (275 + 30 * s + 10) 0))) (w_u (k := 2) hi hs (by decide)) ?_
  refine X_ld rfl rfl rfl rfl ?_
  refine X_push (v := .int 0) rfl (by decide +kernel) ?_
  refine X_put f_X9_28 rfl (r_u hi hs updR_eq) ⟨rfl, rfl⟩ ?_
  refine X_heap (N' := cset B J bf K tk ts tl tv su (updR D i (upd (upd (upd (upd c (275 + 30 * s + 8) 0) (275 + 30 * s + 9) 0) (275 + 30 * s + 10) 0) (275 + 30 * s + 11) 0))) (w_u (k := 3) hi hs (by decide)) ?_
  refine X_ld rfl rfl rfl rfl ?_
  refine X_push (v := .int (-2)) rfl (by decide +kernel) ?_
  refine X_put f_X9_9 rfl (r_u hi hs updR_eq) ⟨rfl, rfl⟩ ?_
  refine X_heap (N' := cset B J bf K tk ts tl tv su (updR D i (upd (upd (upd (upd (upd c (275 + 30 * s + 8) 0) (275 + 30 * s + 9) 0) (275 + 30 * s + 10) 0) (275 + 30 * s + 11) 0) (275 + 30 * s + 14) (-2)))) (w_u (k := 4) hi hs (by decide)) ?_
  refine X_ld rfl rfl rfl rfl ?_
  refine X_push (v := .int 0) rfl (by decide +kernel) ?_
  refine X_put f_X9_31 rfl (r_u hi hs updR_eq) ⟨rfl, rfl⟩ ?_
  refine X_heap (N' := cset B J bf K tk ts tl tv su (updR D i (upd (upd (upd (upd (upd (upd c (275 + 30 * s + 8) 0) (275 + 30 * s + 9) 0) (275 + 30 * s + 10) 0) (275 + 30 * s + 11) 0) (275 + 30 * s + 14) (-2)) (275 + 30 * s + 15) 0))) (w_u (k := 5) hi hs (by decide)) ?_
  refine X_ld rfl rfl rfl rfl ?_
  refine X_push (v := .int 0) rfl (by decide +kernel) ?_
  refine X_put f_X9_34 rfl (r_u hi hs updR_eq) ⟨rfl, rfl⟩ ?_
  refine X_heap (N' := cset B J bf K tk ts tl tv su (updR D i (upd (upd (upd (upd (upd (upd (upd c (275 + 30 * s + 8) 0) (275 + 30 * s + 9) 0) (275 + 30 * s + 10) 0) (275 + 30 * s + 11) 0) (275 + 30 * s + 14) (-2)) (275 + 30 * s + 15) 0) (275 + 30 * s + 16) 0))) (w_u (k := 6) hi hs (by decide)) ?_
  refine X_ld rfl rfl rfl rfl ?_
  refine X_push (v := .int 0) rfl (by decide +kernel) ?_
  refine X_put f_X9_37 rfl (r_u hi hs updR_eq) ⟨rfl, rfl⟩ ?_
  refine X_heap (N' := cset B J bf K tk ts tl tv su (updR D i (upd (upd (upd (upd (upd (upd (upd (upd c (275 + 30 * s + 8) 0) (275 + 30 * s + 9) 0) (275 + 30 * s + 10) 0) (275 + 30 * s + 11) 0) (275 + 30 * s + 14) (-2)) (275 + 30 * s + 15) 0) (275 + 30 * s + 16) 0) (275 + 30 * s + 13) 0))) (w_u (k := 7) hi hs (by decide)) ?_
  refine X_push (v := .int 0) rfl (by decide +kernel) ?_
  refine X_st rfl rfl rfl ?_
  refine X_heap (N' := cset B J bf K tk ts tl tv su (updR D i (s_ucl c s 0))) rfl ?_
  refine X_loc (L' := [some (.ref (75 + 20 * i + (8 + 2 * s))), some (.int (nI 0))]) ⟨rfl, rfl, trivial⟩ ?_
  refine loop ?_ _ 0 (Nat.zero_add _)
  exact X_vret rfl rfl ⟨rfl, rfl⟩ (Nat.le_of_ble_eq_true rfl) (Nat.le_of_ble_eq_true rfl)
def s_us (x : Int64) (k : Int32) : Int64 := (x.toUInt64 >>> (k.toInt64.toUInt64 &&& Int64.toUInt64 63)).toInt64
def s_b1 (x : Int64) : Int64 := x - (s_us x 1 &&& 6148914691236517205)
def s_b2 (x : Int64) : Int64 := (x &&& 3689348814741910323) + (s_us x 2 &&& 3689348814741910323)
def s_b3 (x : Int64) : Int64 := (x + s_us x 4) &&& 1085102592571150095
def s_b4 (x : Int64) (k : Int32) : Int64 := x + s_us x k
def s_bc (x : Int64) : Int32 := (s_b4 (s_b4 (s_b4 (s_b3 (s_b2 (s_b1 x))) 8) 16) 32).toInt32 &&& 127
theorem j_bitCount {G : XE} (hG : x_Kn G) {N : XH} (d : Nat) {x : Int64} : x_M G mJ13_bitCount_95d88 d 0 0 [.long x] (N) (x_Ret N (.int (s_bc x))) x_noX := by
  refine X_M hG okJ13_bitCount_95d88 rfl (L := [some (.long x), none]) rfl (Nat.le_of_ble_eq_true rfl) (fun ad0 nb0 => ?_)
  refine X_ld rfl rfl rfl rfl ?_
  refine X_ld rfl rfl rfl rfl ?_
  refine X_push (v := .int 1) rfl (by decide +kernel) ?_
  refine X_bin rfl rfl ?_
  refine X_ldc2 k_J13_314 rfl ?_
  refine X_bin rfl rfl ?_
  refine X_bin rfl rfl ?_
  refine X_stl rfl rfl rfl ?_
  refine X_ld rfl rfl rfl rfl ?_
  refine X_ldc2 k_J13_316 rfl ?_
  refine X_bin rfl rfl ?_
  refine X_ld rfl rfl rfl rfl ?_
  refine X_push (v := .int 2) rfl (by decide +kernel) ?_
  refine X_bin rfl rfl ?_
  refine X_ldc2 k_J13_316 rfl ?_
  refine X_bin rfl rfl ?_
  refine X_bin rfl rfl ?_
  refine X_stl rfl rfl rfl ?_
  refine X_ld rfl rfl rfl rfl ?_
  refine X_ld rfl rfl rfl rfl ?_
  refine X_push (v := .int 4) rfl (by decide +kernel) ?_
  refine X_bin rfl rfl ?_
  refine X_bin rfl rfl ?_
  refine X_ldc2 k_J13_318 rfl ?_
  refine X_bin rfl rfl ?_
  refine X_stl rfl rfl rfl ?_
  refine X_ld rfl rfl rfl rfl ?_
  refine X_ld rfl rfl rfl rfl ?_
  refine X_push (v := .int 8) rfl (by decide +kernel) ?_
  refine X_bin rfl rfl ?_
  refine X_bin rfl rfl ?_
  refine X_stl rfl rfl rfl ?_
  refine X_ld rfl rfl rfl rfl ?_
  refine X_ld rfl rfl rfl rfl ?_
  refine X_push (v := .int 16) rfl (by decide +kernel) ?_
  refine X_bin rfl rfl ?_
  refine X_bin rfl rfl ?_
  refine X_stl rfl rfl rfl ?_
  refine X_ld rfl rfl rfl rfl ?_
  refine X_ld rfl rfl rfl rfl ?_
  refine X_push (v := .int 32) rfl (by decide +kernel) ?_
  refine X_bin rfl rfl ?_
  refine X_bin rfl rfl ?_
  refine X_stl rfl rfl rfl ?_
  refine X_ld rfl rfl rfl rfl ?_
  refine X_un rfl rfl ?_
  refine X_push (v := .int 127) rfl (by decide +kernel) ?_
  refine X_bin rfl rfl ?_
  exact X_iret rfl rfl ⟨rfl, rfl⟩ (Nat.le_of_ble_eq_true rfl) (Nat.le_of_ble_eq_true rfl)

