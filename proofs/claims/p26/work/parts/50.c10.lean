/-! ===== the class: costs, the best plan ===== -/
theorem s_chosen_out {e gv : Nat → Int32} {s j : Nat} {z : Bool} (hwf : s_wf e) (hs : s < s_sm e) (hj : s_cm e ≤ j) (hj2 : j < 2147483648) : s_chosen e gv s (nI j) z = -1 := by
  rcases s_chosen_ok (c := e) (gv := gv) (col := nI j) (z := z) (hwf.kok hs) with h | ⟨q, ⟨h1, h2, h3, h4, h5⟩, h6⟩
  · exact h
  · obtain ⟨j2, a1, a2⟩ := ((hwf.st s hs).2.2 q h1 h2 h3).1
    have := hwf.cmE.2
    have := (nI_eq (by omega) hj2).mp (a2.symm.trans h5)
    omega
theorem s_cost_out {e gv : Nat → Int32} {s j : Nat} {z : Bool} (hwf : s_wf e) (hs : s < s_sm e) (hj : s_cm e ≤ j) (hj2 : j < 2147483648) : s_cost e gv s (nI j) z = -1 := by
  unfold s_cost
  rw [if_neg (nI_ne_neg hj2)]
  unfold s_cost1
  rw [s_chosen_out hwf hs hj hj2, if_pos rfl]
  by_cases h : s_col e (nI j).toNatClampNeg 9 = 1
  · rw [if_pos h]
  · rw [if_neg h]
theorem s_cost_in {e gv : Nat → Int32} {s j : Nat} {z : Bool} (hj2 : j < 2147483648) : s_cost e gv s (nI j) z = s_cost1 e gv s j (nI j) z := by
  unfold s_cost
  rw [if_neg (nI_ne_neg hj2), nI_clamp hj2]
theorem s_cost_no0 {e c gv : Nat → Int32} {s j : Nat} {z : Bool} (hwf : s_wf e) (hs : s < s_sm e) (hrel : s_rel e c) (hj : j < 5) (h : c (10 + 13 * j + 9) = 0) : s_cost e gv s (nI j) z = -1 := by
  by_cases hjc : j < s_cm e
  · rw [s_cost_in (by omega)]
    unfold s_cost1
    rw [if_neg (by rw [hrel.2.1 j hjc 9 (by omega) (by omega)]; show ¬ c (10 + 13 * j + 9) = 1; rw [h]; decide)]
  · exact s_cost_out hwf hs (by omega) (by omega)
theorem s_cost_no1 {e gv : Nat → Int32} {s j : Nat} {z : Bool} (h : s_chosen e gv s (nI j) z = -1) (hj2 : j < 2147483648) : s_cost e gv s (nI j) z = -1 := by
  rw [s_cost_in hj2]
  unfold s_cost1
  rw [h, if_pos rfl]
  by_cases h2 : s_col e j 9 = 1
  · rw [if_pos h2]
  · rw [if_neg h2]
theorem s_cost_yes {e c gv : Nat → Int32} {s j k : Nat} {z : Bool} (hwf : s_wf e) (hs : s < s_sm e) (hrel : s_rel e c) (hj : j < 5) (h : ¬ c (10 + 13 * j + 9) = 0) (hch : s_chosen e gv s (nI j) z = nI k) (hk2 : k < 2147483648) (hkc : s_cod e k 1 = nI j) (hc : s_cmpok e k) : s_cost e gv s (nI j) z = e 5 + e 6 * (s_est e gv k z * c (275 + 30 * s + (21 + j)) / 100) := by
  have hcm5 := hwf.cmE.2
  obtain ⟨j2, a1, a2⟩ := hc.1
  obtain rfl : j2 = j := (nI_eq (by omega) (by omega)).mp (a2.symm.trans hkc)
  rw [s_cost_in (by omega)]
  unfold s_cost1
  have h9 := hrel.2.1 j2 a1 9 (by omega) (by omega)
  rw [if_pos (by
    rcases (hwf.col j2 a1).2.1 with y | y
    · exact absurd (h9.symm.trans y) h
    · exact y), hch, if_neg (nI_ne_neg hk2), nI_clamp hk2]
  rw [show s_st e s (21 + j2) = c (275 + 30 * s + (21 + j2)) from hrel.2.2.2 s hs (21 + j2) (Or.inr (Or.inr (by omega)))]
theorem d_costOf {G : XE} (hG : x_Kn G) {B : XH} {J bf K tk ts : Nat → Int32} {tl : Int64} {tv : Nat → Int64} {su : Nat → Nat} {D : Nat → Nat → Int32} (d : Nat) (i : Nat) (hi : i < 10) {c : Nat → Int32} {e g gv : Nat → Int32} {vn : Nat} {z : Bool} (hwf : s_wf e) (hst : st_at B e (su i)) (hrel : s_rel e c) (hvv : v_at B g vn) (hg : g_ok z g gv) (s : Nat) (hs : s < s_sm e) {x pl : Int32} (hx : x = nI s) (hp : pl = -1 ∨ ∃ j, j < 5 ∧ pl = nI j) : x_M G mX3_costOf (d + 5) 0 0 [.ref (75 + 20 * i), .int x, .int pl, .ref vn] (cset B J bf K tk ts tl tv su (updR D i c)) (x_Ret (cset B J bf K tk ts tl tv su (updR D i c)) (.int (s_cost e gv s pl z))) x_noX := by
  refine X_M hG okX3_costOf rfl (L := [some (.ref (75 + 20 * i)), some (.int x), some (.int pl), some (.ref vn), none, none]) rfl (Nat.le_of_ble_eq_true rfl) (fun ad0 nb0 => ?_)
  have hsm6 := hwf.smE.2
  have hcm5 := hwf.cmE.2
  obtain ⟨hso, a1, a2, a3, pp, hsB, -, -, hl3, hP⟩ := id hst
  obtain ⟨hft, ht325, -⟩ := s_kok_ft (hwf.kok hs)
  rcases hp with rfl | ⟨j, hj, rfl⟩
  · refine X_ld rfl rfl rfl rfl ?_
    refine X_push (v := .int (-1)) rfl (by decide +kernel) ?_
    refine X_icmp_ne rfl (fun c2 => absurd (by decide) c2) (fun c2 => ?_)
    refine X_ld rfl rfl rfl rfl ?_
    refine X_get f_X3_32 rfl (r_D hi updR_eq) rfl ?_
    refine X_get f_X3_140 rfl (c_B hso hsB) rfl ?_
    refine X_ld rfl rfl rfl rfl ?_
    refine X_get f_X3_22 rfl (r_D hi updR_eq) rfl ?_
    refine X_get f_X3_72 rfl (r_S hi updR_eq) rfl ?_
    refine X_bin rfl rfl ?_
    exact X_iret rfl rfl ⟨rfl, congrArg (fun q => some (Value.int q)) (show s_cost e gv s (-1) z = e 4 * c 8 by unfold s_cost; rw [if_pos rfl, hrel.1.2.2]).symm⟩ (Nat.le_of_ble_eq_true rfl) (Nat.le_of_ble_eq_true rfl)
  · refine X_ld rfl rfl rfl rfl ?_
    refine X_push (v := .int (-1)) rfl (by decide +kernel) ?_
    refine X_icmp_ne rfl (fun c2 => ?_) (fun c2 => absurd c2 (nI_ne_neg (by omega)))
    refine X_ld rfl rfl rfl rfl ?_
    refine X_if_lt rfl (fun c22 => absurd ((n_lt (b := 0) rfl (show (0 : Int32) = nI 0 from rfl) (by omega) (by omega)).mp c22) (by omega)) (fun c22 => ?_)
    refine X_ld rfl rfl rfl rfl ?_
    refine X_push (v := .int 5) rfl (by decide +kernel) ?_
    refine X_icmp_ge rfl (fun c27 => absurd ((n_le (a := 5) (show (5 : Int32) = nI 5 from rfl) rfl (by omega) (by omega)).mp c27) (by omega)) (fun c27 => ?_)
    refine X_ld rfl rfl rfl rfl ?_
    refine X_get f_X3_15 rfl (r_D hi updR_eq) rfl ?_
    refine X_ld rfl rfl rfl rfl ?_
    refine X_Xald hi updR_eq rfl (by omega) (k := j) rfl ?_
    refine X_if_ne rfl (fun c36 => ?_) (fun c36 => ?_)
    · refine X_ld rfl rfl rfl rfl ?_
      refine X_ld rfl rfl rfl rfl ?_
      refine X_ld rfl rfl rfl rfl ?_
      refine X_ld rfl rfl rfl rfl ?_
      refine X_vcallP (r_D hi updR_eq) l_X3_X3_chosenFor (d_chosenFor hG d i hi (z := z) (gv := gv) hwf hst hrel hvv hg s hs hx) rfl rfl rfl rfl (Nat.le_of_ble_eq_true rfl) (Nat.le_of_ble_eq_true rfl) (by omega) (Nat.le_of_ble_eq_true rfl) (Nat.le_of_ble_eq_true rfl) (fun N9 r9 hC => ?_)
      obtain ⟨rfl, hC⟩ := hC
      rcases hC with ⟨hch, rfl⟩ | ⟨k, oq, hk, hch, hkc, hk0, rfl, hq⟩
      · refine X_stk (st' := [.null]) rfl ?_
        refine X_st rfl rfl rfl ?_
        refine X_ld rfl rfl rfl rfl ?_
        refine X_ifnonnullN rfl ?_
        · refine X_push (v := .int (-1)) rfl (by decide +kernel) ?_
          exact X_iret rfl rfl ⟨rfl, congrArg (fun q => some (Value.int q)) (s_cost_no1 hch (by omega)).symm⟩ (Nat.le_of_ble_eq_true rfl) (Nat.le_of_ble_eq_true rfl)
      · refine X_stk (st' := [.ref oq]) rfl ?_
        have hc : s_cmpok e k := (hwf.st s hs).2.2 k hk.1 hk.2 hk0
        refine X_st rfl rfl rfl ?_
        refine X_ld rfl rfl rfl rfl ?_
        refine X_ifnonnull rfl ?_
        · refine X_ld rfl rfl rfl rfl ?_
          refine X_get f_X3_22 rfl (r_D hi updR_eq) rfl ?_
          refine X_ld rfl rfl rfl rfl ?_
          refine X_ld rfl rfl rfl rfl ?_
          obtain ⟨jc, hjc, hjc1⟩ := hc.1
          refine X_vcall (r_S hi updR_eq) l_X3_X7_estimate (t_estimate hG (d + 3) i hi hq hvv hc jc (by omega) hjc1) rfl rfl rfl rfl (Nat.le_of_ble_eq_true rfl) (Nat.le_of_ble_eq_true rfl) (by omega) (Nat.le_of_ble_eq_true rfl) (Nat.le_of_ble_eq_true rfl) ?_
          refine X_stk (congrArg (fun q => [Value.int q]) (s_cest_est hwf hc hrel hjc hjc1 hg)) ?_
          refine X_ld rfl rfl rfl rfl ?_
          refine X_get f_X3_28 rfl (r_D hi updR_eq) rfl ?_
          refine X_ld rfl rfl rfl rfl ?_
          refine X_uald hi updR_eq hx (by omega) (k := s) rfl ?_
          refine X_get f_X3_147 rfl (r_u hi (by omega) updR_eq) rfl ?_
          refine X_ld rfl rfl rfl rfl ?_
          refine X_pald hi (by omega) updR_eq rfl (by omega) (k := j) rfl ?_
          refine X_bin rfl rfl ?_
          refine X_push (v := .int 100) rfl (by decide +kernel) ?_
          refine X_idiv rfl (by decide) ?_
          refine X_st rfl rfl rfl ?_
          refine X_ld rfl rfl rfl rfl ?_
          refine X_get f_X3_32 rfl (r_D hi updR_eq) rfl ?_
          refine X_get f_X3_150 rfl (c_B hso hsB) rfl ?_
          refine X_ld rfl rfl rfl rfl ?_
          refine X_get f_X3_32 rfl (r_D hi updR_eq) rfl ?_
          refine X_get f_X3_153 rfl (c_B hso hsB) rfl ?_
          refine X_ld rfl rfl rfl rfl ?_
          refine X_bin rfl rfl ?_
          refine X_bin rfl rfl ?_
          exact X_iret rfl rfl ⟨rfl, congrArg (fun q => some (Value.int q)) (s_cost_yes hwf hs hrel hj c36 hch (by omega) hkc hc).symm⟩ (Nat.le_of_ble_eq_true rfl) (Nat.le_of_ble_eq_true rfl)
    · refine X_push (v := .int (-1)) rfl (by decide +kernel) ?_
      exact X_iret rfl rfl ⟨rfl, congrArg (fun q => some (Value.int q)) (s_cost_no0 hwf hs hrel hj c36).symm⟩ (Nat.le_of_ble_eq_true rfl) (Nat.le_of_ble_eq_true rfl)
theorem s_bst_out {e gv : Nat → Int32} {s : Nat} {z : Bool} (hwf : s_wf e) (hs : s < s_sm e) : ∀ r, s_cm e + r < 2147483648 → s_bst e gv s z (s_cm e + r) = s_bst e gv s z (s_cm e)
  | 0, _ => rfl
  | r + 1, h => by
    show s_bst1 (s_bst e gv s z (s_cm e + r)) (s_cm e + r) (s_cost e gv s (nI (s_cm e + r)) z) = _
    rw [s_cost_out hwf hs (by omega) (by omega)]
    unfold s_bst1
    rw [if_pos rfl]
    exact s_bst_out hwf hs r (by omega)
theorem d_bestPlan {G : XE} (hG : x_Kn G) {B : XH} {J bf K tk ts : Nat → Int32} {tl : Int64} {tv : Nat → Int64} {su : Nat → Nat} {D : Nat → Nat → Int32} (d : Nat) (i : Nat) (hi : i < 10) {c : Nat → Int32} {e g gv : Nat → Int32} {vn : Nat} {z : Bool} (hwf : s_wf e) (hst : st_at B e (su i)) (hrel : s_rel e c) (hvv : v_at B g vn) (hg : g_ok z g gv) (s : Nat) (hs : s < s_sm e) {x : Int32} (hx : x = nI s) : x_M G mX3_bestPlan (d + 6) 0 0 [.ref (75 + 20 * i), .int x, .ref vn] (cset B J bf K tk ts tl tv su (updR D i c)) (x_Ret (cset B J bf K tk ts tl tv su (updR D i c)) (.int (s_best e gv s (s_cm e) z))) x_noX := by
  refine X_M hG okX3_bestPlan rfl (L := [some (.ref (75 + 20 * i)), some (.int x), some (.ref vn), none, none, none, none]) rfl (Nat.le_of_ble_eq_true rfl) (fun ad0 nb0 => ?_)
  have hsm6 := hwf.smE.2
  have hcm5 := hwf.cmE.2
  have loop : x_W G mX3_bestPlan (x_Z G (d + 6) 0 0 ad0 nb0 (x_Ret (cset B J bf K tk ts tl tv su (updR D i c)) (.int (s_best e gv s (s_cm e) z))) x_noX) (cset B J bf K tk ts tl tv su (updR D i c)) 0 0 56 [some (.ref (75 + 20 * i)), some (.int x), some (.ref vn), some (.int (s_bst e gv s z 5).1), some (.int (s_bst e gv s z 5).2), some (.int (nI 5)), none] [] → ∀ (f9 n : Nat), n + f9 = 5 → x_W G mX3_bestPlan (x_Z G (d + 6) 0 0 ad0 nb0 (x_Ret (cset B J bf K tk ts tl tv su (updR D i c)) (.int (s_best e gv s (s_cm e) z))) x_noX) (cset B J bf K tk ts tl tv su (updR D i c)) 0 0 14 [some (.ref (75 + 20 * i)), some (.int x), some (.ref vn), some (.int (s_bst e gv s z n).1), some (.int (s_bst e gv s z n).2), some (.int (nI n)), none] [] := by
    intro Kz f9
    induction f9 with
    | zero =>
      intro n e0 
      obtain rfl : n = 5 := by omega
      refine X_ld rfl rfl rfl rfl ?_
      refine X_push (v := .int 5) rfl (by decide +kernel) ?_
      refine X_icmp_ge rfl (fun c17 => ?_) (fun c17 => absurd ((n_le (a := 5) (show (5 : Int32) = nI 5 from rfl) rfl (by omega) (by omega)).mpr (by omega)) c17)
      exact Kz
    | succ f9 ih =>
      intro n e0 
      refine X_ld rfl rfl rfl rfl ?_
      refine X_push (v := .int 5) rfl (by decide +kernel) ?_
      refine X_icmp_ge rfl (fun c17 => absurd ((n_le (a := 5) (show (5 : Int32) = nI 5 from rfl) rfl (by omega) (by omega)).mp c17) (by omega)) (fun c17 => ?_)
      refine X_ld rfl rfl rfl rfl ?_
      refine X_ld rfl rfl rfl rfl ?_
      refine X_ld rfl rfl rfl rfl ?_
      refine X_ld rfl rfl rfl rfl ?_
      refine X_vcall (r_D hi updR_eq) l_X3_X3_costOf (d_costOf hG d i hi (z := z) (gv := gv) hwf hst hrel hvv hg s hs hx (Or.inr ⟨n, by omega, rfl⟩)) rfl rfl rfl rfl (Nat.le_of_ble_eq_true rfl) (Nat.le_of_ble_eq_true rfl) (by omega) (Nat.le_of_ble_eq_true rfl) (Nat.le_of_ble_eq_true rfl) ?_
      refine X_st rfl rfl rfl ?_
      refine X_ld rfl rfl rfl rfl ?_
      refine X_push (v := .int (-1)) rfl (by decide +kernel) ?_
      refine X_icmp_eq rfl (fun c33 => ?_) (fun c33 => ?_)
      · refine X_iinc rfl rfl rfl ?_
        refine X_goto rfl ?_
        have eb : s_bst e gv s z (n + 1) = _ := (show s_bst1 (s_bst e gv s z n) n (s_cost e gv s (nI n) z) = s_bst e gv s z n by unfold s_bst1; rw [if_pos c33])
        refine X_loc (L' := [some (.ref (75 + 20 * i)), some (.int x), some (.ref vn), some (.int (s_bst e gv s z (n + 1)).1), some (.int (s_bst e gv s z (n + 1)).2), some (.int (nI (n + 1))), none]) ⟨rfl, rfl, rfl, congrArg (fun q => Value.int q.1) eb, congrArg (fun q => Value.int q.2) eb, congrArg Value.int (m_inc rfl).symm, trivial⟩ ?_
        exact ih (n + 1) (by omega)
      · refine X_ld rfl rfl rfl rfl ?_
        refine X_ld rfl rfl rfl rfl ?_
        refine X_icmp_ge rfl (fun c40 => ?_) (fun c40 => ?_)
        · refine X_iinc rfl rfl rfl ?_
          refine X_goto rfl ?_
          have eb : s_bst e gv s z (n + 1) = _ := (show s_bst1 (s_bst e gv s z n) n (s_cost e gv s (nI n) z) = s_bst e gv s z n by unfold s_bst1; rw [if_neg c33, if_neg (Int32.not_lt.mpr c40)])
          refine X_loc (L' := [some (.ref (75 + 20 * i)), some (.int x), some (.ref vn), some (.int (s_bst e gv s z (n + 1)).1), some (.int (s_bst e gv s z (n + 1)).2), some (.int (nI (n + 1))), none]) ⟨rfl, rfl, rfl, congrArg (fun q => Value.int q.1) eb, congrArg (fun q => Value.int q.2) eb, congrArg Value.int (m_inc rfl).symm, trivial⟩ ?_
          exact ih (n + 1) (by omega)
        · refine X_ld rfl rfl rfl rfl ?_
          refine X_st rfl rfl rfl ?_
          refine X_ld rfl rfl rfl rfl ?_
          refine X_st rfl rfl rfl ?_
          refine X_iinc rfl rfl rfl ?_
          refine X_goto rfl ?_
          have eb : s_bst e gv s z (n + 1) = _ := (show s_bst1 (s_bst e gv s z n) n (s_cost e gv s (nI n) z) = (nI n, s_cost e gv s (nI n) z) by unfold s_bst1; rw [if_neg c33, if_pos (Int32.not_le.mp c40)])
          refine X_loc (L' := [some (.ref (75 + 20 * i)), some (.int x), some (.ref vn), some (.int (s_bst e gv s z (n + 1)).1), some (.int (s_bst e gv s z (n + 1)).2), some (.int (nI (n + 1))), none]) ⟨rfl, rfl, rfl, congrArg (fun q => Value.int q.1) eb, congrArg (fun q => Value.int q.2) eb, congrArg Value.int (m_inc rfl).symm, trivial⟩ ?_
          exact ih (n + 1) (by omega)
  refine X_push (v := .int (-1)) rfl (by decide +kernel) ?_
  refine X_st rfl rfl rfl ?_
  refine X_ld rfl rfl rfl rfl ?_
  refine X_ld rfl rfl rfl rfl ?_
  refine X_push (v := .int (-1)) rfl (by decide +kernel) ?_
  refine X_ld rfl rfl rfl rfl ?_
  refine X_vcall (r_D hi updR_eq) l_X3_X3_costOf (d_costOf hG d i hi (z := z) (gv := gv) hwf hst hrel hvv hg s hs hx (Or.inl rfl)) rfl rfl rfl rfl (Nat.le_of_ble_eq_true rfl) (Nat.le_of_ble_eq_true rfl) (by omega) (Nat.le_of_ble_eq_true rfl) (Nat.le_of_ble_eq_true rfl) ?_
  refine X_st rfl rfl rfl ?_
  refine X_push (v := .int 0) rfl (by decide +kernel) ?_
  refine X_st rfl rfl rfl ?_
  refine X_loc (L' := [some (.ref (75 + 20 * i)), some (.int x), some (.ref vn), some (.int (s_bst e gv s z 0).1), some (.int (s_bst e gv s z 0).2), some (.int (nI 0)), none]) ⟨rfl, rfl, rfl, rfl, rfl, rfl, trivial⟩ ?_
  refine loop ?_ _ 0 (Nat.zero_add _)
  refine X_ld rfl rfl rfl rfl ?_
  exact X_iret rfl rfl ⟨rfl, congrArg (fun q => some (Value.int q)) (show s_best e gv s (s_cm e) z = (s_bst e gv s z 5).1 from by unfold s_best; rw [show 5 = s_cm e + (5 - s_cm e) by omega, s_bst_out hwf hs _ (by omega)]).symm⟩ (Nat.le_of_ble_eq_true rfl) (Nat.le_of_ble_eq_true rfl)

