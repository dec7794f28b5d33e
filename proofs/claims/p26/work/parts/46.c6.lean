/-! ===== the class: comparisons and estimates ===== -/
/-- the comparison that code k of row e tells -/
def cmV (e : Nat → Int32) (k : Nat) : Nat → Value := fun j => match j with
  | 0 => .int (s_cod e k 1)
  | 1 => .int (s_cod e k 2)
  | 2 => .int (s_cod e k 3)
  | _ => .int (s_cod e k 4)
/-- a row e of the reference, and the numbers c of a Data -/
def s_rel (e c : Nat → Int32) : Prop :=
  (e 1 = c 1 ∧ e 3 = c 3 ∧ e 8 = c 8) ∧ (∀ j, j < s_cm e → ∀ x, 9 ≤ x → x ≤ 12 → s_col e j x = s_col c j x) ∧ (∀ l, l < s_lm e → ∀ j, j < s_cm e → s_val e l j = s_val c l j) ∧ (∀ s, s < s_sm e → ∀ x, (8 ≤ x ∧ x ≤ 11) ∨ (13 ≤ x ∧ x ≤ 16) ∨ (21 ≤ x ∧ x ≤ 25) → s_st e s x = s_st c s x)
/-- the value that a comparison with values g has on its right, if it isn't a column -/
def s_vw (e g : Nat → Int32) (k : Nat) : Int32 := if s_cod e k 3 = 2 then g (n_ (s_cod e k 4)) else s_cod e k 4
theorem x_min_comm (x y : Int32) : x_min x y = x_min y x := by
  unfold x_min
  by_cases h1 : y < x
  · rw [if_pos h1, if_neg (fun h2 => by have a := Int32.lt_iff_toInt_lt.mp h1; have b := Int32.lt_iff_toInt_lt.mp h2; omega)]
  · rw [if_neg h1]
    by_cases h2 : x < y
    · rw [if_pos h2]
    · rw [if_neg h2]
      exact Int32.toInt_inj.mp (by have a := mt Int32.lt_iff_toInt_lt.mpr h1; have b := mt Int32.lt_iff_toInt_lt.mpr h2; omega)
/-- a fixed cell outside: the comparison at o, the values at vn -/
def q_at (B : XH) (e : Nat → Int32) (k o : Nat) : Prop := s_out o ∧ B o = some (.inl (1, cmV e k))
def v_at (B : XH) (g : Nat → Int32) (vn : Nat) : Prop := s_out vn ∧ ∃ mu, B vn = some (.inr (mu, .int, 4, fun j => .int (g j)))
theorem q_valueWith {G : XE} (hG : x_Kn G) {B : XH} {J bf K tk ts : Nat → Int32} {tl : Int64} {tv : Nat → Int64} {su : Nat → Nat} {D : Nat → Nat → Int32} (d : Nat) {e g : Nat → Int32} {k o vn : Nat} (hq : q_at B e k o) (hvv : v_at B g vn) (h3 : s_cod e k 3 = 2 → ∃ h, h < 4 ∧ s_cod e k 4 = nI h) : x_M G mX0_valueWith d 0 0 [.ref o, .ref vn] (cset B J bf K tk ts tl tv su D) (x_Ret (cset B J bf K tk ts tl tv su D) (.int (s_vw e g k))) x_noX := by
  refine X_M hG okX0_valueWith rfl (L := [some (.ref o), some (.ref vn)]) rfl (Nat.le_of_ble_eq_true rfl) (fun ad0 nb0 => ?_)
  obtain ⟨hvn, mu, hv⟩ := hvv
  refine X_ld rfl rfl rfl rfl ?_
  refine X_get f_X0_19 rfl (c_B hq.1 hq.2) rfl ?_
  refine X_push (v := .int 2) rfl (by decide +kernel) ?_
  refine X_icmp_ne rfl (fun c5 => ?_) (fun c5 => ?_)
  · refine X_ld rfl rfl rfl rfl ?_
    refine X_get f_X0_22 rfl (c_B hq.1 hq.2) rfl ?_
    exact X_iret rfl rfl ⟨rfl, by unfold s_vw; rw [if_neg c5]⟩ (Nat.le_of_ble_eq_true rfl) (Nat.le_of_ble_eq_true rfl)
  · obtain ⟨h, hh, hh2⟩ := h3 c5
    refine X_ld rfl rfl rfl rfl ?_
    refine X_get f_X0_22 rfl (c_B hq.1 hq.2) rfl ?_
    refine X_if_lt rfl (fun c12 => absurd ((n_lt (b := 0) hh2 (show (0 : Int32) = nI 0 from rfl) (by omega) (by omega)).mp c12) (by omega)) (fun c12 => ?_)
    refine X_ld rfl rfl rfl rfl ?_
    refine X_get f_X0_22 rfl (c_B hq.1 hq.2) rfl ?_
    refine X_ld rfl rfl rfl rfl ?_
    refine X_alen rfl (c_B hvn hv) ?_
    refine X_icmp_ge rfl (fun c21 => absurd ((n_le (show Int32.ofNat 4 = nI 4 from rfl) hh2 (by omega) (by omega)).mp c21) (by omega)) (fun c21 => ?_)
    refine X_ld rfl rfl rfl rfl ?_
    refine X_ld rfl rfl rfl rfl ?_
    refine X_get f_X0_22 rfl (c_B hq.1 hq.2) rfl ?_
    refine X_ildn (n := 4) h hh2 (by omega) (by omega) rfl (c_B hvn hv) ?_
    refine X_goto rfl ?_
    exact X_iret rfl rfl ⟨rfl, by unfold s_vw; rw [if_pos c5, n_of hh2 (by omega)]⟩ (Nat.le_of_ble_eq_true rfl) (Nat.le_of_ble_eq_true rfl)
theorem q_holds {G : XE} (hG : x_Kn G) {B : XH} {J bf K tk ts : Nat → Int32} {tl : Int64} {tv : Nat → Int64} {su : Nat → Nat} {D : Nat → Nat → Int32} (d : Nat) {e : Nat → Int32} {k o : Nat} (hq : q_at B e k o) (h2 : s_cod e k 2 = 60 ∨ s_cod e k 2 = 61 ∨ s_cod e k 2 = 62) {x y : Int32} : x_M G mX0_holds d 0 0 [.ref o, .int x, .int y] (cset B J bf K tk ts tl tv su D) (x_Ret (cset B J bf K tk ts tl tv su D) (.int (b2 (s_cmp (s_cod e k 2) x y)))) x_noX := by
  refine X_M hG okX0_holds rfl (L := [some (.ref o), some (.int x), some (.int y)]) rfl (Nat.le_of_ble_eq_true rfl) (fun ad0 nb0 => ?_)
  refine X_ld rfl rfl rfl rfl ?_
  refine X_get f_X0_15 rfl (c_B hq.1 hq.2) rfl ?_
  rcases h2 with h6 | h6 | h6
  · refine X_stk (st' := [.int 60]) (congrArg (fun q => [Value.int q]) h6) ?_
    refine X_lookup (off := 28) 32 rfl (by decide) (by decide +kernel) (by decide) ?_
    refine X_ld rfl rfl rfl rfl ?_
    refine X_ld rfl rfl rfl rfl ?_
    refine X_icmp_ge rfl (fun c34 => ?_) (fun c34 => ?_)
    · refine X_push (v := .int 0) rfl (by decide +kernel) ?_
      exact X_zret rfl rfl rfl ⟨rfl, by rw [show s_cmp (s_cod e k 2) x y = _ from (if_pos h6).trans (decide_eq_false (Int32.not_lt.mpr c34))]; rfl⟩ (Nat.le_of_ble_eq_true rfl) (Nat.le_of_ble_eq_true rfl)
    · refine X_push (v := .int 1) rfl (by decide +kernel) ?_
      refine X_goto rfl ?_
      exact X_zret rfl rfl rfl ⟨rfl, by rw [show s_cmp (s_cod e k 2) x y = _ from (if_pos h6).trans (decide_eq_true (Int32.not_le.mp c34))]; rfl⟩ (Nat.le_of_ble_eq_true rfl) (Nat.le_of_ble_eq_true rfl)
  · refine X_stk (st' := [.int 61]) (congrArg (fun q => [Value.int q]) h6) ?_
    refine X_lookup (off := 50) 54 rfl (by decide) (by decide +kernel) (by decide) ?_
    refine X_ld rfl rfl rfl rfl ?_
    refine X_ld rfl rfl rfl rfl ?_
    refine X_icmp_ne rfl (fun c56 => ?_) (fun c56 => ?_)
    · refine X_push (v := .int 0) rfl (by decide +kernel) ?_
      exact X_zret rfl rfl rfl ⟨rfl, by rw [show s_cmp (s_cod e k 2) x y = _ from ((if_neg (by rw [h6]; decide)).trans (if_pos h6)).trans (decide_eq_false c56)]; rfl⟩ (Nat.le_of_ble_eq_true rfl) (Nat.le_of_ble_eq_true rfl)
    · refine X_push (v := .int 1) rfl (by decide +kernel) ?_
      refine X_goto rfl ?_
      exact X_zret rfl rfl rfl ⟨rfl, by rw [show s_cmp (s_cod e k 2) x y = _ from ((if_neg (by rw [h6]; decide)).trans (if_pos h6)).trans (decide_eq_true c56)]; rfl⟩ (Nat.le_of_ble_eq_true rfl) (Nat.le_of_ble_eq_true rfl)
  · refine X_stk (st' := [.int 62]) (congrArg (fun q => [Value.int q]) h6) ?_
    refine X_lookup (off := 39) 43 rfl (by decide) (by decide +kernel) (by decide) ?_
    refine X_ld rfl rfl rfl rfl ?_
    refine X_ld rfl rfl rfl rfl ?_
    refine X_icmp_le rfl (fun c45 => ?_) (fun c45 => ?_)
    · refine X_push (v := .int 0) rfl (by decide +kernel) ?_
      exact X_zret rfl rfl rfl ⟨rfl, by rw [show s_cmp (s_cod e k 2) x y = _ from ((if_neg (by rw [h6]; decide)).trans (if_neg (by rw [h6]; decide))).trans (decide_eq_false (Int32.not_lt.mpr c45))]; rfl⟩ (Nat.le_of_ble_eq_true rfl) (Nat.le_of_ble_eq_true rfl)
    · refine X_push (v := .int 1) rfl (by decide +kernel) ?_
      refine X_goto rfl ?_
      exact X_zret rfl rfl rfl ⟨rfl, by rw [show s_cmp (s_cod e k 2) x y = _ from ((if_neg (by rw [h6]; decide)).trans (if_neg (by rw [h6]; decide))).trans (decide_eq_true (Int32.not_le.mp c45))]; rfl⟩ (Nat.le_of_ble_eq_true rfl) (Nat.le_of_ble_eq_true rfl)
/-- the rows below n that comparison k holds for -/
def s_mt (e gv : Nat → Int32) (k : Nat) : Nat → Int64
  | 0 => 0
  | n + 1 => s_mt e gv k n ||| (bif s_tru e gv k n then s_bit n else 0)
theorem s_rhs_vw {e g : Nat → Int32} {k l : Nat} (hc : s_cmpok e k) (h : ¬ s_cod e k 3 = 1) : s_rhs e g k l = s_vw e g k := by
  unfold s_rhs s_vw
  by_cases h0 : s_cod e k 3 = 0
  · rw [if_pos h0, if_neg (by rw [h0]; decide)]
  · rw [if_neg h0, if_neg h]
    by_cases h2 : s_cod e k 3 = 2
    · rw [if_pos h2]
    · rw [if_neg h2]
      rcases hc.2.2 with q | q | q
      · exact absurd q.1 h0
      · exact absurd q.1 h
      · exact absurd q.1 h2
theorem q_matches {G : XE} (hG : x_Kn G) {B : XH} {J bf K tk ts : Nat → Int32} {tl : Int64} {tv : Nat → Int64} {su : Nat → Nat} {D : Nat → Nat → Int32} (d : Nat) (i : Nat) (hi : i < 10) {c : Nat → Int32} {e g : Nat → Int32} {k o vn : Nat} (hq : q_at B e k o) (hvv : v_at B g vn) (hc : s_cmpok e k) (hcm5 : s_cm e ≤ 5) (hrel : s_rel e c) (q : Nat) (hq1 : c 1 = nI q) (hq40 : q ≤ 40) : x_M G mX0_matches (d + 2) 0 0 [.ref o, .ref (75 + 20 * i), .ref vn] (cset B J bf K tk ts tl tv su (updR D i c)) (x_Ret (cset B J bf K tk ts tl tv su (updR D i c)) (.long (s_mt e g k q))) x_noX := by
  refine X_M hG okX0_matches rfl (L := [some (.ref o), some (.ref (75 + 20 * i)), some (.ref vn), none, none, none, none, none]) rfl (Nat.le_of_ble_eq_true rfl) (fun ad0 nb0 => ?_)
  obtain ⟨hvn, mu, hv⟩ := hvv
  obtain ⟨j, hj, hj1⟩ := hc.1
  have hlm : s_lm e = q := n_of (hrel.1.1.trans hq1) (by omega)
  have h3 : s_cod e k 3 = 2 → ∃ h, h < 4 ∧ s_cod e k 4 = nI h := fun h => by rcases hc.2.2 with z | z | z; rw [z.1] at h; exact absurd h (by decide); rw [z.1] at h; exact absurd h (by decide); exact z.2
  have loop : x_W G mX0_matches (x_Z G (d + 2) 0 0 ad0 nb0 (x_Ret (cset B J bf K tk ts tl tv su (updR D i c)) (.long (s_mt e g k q))) x_noX) (cset B J bf K tk ts tl tv su (updR D i c)) 0 0 78 [some (.ref o), some (.ref (75 + 20 * i)), some (.ref vn), some (.long (s_mt e g k q)), none, some (.int (nI q)), none, none] [] → ∀ (f9 l : Nat), l + f9 = q → x_W G mX0_matches (x_Z G (d + 2) 0 0 ad0 nb0 (x_Ret (cset B J bf K tk ts tl tv su (updR D i c)) (.long (s_mt e g k q))) x_noX) (cset B J bf K tk ts tl tv su (updR D i c)) 0 0 5 [some (.ref o), some (.ref (75 + 20 * i)), some (.ref vn), some (.long (s_mt e g k l)), none, some (.int (nI l)), none, none] [] := by
    intro Kz f9
    induction f9 with
    | zero =>
      intro l e0 
      obtain e9 : l = q := by omega
      subst l
      refine X_ld rfl rfl rfl rfl ?_
      refine X_ld rfl rfl rfl rfl ?_
      refine X_get f_X0_25 rfl (r_D hi updR_eq) rfl ?_
      refine X_icmp_ge rfl (fun c11 => ?_) (fun c11 => absurd ((n_le hq1 rfl (by omega) (by omega)).mpr (by omega)) c11)
      exact Kz
    | succ f9 ih =>
      intro l e0 
      refine X_ld rfl rfl rfl rfl ?_
      refine X_ld rfl rfl rfl rfl ?_
      refine X_get f_X0_25 rfl (r_D hi updR_eq) rfl ?_
      refine X_icmp_ge rfl (fun c11 => absurd ((n_le hq1 rfl (by omega) (by omega)).mp c11) (by omega)) (fun c11 => ?_)
      refine X_ld rfl rfl rfl rfl ?_
      refine X_ld rfl rfl rfl rfl ?_
      refine X_ld rfl rfl rfl rfl ?_
      refine X_get f_X0_9 rfl (c_B hq.1 hq.2) rfl ?_
      refine X_vcall (r_D hi updR_eq) l_X0_X3_cell (d_cell hG d i hi rfl hj1 (by omega) (by omega)) rfl rfl rfl rfl (Nat.le_of_ble_eq_true rfl) (Nat.le_of_ble_eq_true rfl) (by omega) (Nat.le_of_ble_eq_true rfl) (Nat.le_of_ble_eq_true rfl) ?_
      refine X_st rfl rfl rfl ?_
      refine X_ld rfl rfl rfl rfl ?_
      refine X_get f_X0_19 rfl (c_B hq.1 hq.2) rfl ?_
      refine X_push (v := .int 1) rfl (by decide +kernel) ?_
      refine X_icmp_ne rfl (fun c31 => ?_) (fun c31 => ?_)
      · refine X_ld rfl rfl rfl rfl ?_
        refine X_ld rfl rfl rfl rfl ?_
        refine X_vcall (c_B hq.1 hq.2) l_X0_X0_valueWith (q_valueWith hG (d + 1) hq ⟨hvn, mu, hv⟩ h3) rfl rfl rfl rfl (Nat.le_of_ble_eq_true rfl) (Nat.le_of_ble_eq_true rfl) (by omega) (Nat.le_of_ble_eq_true rfl) (Nat.le_of_ble_eq_true rfl) ?_
        refine X_st rfl rfl rfl ?_
        refine X_ld rfl rfl rfl rfl ?_
        refine X_ld rfl rfl rfl rfl ?_
        refine X_ld rfl rfl rfl rfl ?_
        refine X_vcall (c_B hq.1 hq.2) l_X0_X0_holds (q_holds hG (d + 1) hq hc.2.1) rfl rfl rfl rfl (Nat.le_of_ble_eq_true rfl) (Nat.le_of_ble_eq_true rfl) (by omega) (Nat.le_of_ble_eq_true rfl) (Nat.le_of_ble_eq_true rfl) ?_
        refine X_if_eq rfl (fun c62 => ?_) (fun c62 => ?_)
        · have h62 : (s_cmp (s_cod e k 2) (s_val c l j) (s_vw e g k)) = false := b2_0 c62
          refine X_iinc rfl rfl rfl ?_
          refine X_goto rfl ?_
          have er : s_rhs e g k l = s_vw e g k := by unfold s_rhs; exact s_rhs_vw hc c31
          have et : s_tru e g k l = false := by unfold s_tru; rw [show (s_cod e k 1).toNatClampNeg = j from n_of hj1 (by omega), hrel.2.2.1 l (by omega) j hj, er]; exact h62
          refine X_loc (L' := [some (.ref o), some (.ref (75 + 20 * i)), some (.ref vn), some (.long (s_mt e g k (l + 1))), none, some (.int (nI (l + 1))), none, none]) ⟨rfl, rfl, rfl, congrArg Value.long (show s_mt e g k l ||| (bif s_tru e g k l then s_bit l else 0) = _ by rw [et]; exact Int64.or_zero), (congrArg Value.int (m_inc rfl)).symm, trivial⟩ ?_
          exact ih (l + 1) (by omega)
        · have h62 : (s_cmp (s_cod e k 2) (s_val c l j) (s_vw e g k)) = true := b2_1 c62
          refine X_ld rfl rfl rfl rfl ?_
          refine X_push (v := .long 1) rfl (by decide +kernel) ?_
          refine X_ld rfl rfl rfl rfl ?_
          refine X_bin rfl rfl ?_
          refine X_bin rfl rfl ?_
          refine X_stl rfl rfl rfl ?_
          refine X_iinc rfl rfl rfl ?_
          refine X_goto rfl ?_
          have er : s_rhs e g k l = s_vw e g k := by unfold s_rhs; exact s_rhs_vw hc c31
          have et : s_tru e g k l = true := by unfold s_tru; rw [show (s_cod e k 1).toNatClampNeg = j from n_of hj1 (by omega), hrel.2.2.1 l (by omega) j hj, er]; exact h62
          refine X_loc (L' := [some (.ref o), some (.ref (75 + 20 * i)), some (.ref vn), some (.long (s_mt e g k (l + 1))), none, some (.int (nI (l + 1))), none, none]) ⟨rfl, rfl, rfl, congrArg Value.long (show s_mt e g k l ||| (bif s_tru e g k l then s_bit l else 0) = _ by rw [et]; rfl), (congrArg Value.int (m_inc rfl)).symm, trivial⟩ ?_
          exact ih (l + 1) (by omega)
      · obtain ⟨j3, hj3l, hj3⟩ : ∃ j3, j3 < s_cm e ∧ s_cod e k 4 = nI j3 := by
          rcases hc.2.2 with h | h | h
          · rw [h.1] at c31; exact absurd c31 (by decide)
          · exact h.2
          · rw [h.1] at c31; exact absurd c31 (by decide)
        refine X_ld rfl rfl rfl rfl ?_
        refine X_ld rfl rfl rfl rfl ?_
        refine X_ld rfl rfl rfl rfl ?_
        refine X_get f_X0_22 rfl (c_B hq.1 hq.2) rfl ?_
        refine X_vcall (r_D hi updR_eq) l_X0_X3_cell (d_cell hG d i hi rfl hj3 (by omega) (by omega)) rfl rfl rfl rfl (Nat.le_of_ble_eq_true rfl) (Nat.le_of_ble_eq_true rfl) (by omega) (Nat.le_of_ble_eq_true rfl) (Nat.le_of_ble_eq_true rfl) ?_
        refine X_goto rfl ?_
        refine X_st rfl rfl rfl ?_
        refine X_ld rfl rfl rfl rfl ?_
        refine X_ld rfl rfl rfl rfl ?_
        refine X_ld rfl rfl rfl rfl ?_
        refine X_vcall (c_B hq.1 hq.2) l_X0_X0_holds (q_holds hG (d + 1) hq hc.2.1) rfl rfl rfl rfl (Nat.le_of_ble_eq_true rfl) (Nat.le_of_ble_eq_true rfl) (by omega) (Nat.le_of_ble_eq_true rfl) (Nat.le_of_ble_eq_true rfl) ?_
        refine X_if_eq rfl (fun c62 => ?_) (fun c62 => ?_)
        · have h62 : (s_cmp (s_cod e k 2) (s_val c l j) (s_val c l j3)) = false := b2_0 c62
          refine X_iinc rfl rfl rfl ?_
          refine X_goto rfl ?_
          have er : s_rhs e g k l = s_val c l j3 := by unfold s_rhs; rw [if_neg (by rw [c31]; decide), if_pos c31, show (s_cod e k 4).toNatClampNeg = j3 from n_of hj3 (by omega)]; exact hrel.2.2.1 l (by omega) j3 hj3l
          have et : s_tru e g k l = false := by unfold s_tru; rw [show (s_cod e k 1).toNatClampNeg = j from n_of hj1 (by omega), hrel.2.2.1 l (by omega) j hj, er]; exact h62
          refine X_loc (L' := [some (.ref o), some (.ref (75 + 20 * i)), some (.ref vn), some (.long (s_mt e g k (l + 1))), none, some (.int (nI (l + 1))), none, none]) ⟨rfl, rfl, rfl, congrArg Value.long (show s_mt e g k l ||| (bif s_tru e g k l then s_bit l else 0) = _ by rw [et]; exact Int64.or_zero), (congrArg Value.int (m_inc rfl)).symm, trivial⟩ ?_
          exact ih (l + 1) (by omega)
        · have h62 : (s_cmp (s_cod e k 2) (s_val c l j) (s_val c l j3)) = true := b2_1 c62
          refine X_ld rfl rfl rfl rfl ?_
          refine X_push (v := .long 1) rfl (by decide +kernel) ?_
          refine X_ld rfl rfl rfl rfl ?_
          refine X_bin rfl rfl ?_
          refine X_bin rfl rfl ?_
          refine X_stl rfl rfl rfl ?_
          refine X_iinc rfl rfl rfl ?_
          refine X_goto rfl ?_
          have er : s_rhs e g k l = s_val c l j3 := by unfold s_rhs; rw [if_neg (by rw [c31]; decide), if_pos c31, show (s_cod e k 4).toNatClampNeg = j3 from n_of hj3 (by omega)]; exact hrel.2.2.1 l (by omega) j3 hj3l
          have et : s_tru e g k l = true := by unfold s_tru; rw [show (s_cod e k 1).toNatClampNeg = j from n_of hj1 (by omega), hrel.2.2.1 l (by omega) j hj, er]; exact h62
          refine X_loc (L' := [some (.ref o), some (.ref (75 + 20 * i)), some (.ref vn), some (.long (s_mt e g k (l + 1))), none, some (.int (nI (l + 1))), none, none]) ⟨rfl, rfl, rfl, congrArg Value.long (show s_mt e g k l ||| (bif s_tru e g k l then s_bit l else 0) = _ by rw [et]; rfl), (congrArg Value.int (m_inc rfl)).symm, trivial⟩ ?_
          exact ih (l + 1) (by omega)
  refine X_push (v := .long 0) rfl (by decide +kernel) ?_
  refine X_stl rfl rfl rfl ?_
  refine X_push (v := .int 0) rfl (by decide +kernel) ?_
  refine X_st rfl rfl rfl ?_
  refine X_loc (L' := [some (.ref o), some (.ref (75 + 20 * i)), some (.ref vn), some (.long (s_mt e g k 0)), none, some (.int (nI 0)), none, none]) ⟨rfl, rfl, rfl, rfl, rfl, trivial⟩ ?_
  refine loop ?_ _ 0 (Nat.zero_add _)
  refine X_ld rfl rfl rfl rfl ?_
  exact X_lret rfl rfl ⟨rfl, rfl⟩ (Nat.le_of_ble_eq_true rfl) (Nat.le_of_ble_eq_true rfl)
def s_ee (c : Nat → Int32) (j : Nat) (v : Int32) : Int32 :=
  if ¬ v = -1 ∧ (v < s_col c j 11 ∨ s_col c j 12 < v) then 0 else if s_col c j 10 ≤ 0 then 0 else s_up (c 8) (s_col c j 10)
def s_cest (e c g : Nat → Int32) (k j : Nat) : Int32 :=
  if c 8 ≤ 0 then 0 else if s_cod e k 2 = 61 then s_ee c j (s_vw e g k) else if s_vw e g k = -1 then (c 8 + 2) / 3 else
  if s_col c j 12 - s_col c j 11 + 1 ≤ 0 then 0 else x_max 0 (x_min (c 8 * (if s_cod e k 2 = 60 then s_vw e g k - s_col c j 11 else s_col c j 12 - s_vw e g k) / (s_col c j 12 - s_col c j 11 + 1)) (c 8))
theorem t_estimateEqual {G : XE} (hG : x_Kn G) {B : XH} {J bf K tk ts : Nat → Int32} {tl : Int64} {tv : Nat → Int64} {su : Nat → Nat} {D : Nat → Nat → Int32} (d : Nat) (i : Nat) (hi : i < 10) {c : Nat → Int32} {x v : Int32} {j : Nat} (hx : x = nI j) (hj : j < 5) : x_M G mX7_estimateEqual d 0 0 [.ref (75 + 20 * i + 3), .int x, .int v] (cset B J bf K tk ts tl tv su (updR D i c)) (x_Ret (cset B J bf K tk ts tl tv su (updR D i c)) (.int (s_ee c j v))) x_noX := by
  refine X_M hG okX7_estimateEqual rfl (L := [some (.ref (75 + 20 * i + 3)), some (.int x), some (.int v), none]) rfl (Nat.le_of_ble_eq_true rfl) (fun ad0 nb0 => ?_)
  refine X_ld rfl rfl rfl rfl ?_
  refine X_push (v := .int (-1)) rfl (by decide +kernel) ?_
  refine X_icmp_eq rfl (fun c2 => ?_) (fun c2 => ?_)
  · refine X_push (v := .int 0) rfl (by decide +kernel) ?_
    refine X_st rfl rfl rfl ?_
    refine X_ld rfl rfl rfl rfl ?_
    refine X_if_ne rfl (fun c32 => absurd (by decide) c32) (fun c32 => ?_)
    refine X_ld rfl rfl rfl rfl ?_
    refine X_get f_X7_9 rfl (r_S hi updR_eq) rfl ?_
    refine X_ld rfl rfl rfl rfl ?_
    refine X_4ald hi updR_eq hx (by omega) (k := j) rfl ?_
    refine X_if_gt rfl (fun c41 => ?_) (fun c41 => ?_)
    · refine X_ld rfl rfl rfl rfl ?_
      refine X_get f_X7_21 rfl (r_S hi updR_eq) rfl ?_
      refine X_ld rfl rfl rfl rfl ?_
      refine X_get f_X7_9 rfl (r_S hi updR_eq) rfl ?_
      refine X_ld rfl rfl rfl rfl ?_
      refine X_4ald hi updR_eq hx (by omega) (k := j) rfl ?_
      refine X_bin rfl rfl ?_
      refine X_push (v := .int 1) rfl (by decide +kernel) ?_
      refine X_bin rfl rfl ?_
      refine X_ld rfl rfl rfl rfl ?_
      refine X_get f_X7_9 rfl (r_S hi updR_eq) rfl ?_
      refine X_ld rfl rfl rfl rfl ?_
      refine X_4ald hi updR_eq hx (by omega) (k := j) rfl ?_
      refine X_idiv rfl (fun h => by rw [h] at c41; exact absurd c41 (by decide)) ?_
      exact X_iret rfl rfl ⟨rfl, by unfold s_ee; rw [if_neg (fun q => q.1 c2), if_neg (Int32.not_le.mpr c41)]; rfl⟩ (Nat.le_of_ble_eq_true rfl) (Nat.le_of_ble_eq_true rfl)
    · refine X_push (v := .int 0) rfl (by decide +kernel) ?_
      exact X_iret rfl rfl ⟨rfl, by unfold s_ee; rw [if_neg (fun q => q.1 c2), if_pos (Int32.not_lt.mp c41)]⟩ (Nat.le_of_ble_eq_true rfl) (Nat.le_of_ble_eq_true rfl)
  · refine X_ld rfl rfl rfl rfl ?_
    refine X_ld rfl rfl rfl rfl ?_
    refine X_get f_X7_15 rfl (r_S hi updR_eq) rfl ?_
    refine X_ld rfl rfl rfl rfl ?_
    refine X_5ald hi updR_eq hx (by omega) (k := j) rfl ?_
    refine X_icmp_lt rfl (fun c12 => ?_) (fun c12 => ?_)
    · refine X_push (v := .int 1) rfl (by decide +kernel) ?_
      refine X_goto rfl ?_
      refine X_st rfl rfl rfl ?_
      refine X_ld rfl rfl rfl rfl ?_
      refine X_if_ne rfl (fun c32 => ?_) (fun c32 => absurd c32 (by decide))
      refine X_push (v := .int 0) rfl (by decide +kernel) ?_
      exact X_iret rfl rfl ⟨rfl, by unfold s_ee; rw [if_pos ⟨c2, Or.inl c12⟩]⟩ (Nat.le_of_ble_eq_true rfl) (Nat.le_of_ble_eq_true rfl)
    · refine X_ld rfl rfl rfl rfl ?_
      refine X_ld rfl rfl rfl rfl ?_
      refine X_get f_X7_18 rfl (r_S hi updR_eq) rfl ?_
      refine X_ld rfl rfl rfl rfl ?_
      refine X_6ald hi updR_eq hx (by omega) (k := j) rfl ?_
      refine X_icmp_le rfl (fun c22 => ?_) (fun c22 => ?_)
      · refine X_push (v := .int 0) rfl (by decide +kernel) ?_
        refine X_st rfl rfl rfl ?_
        refine X_ld rfl rfl rfl rfl ?_
        refine X_if_ne rfl (fun c32 => absurd (by decide) c32) (fun c32 => ?_)
        refine X_ld rfl rfl rfl rfl ?_
        refine X_get f_X7_9 rfl (r_S hi updR_eq) rfl ?_
        refine X_ld rfl rfl rfl rfl ?_
        refine X_4ald hi updR_eq hx (by omega) (k := j) rfl ?_
        refine X_if_gt rfl (fun c41 => ?_) (fun c41 => ?_)
        · refine X_ld rfl rfl rfl rfl ?_
          refine X_get f_X7_21 rfl (r_S hi updR_eq) rfl ?_
          refine X_ld rfl rfl rfl rfl ?_
          refine X_get f_X7_9 rfl (r_S hi updR_eq) rfl ?_
          refine X_ld rfl rfl rfl rfl ?_
          refine X_4ald hi updR_eq hx (by omega) (k := j) rfl ?_
          refine X_bin rfl rfl ?_
          refine X_push (v := .int 1) rfl (by decide +kernel) ?_
          refine X_bin rfl rfl ?_
          refine X_ld rfl rfl rfl rfl ?_
          refine X_get f_X7_9 rfl (r_S hi updR_eq) rfl ?_
          refine X_ld rfl rfl rfl rfl ?_
          refine X_4ald hi updR_eq hx (by omega) (k := j) rfl ?_
          refine X_idiv rfl (fun h => by rw [h] at c41; exact absurd c41 (by decide)) ?_
          exact X_iret rfl rfl ⟨rfl, by unfold s_ee; rw [if_neg (fun q => by rcases q.2 with h | h; exact c12 h; exact absurd h (Int32.not_lt.mpr c22)), if_neg (Int32.not_le.mpr c41)]; rfl⟩ (Nat.le_of_ble_eq_true rfl) (Nat.le_of_ble_eq_true rfl)
        · refine X_push (v := .int 0) rfl (by decide +kernel) ?_
          exact X_iret rfl rfl ⟨rfl, by unfold s_ee; rw [if_neg (fun q => by rcases q.2 with h | h; exact c12 h; exact absurd h (Int32.not_lt.mpr c22)), if_pos (Int32.not_lt.mp c41)]⟩ (Nat.le_of_ble_eq_true rfl) (Nat.le_of_ble_eq_true rfl)
      · refine X_push (v := .int 1) rfl (by decide +kernel) ?_
        refine X_goto rfl ?_
        refine X_st rfl rfl rfl ?_
        refine X_ld rfl rfl rfl rfl ?_
        refine X_if_ne rfl (fun c32 => ?_) (fun c32 => absurd c32 (by decide))
        refine X_push (v := .int 0) rfl (by decide +kernel) ?_
        exact X_iret rfl rfl ⟨rfl, by unfold s_ee; rw [if_pos ⟨c2, Or.inr (Int32.not_le.mp c22)⟩]⟩ (Nat.le_of_ble_eq_true rfl) (Nat.le_of_ble_eq_true rfl)
theorem t_estimate {G : XE} (hG : x_Kn G) {B : XH} {J bf K tk ts : Nat → Int32} {tl : Int64} {tv : Nat → Int64} {su : Nat → Nat} {D : Nat → Nat → Int32} (d : Nat) (i : Nat) (hi : i < 10) {c : Nat → Int32} {e g : Nat → Int32} {k o vn : Nat} (hq : q_at B e k o) (hvv : v_at B g vn) (hc : s_cmpok e k) (j : Nat) (hj : j < 5) (hj1 : s_cod e k 1 = nI j) : x_M G mX7_estimate (d + 1) 0 0 [.ref (75 + 20 * i + 3), .ref o, .ref vn] (cset B J bf K tk ts tl tv su (updR D i c)) (x_Ret (cset B J bf K tk ts tl tv su (updR D i c)) (.int (s_cest e c g k j))) x_noX := by
  refine X_M hG okX7_estimate rfl (L := [some (.ref (75 + 20 * i + 3)), some (.ref o), some (.ref vn), none, none, none, none]) rfl (Nat.le_of_ble_eq_true rfl) (fun ad0 nb0 => ?_)
  obtain ⟨hvn, mu, hv⟩ := hvv
  have h3 : s_cod e k 3 = 2 → ∃ h, h < 4 ∧ s_cod e k 4 = nI h := fun h => by rcases hc.2.2 with z | z | z; rw [z.1] at h; exact absurd h (by decide); rw [z.1] at h; exact absurd h (by decide); exact z.2
  refine X_ld rfl rfl rfl rfl ?_
  refine X_get f_X7_31 rfl (c_B hq.1 hq.2) rfl ?_
  refine X_st rfl rfl rfl ?_
  refine X_ld rfl rfl rfl rfl ?_
  refine X_get f_X7_21 rfl (r_S hi updR_eq) rfl ?_
  refine X_if_le rfl (fun c9 => ?_) (fun c9 => ?_)
  · refine X_push (v := .int 0) rfl (by decide +kernel) ?_
    exact X_iret rfl rfl ⟨rfl, by unfold s_cest; rw [if_pos c9]⟩ (Nat.le_of_ble_eq_true rfl) (Nat.le_of_ble_eq_true rfl)
  · refine X_ld rfl rfl rfl rfl ?_
    refine X_if_lt rfl (fun c13 => absurd ((n_lt (b := 0) hj1 (show (0 : Int32) = nI 0 from rfl) (by omega) (by omega)).mp c13) (by omega)) (fun c13 => ?_)
    refine X_ld rfl rfl rfl rfl ?_
    refine X_push (v := .int 5) rfl (by decide +kernel) ?_
    refine X_icmp_lt rfl (fun c18 => ?_) (fun c18 => absurd ((n_lt (b := 5) hj1 (show (5 : Int32) = nI 5 from rfl) (by omega) (by omega)).mpr (by omega)) c18)
    refine X_ld rfl rfl rfl rfl ?_
    refine X_ld rfl rfl rfl rfl ?_
    refine X_vcall (c_B hq.1 hq.2) l_X7_X0_valueWith (q_valueWith hG d hq ⟨hvn, mu, hv⟩ h3) rfl rfl rfl rfl (Nat.le_of_ble_eq_true rfl) (Nat.le_of_ble_eq_true rfl) (by omega) (Nat.le_of_ble_eq_true rfl) (Nat.le_of_ble_eq_true rfl) ?_
    refine X_st rfl rfl rfl ?_
    refine X_ld rfl rfl rfl rfl ?_
    refine X_get f_X7_40 rfl (c_B hq.1 hq.2) rfl ?_
    refine X_push (v := .int 61) rfl (by decide +kernel) ?_
    refine X_icmp_ne rfl (fun c36 => ?_) (fun c36 => ?_)
    · refine X_ld rfl rfl rfl rfl ?_
      refine X_push (v := .int (-1)) rfl (by decide +kernel) ?_
      refine X_icmp_ne rfl (fun c50 => ?_) (fun c50 => ?_)
      · refine X_ld rfl rfl rfl rfl ?_
        refine X_get f_X7_18 rfl (r_S hi updR_eq) rfl ?_
        refine X_ld rfl rfl rfl rfl ?_
        refine X_6ald hi updR_eq hj1 (by omega) (k := j) rfl ?_
        refine X_ld rfl rfl rfl rfl ?_
        refine X_get f_X7_15 rfl (r_S hi updR_eq) rfl ?_
        refine X_ld rfl rfl rfl rfl ?_
        refine X_5ald hi updR_eq hj1 (by omega) (k := j) rfl ?_
        refine X_bin rfl rfl ?_
        refine X_push (v := .int 1) rfl (by decide +kernel) ?_
        refine X_bin rfl rfl ?_
        refine X_st rfl rfl rfl ?_
        refine X_ld rfl rfl rfl rfl ?_
        refine X_if_gt rfl (fun c81 => ?_) (fun c81 => ?_)
        · refine X_ld rfl rfl rfl rfl ?_
          refine X_get f_X7_40 rfl (c_B hq.1 hq.2) rfl ?_
          refine X_push (v := .int 60) rfl (by decide +kernel) ?_
          refine X_icmp_ne rfl (fun c92 => ?_) (fun c92 => ?_)
          · refine X_ld rfl rfl rfl rfl ?_
            refine X_get f_X7_18 rfl (r_S hi updR_eq) rfl ?_
            refine X_ld rfl rfl rfl rfl ?_
            refine X_6ald hi updR_eq hj1 (by omega) (k := j) rfl ?_
            refine X_ld rfl rfl rfl rfl ?_
            refine X_bin rfl rfl ?_
            refine X_st rfl rfl rfl ?_
            refine X_push (v := .int 0) rfl (by decide +kernel) ?_
            refine X_ld rfl rfl rfl rfl ?_
            refine X_get f_X7_21 rfl (r_S hi updR_eq) rfl ?_
            refine X_ld rfl rfl rfl rfl ?_
            refine X_bin rfl rfl ?_
            refine X_ld rfl rfl rfl rfl ?_
            refine X_idiv rfl (fun h => by rw [h] at c81; exact absurd c81 (by decide)) ?_
            refine X_ld rfl rfl rfl rfl ?_
            refine X_get f_X7_21 rfl (r_S hi updR_eq) rfl ?_
            refine X_min lmin_X7 rfl (by omega) (Nat.le_of_ble_eq_true rfl) (Nat.le_of_ble_eq_true rfl) (Nat.le_of_ble_eq_true rfl) ?_
            refine X_max lmax_X7 rfl (by omega) (Nat.le_of_ble_eq_true rfl) (Nat.le_of_ble_eq_true rfl) (Nat.le_of_ble_eq_true rfl) ?_
            exact X_iret rfl rfl ⟨rfl, by unfold s_cest; rw [if_neg c9, if_neg c36, if_neg c50, if_neg (Int32.not_le.mpr c81), if_neg c92]⟩ (Nat.le_of_ble_eq_true rfl) (Nat.le_of_ble_eq_true rfl)
          · refine X_ld rfl rfl rfl rfl ?_
            refine X_ld rfl rfl rfl rfl ?_
            refine X_get f_X7_15 rfl (r_S hi updR_eq) rfl ?_
            refine X_ld rfl rfl rfl rfl ?_
            refine X_5ald hi updR_eq hj1 (by omega) (k := j) rfl ?_
            refine X_bin rfl rfl ?_
            refine X_goto rfl ?_
            refine X_st rfl rfl rfl ?_
            refine X_push (v := .int 0) rfl (by decide +kernel) ?_
            refine X_ld rfl rfl rfl rfl ?_
            refine X_get f_X7_21 rfl (r_S hi updR_eq) rfl ?_
            refine X_ld rfl rfl rfl rfl ?_
            refine X_bin rfl rfl ?_
            refine X_ld rfl rfl rfl rfl ?_
            refine X_idiv rfl (fun h => by rw [h] at c81; exact absurd c81 (by decide)) ?_
            refine X_ld rfl rfl rfl rfl ?_
            refine X_get f_X7_21 rfl (r_S hi updR_eq) rfl ?_
            refine X_min lmin_X7 rfl (by omega) (Nat.le_of_ble_eq_true rfl) (Nat.le_of_ble_eq_true rfl) (Nat.le_of_ble_eq_true rfl) ?_
            refine X_max lmax_X7 rfl (by omega) (Nat.le_of_ble_eq_true rfl) (Nat.le_of_ble_eq_true rfl) (Nat.le_of_ble_eq_true rfl) ?_
            exact X_iret rfl rfl ⟨rfl, by unfold s_cest; rw [if_neg c9, if_neg c36, if_neg c50, if_neg (Int32.not_le.mpr c81), if_pos c92]⟩ (Nat.le_of_ble_eq_true rfl) (Nat.le_of_ble_eq_true rfl)
        · refine X_push (v := .int 0) rfl (by decide +kernel) ?_
          exact X_iret rfl rfl ⟨rfl, by unfold s_cest; rw [if_neg c9, if_neg c36, if_neg c50, if_pos (Int32.not_lt.mp c81)]⟩ (Nat.le_of_ble_eq_true rfl) (Nat.le_of_ble_eq_true rfl)
      · refine X_ld rfl rfl rfl rfl ?_
        refine X_get f_X7_21 rfl (r_S hi updR_eq) rfl ?_
        refine X_push (v := .int 2) rfl (by decide +kernel) ?_
        refine X_bin rfl rfl ?_
        refine X_push (v := .int 3) rfl (by decide +kernel) ?_
        refine X_idiv rfl (by decide) ?_
        exact X_iret rfl rfl ⟨rfl, by unfold s_cest; rw [if_neg c9, if_neg c36, if_pos c50]⟩ (Nat.le_of_ble_eq_true rfl) (Nat.le_of_ble_eq_true rfl)
    · refine X_ld rfl rfl rfl rfl ?_
      refine X_ld rfl rfl rfl rfl ?_
      refine X_ld rfl rfl rfl rfl ?_
      refine X_vcall (r_S hi updR_eq) l_X7_X7_estimateEqual (t_estimateEqual hG d i hi hj1 (by omega)) rfl rfl rfl rfl (Nat.le_of_ble_eq_true rfl) (Nat.le_of_ble_eq_true rfl) (by omega) (Nat.le_of_ble_eq_true rfl) (Nat.le_of_ble_eq_true rfl) ?_
      exact X_iret rfl rfl ⟨rfl, by unfold s_cest; rw [if_neg c9, if_pos c36]⟩ (Nat.le_of_ble_eq_true rfl) (Nat.le_of_ble_eq_true rfl)

