/-! ===== the class: conditions ===== -/
/-- the rows below n for which E -/
def s_me (E : Nat → Bool) : Nat → Int64
  | 0 => 0
  | n + 1 => s_me E n ||| (bif E n then s_bit n else 0)
theorem s_mt_me {e g : Nat → Int32} {k : Nat} : ∀ n, s_mt e g k n = s_me (fun l => s_tru e g k l) n
  | 0 => rfl
  | n + 1 => by
    show s_mt e g k n ||| _ = s_me _ n ||| _
    rw [s_mt_me n]
theorem s_bit_tw : ∀ n, n < 41 → (s_bit n).toBitVec = BitVec.twoPow 64 n := by decide +kernel
theorem s_me_bit {E : Nat → Bool} {i : Nat} : ∀ n, n ≤ 41 → (s_me E n).toBitVec.getLsbD i = (decide (i < n) && E i)
  | 0, _ => by
    show (0 : Int64).toBitVec.getLsbD i = _
    simp
  | n + 1, hn => by
    show (s_me E n ||| (bif E n then s_bit n else 0)).toBitVec.getLsbD i = _
    rw [Int64.toBitVec_or, BitVec.getLsbD_or, s_me_bit n (by omega)]
    cases hE : E n with
    | true =>
      show (decide (i < n) && E i || (s_bit n).toBitVec.getLsbD i) = _
      rw [s_bit_tw n (by omega), BitVec.getLsbD_twoPow]
      by_cases h1 : i < n
      · have h2 : ¬ n = i := by omega
        simp [h1, h2, show i < n + 1 by omega]
      · by_cases h2 : n = i
        · subst i
          simp [hE, show n < 64 by omega]
        · simp [h1, h2, show ¬ i < n + 1 by omega]
    | false =>
      show (decide (i < n) && E i || (0 : Int64).toBitVec.getLsbD i) = _
      by_cases h1 : i < n
      · simp [h1, show i < n + 1 by omega]
      · by_cases h2 : i = n
        · subst i
          simp [hE]
        · simp [h1, show ¬ i < n + 1 by omega]
theorem s_me_ext {x y : Int64} (h : ∀ i, i < 64 → x.toBitVec.getLsbD i = y.toBitVec.getLsbD i) : x = y := Int64.toBitVec_inj.mp (BitVec.eq_of_getLsbD_eq h)
theorem s_me_and {E F : Nat → Bool} {n : Nat} (hn : n ≤ 41) : s_me E n &&& s_me F n = s_me (fun l => E l && F l) n := s_me_ext fun i _ => by
  rw [Int64.toBitVec_and, BitVec.getLsbD_and, s_me_bit n hn, s_me_bit n hn, s_me_bit n hn]
  cases decide (i < n) <;> simp
theorem s_me_or {E F : Nat → Bool} {n : Nat} (hn : n ≤ 41) : s_me E n ||| s_me F n = s_me (fun l => E l || F l) n := s_me_ext fun i _ => by
  rw [Int64.toBitVec_or, BitVec.getLsbD_or, s_me_bit n hn, s_me_bit n hn, s_me_bit n hn]
  cases decide (i < n) <;> simp
theorem s_me_not {E : Nat → Bool} {n : Nat} (hn : n ≤ 41) : s_me (fun _ => true) n &&& (s_me E n ^^^ -1) = s_me (fun l => !E l) n := s_me_ext fun i hi => by
  rw [Int64.toBitVec_and, BitVec.getLsbD_and, Int64.toBitVec_xor, BitVec.getLsbD_xor, s_me_bit n hn, s_me_bit n hn, s_me_bit n hn, show (-1 : Int64).toBitVec = BitVec.allOnes 64 from by decide +kernel, BitVec.getLsbD_allOnes]
  cases decide (i < n) <;> simp [hi]
theorem s_all_me : ∀ n, n < 41 → s_all (nI n) = s_me (fun _ => true) n := by decide +kernel
theorem s_me_cong {E F : Nat → Bool} : ∀ n, (∀ l, l < n → E l = F l) → s_me E n = s_me F n
  | 0, _ => rfl
  | n + 1, h => by
    show s_me E n ||| _ = s_me F n ||| _
    rw [s_me_cong n (fun l hl => h l (by omega)), h n (by omega)]
theorem s_me_0 : ∀ n, n < 41 → s_me (fun _ => false) n = 0 := by decide +kernel
theorem s_cpE_0s {F : Nat → (Nat → Bool) → Bool} {T : Nat → Bool} {j : Nat} : s_cpE 0 (j + 1) F T = (s_cpE 0 j F T && F j T) := by
  show (List.range (j + 1)).all _ = ((List.range j).all _ && _)
  rw [List.range_succ, List.all_append]
  simp
theorem s_cpE_1s {F : Nat → (Nat → Bool) → Bool} {T : Nat → Bool} {j : Nat} : s_cpE 1 (j + 1) F T = (s_cpE 1 j F T || F j T) := by
  show (List.range (j + 1)).any _ = ((List.range j).any _ || _)
  rw [List.range_succ, List.any_append]
  simp
theorem s_cpE_2s {F : Nat → (Nat → Bool) → Bool} {T : Nat → Bool} {j : Nat} : s_cpE 2 (j + 1) F T = !F j T := by
  show (decide (0 < j + 1) && !F (j + 1 - 1) T) = _
  simp
/-- what the matches of the parts give -/
def h_mat (G : XE) (B : XH) (J bf K tk ts : Nat → Int32) (tl : Int64) (tv : Nat → Int64) (su : Nat → Nat) (D : Nat → Nat → Int32) (d i : Nat) (c e g : Nat → Int32) (vn q w : Nat) : Prop :=
  ∀ (o : Nat) (kd : Int32) (a n : Nat) (p : Nat → Nat) (F : Nat → (Nat → Bool) → Bool), s_out o → B o = some (.inl (2, cpV kd a)) → (kd = 0 ∨ kd = 1 ∨ kd = 2) → l_at B a n p → (∀ j, j < n → t_at B e w (p j) (F j)) →
  x_M G mX1_matches (d + 3 + w) 0 0 [.ref o, .ref (75 + 20 * i), .ref vn] (cset B J bf K tk ts tl tv su (updR D i c)) (x_Ret (cset B J bf K tk ts tl tv su (updR D i c)) (.long (s_me (fun l => s_cpE kd n F (fun k => s_tru e g k l)) q))) x_noX
theorem h_mat_s {G : XE} (hG : x_Kn G) {B : XH} {J bf K tk ts : Nat → Int32} {tl : Int64} {tv : Nat → Int64} {su : Nat → Nat} {D : Nat → Nat → Int32} (d : Nat) (i : Nat) (hi : i < 10) {c e g : Nat → Int32} {vn : Nat} (hvv : v_at B g vn) (hcm5 : s_cm e ≤ 5) (hrel : s_rel e c) (q : Nat) (hq1 : c 1 = nI q) (hq40 : q ≤ 40) (w : Nat) (o : Nat) (kd : Int32) (a n : Nat) (p : Nat → Nat) (F : Nat → (Nat → Bool) → Bool) (hoo : s_out o) (hB : B o = some (.inl (2, cpV kd a))) (hkd : kd = 0 ∨ kd = 1 ∨ kd = 2) (hl : l_at B a n p)
    (hpart : ∀ j, j < n → (∃ k, q_at B e k (p j) ∧ s_cmpok e k ∧ F j = fun T => T k) ∨ ∃ (w2 : Nat) (kd2 : Int32) (a2 n2 : Nat) (p2 : Nat → Nat) (F2 : Nat → (Nat → Bool) → Bool), w2 < w ∧ h_mat G B J bf K tk ts tl tv su D d i c e g vn q w2 ∧ s_out (p j) ∧ B (p j) = some (.inl (2, cpV kd2 a2)) ∧ (kd2 = 0 ∨ kd2 = 1 ∨ kd2 = 2) ∧ l_at B a2 n2 p2 ∧ (∀ j, j < n2 → t_at B e w2 (p2 j) (F2 j)) ∧ F j = s_cpE kd2 n2 F2) :
    x_M G mX1_matches (d + 3 + w) 0 0 [.ref o, .ref (75 + 20 * i), .ref vn] (cset B J bf K tk ts tl tv su (updR D i c)) (x_Ret (cset B J bf K tk ts tl tv su (updR D i c)) (.long (s_me (fun l => s_cpE kd n F (fun k => s_tru e g k l)) q))) x_noX := by
  obtain ⟨VL, hNl⟩ := l_at_N (J := J) (bf := bf) (K := K) (tk := tk) (ts := ts) (tl := tl) (tv := tv) (su := su) (D := updR D i c) hl
  have hn31 := hl.2.1
  refine X_M hG okX1_matches rfl (L := [some (.ref o), some (.ref (75 + 20 * i)), some (.ref vn), none, none, none, none, none, none, none]) rfl (Nat.le_of_ble_eq_true rfl) (fun ad0 nb0 => ?_)
  rcases hkd with rfl | rfl | rfl
  · have loop : x_W G mX1_matches (x_Z G (d + 3 + w) 0 0 ad0 nb0 (x_Ret (cset B J bf K tk ts tl tv su (updR D i c)) (.long (s_me (fun l => s_cpE 0 n F (fun k => s_tru e g k l)) q))) x_noX) (cset B J bf K tk ts tl tv su (updR D i c)) 0 0 120 [some (.ref o), some (.ref (75 + 20 * i)), some (.ref vn), some (.long (s_me (fun _ => true) q)), none, some (.long (s_me (fun l => s_cpE 0 n F (fun k => s_tru e g k l)) q)), none, some (.int (nI n)), none, none] [] → ∀ (f9 j : Nat), j + f9 = n → x_W G mX1_matches (x_Z G (d + 3 + w) 0 0 ad0 nb0 (x_Ret (cset B J bf K tk ts tl tv su (updR D i c)) (.long (s_me (fun l => s_cpE 0 n F (fun k => s_tru e g k l)) q))) x_noX) (cset B J bf K tk ts tl tv su (updR D i c)) 0 0 22 [some (.ref o), some (.ref (75 + 20 * i)), some (.ref vn), some (.long (s_me (fun _ => true) q)), none, some (.long (s_me (fun l => s_cpE 0 j F (fun k => s_tru e g k l)) q)), none, some (.int (nI j)), none, none] [] := by
      intro Kz f9
      induction f9 with
      | zero =>
        intro j e0 
        obtain e9 : j = n := by omega
        subst j
        refine X_ld rfl rfl rfl rfl ?_
        refine X_ld rfl rfl rfl rfl ?_
        refine X_get f_X1_10 rfl (c_B hoo hB) rfl ?_
        refine X_vcall (o := a) hNl l_X1_Jx4a65c_size_8abf5 (j_size hG (d + 2 + w) (l_at_li hl)) rfl rfl rfl rfl (Nat.le_of_ble_eq_true rfl) (Nat.le_of_ble_eq_true rfl) (by omega) (Nat.le_of_ble_eq_true rfl) (Nat.le_of_ble_eq_true rfl) ?_
        refine X_icmp_ge rfl (fun c31 => ?_) (fun c31 => absurd ((n_le rfl rfl (by omega) (by omega)).mpr (by omega)) c31)
        exact Kz
      | succ f9 ih =>
        intro j e0 
        refine X_ld rfl rfl rfl rfl ?_
        refine X_ld rfl rfl rfl rfl ?_
        refine X_get f_X1_10 rfl (c_B hoo hB) rfl ?_
        refine X_vcall (o := a) hNl l_X1_Jx4a65c_size_8abf5 (j_size hG (d + 2 + w) (l_at_li hl)) rfl rfl rfl rfl (Nat.le_of_ble_eq_true rfl) (Nat.le_of_ble_eq_true rfl) (by omega) (Nat.le_of_ble_eq_true rfl) (Nat.le_of_ble_eq_true rfl) ?_
        refine X_icmp_ge rfl (fun c31 => absurd ((n_le rfl rfl (by omega) (by omega)).mp c31) (by omega)) (fun c31 => ?_)
        refine X_ld rfl rfl rfl rfl ?_
        refine X_get f_X1_10 rfl (c_B hoo hB) rfl ?_
        refine X_ld rfl rfl rfl rfl ?_
        refine X_vcall (o := a) hNl l_X1_Jx4a65c_get_915e3 (j_get hG (d + w) (l_at_li hl) j (by omega) rfl) rfl rfl rfl rfl (Nat.le_of_ble_eq_true rfl) (Nat.le_of_ble_eq_true rfl) (by omega) (Nat.le_of_ble_eq_true rfl) (Nat.le_of_ble_eq_true rfl) ?_
        rcases hpart j (by omega) with ⟨k, hqk, hck, hEk⟩ | ⟨w2, kd2, a2, n2, p2, F2, hw2, ih2, y1, y2, y3, y4, y5, y6⟩
        · refine X_castY cl_X1_2 ca_X0 rfl (c_B hqk.1 hqk.2) rfl ?_
          refine X_ld rfl rfl rfl rfl ?_
          refine X_ld rfl rfl rfl rfl ?_
          refine X_callU (o := p j) lu_X1_X0_matches (q_matches hG (d + w) i hi hqk hvv hck hcm5 hrel q hq1 hq40) rfl rfl (c_B hqk.1 hqk.2) rfl rfl (Nat.le_of_ble_eq_true rfl) (x_fit_of (Nat.le_of_ble_eq_true rfl) (by omega) (Nat.le_of_ble_eq_true rfl) (Nat.le_of_ble_eq_true rfl)) (fun N9 r9 h9 => ?_)
          obtain ⟨rfl, rfl⟩ := h9
          refine X_stk (st' := [.long (s_me (fun l => F j (fun k => s_tru e g k l)) q)]) (by rw [hEk, ← s_mt_me]; rfl) ?_
          refine X_stl rfl rfl rfl ?_
          refine X_ld rfl rfl rfl rfl ?_
          refine X_get f_X1_16 rfl (c_B hoo hB) rfl ?_
          refine X_lookup (off := 27) 84 rfl (by decide) (by decide +kernel) (by decide) ?_
          · refine X_ld rfl rfl rfl rfl ?_
            refine X_ld rfl rfl rfl rfl ?_
            refine X_bin rfl rfl ?_
            refine X_stl rfl rfl rfl ?_
            refine X_goto rfl ?_
            refine X_iinc rfl rfl rfl ?_
            refine X_goto rfl ?_
            refine X_loc (L' := [some (.ref o), some (.ref (75 + 20 * i)), some (.ref vn), some (.long (s_me (fun _ => true) q)), none, some (.long (s_me (fun l => s_cpE 0 (j + 1) F (fun k => s_tru e g k l)) q)), none, some (.int (nI (j + 1))), none, none]) ⟨rfl, rfl, rfl, rfl, congrArg Value.long ((s_me_and (by omega)).trans (s_me_cong q (fun l _ => s_cpE_0s.symm))).symm, (congrArg Value.int (m_inc rfl)).symm, trivial⟩ ?_
            exact ih (j + 1) (by omega)
        · refine X_castY cl_X1_2 ca_X1 rfl (c_B y1 y2) rfl ?_
          refine X_ld rfl rfl rfl rfl ?_
          refine X_ld rfl rfl rfl rfl ?_
          refine X_callU (o := p j) lu_X1_X1_matches (ih2 (p j) kd2 a2 n2 p2 F2 y1 y2 y3 y4 y5) rfl rfl (c_B y1 y2) rfl rfl (Nat.le_of_ble_eq_true rfl) (x_fit_of (Nat.le_of_ble_eq_true rfl) (by omega) (Nat.le_of_ble_eq_true rfl) (Nat.le_of_ble_eq_true rfl)) (fun N9 r9 h9 => ?_)
          obtain ⟨rfl, rfl⟩ := h9
          refine X_stk (st' := [.long (s_me (fun l => F j (fun k => s_tru e g k l)) q)]) (by rw [y6]; rfl) ?_
          refine X_stl rfl rfl rfl ?_
          refine X_ld rfl rfl rfl rfl ?_
          refine X_get f_X1_16 rfl (c_B hoo hB) rfl ?_
          refine X_lookup (off := 27) 84 rfl (by decide) (by decide +kernel) (by decide) ?_
          · refine X_ld rfl rfl rfl rfl ?_
            refine X_ld rfl rfl rfl rfl ?_
            refine X_bin rfl rfl ?_
            refine X_stl rfl rfl rfl ?_
            refine X_goto rfl ?_
            refine X_iinc rfl rfl rfl ?_
            refine X_goto rfl ?_
            refine X_loc (L' := [some (.ref o), some (.ref (75 + 20 * i)), some (.ref vn), some (.long (s_me (fun _ => true) q)), none, some (.long (s_me (fun l => s_cpE 0 (j + 1) F (fun k => s_tru e g k l)) q)), none, some (.int (nI (j + 1))), none, none]) ⟨rfl, rfl, rfl, rfl, congrArg Value.long ((s_me_and (by omega)).trans (s_me_cong q (fun l _ => s_cpE_0s.symm))).symm, (congrArg Value.int (m_inc rfl)).symm, trivial⟩ ?_
            exact ih (j + 1) (by omega)
    refine X_ld rfl rfl rfl rfl ?_
    refine X_vcall (r_D hi updR_eq) l_X1_X3_allRows (d_allRows hG (d + w + 2) i hi) rfl rfl rfl rfl (Nat.le_of_ble_eq_true rfl) (Nat.le_of_ble_eq_true rfl) (by omega) (Nat.le_of_ble_eq_true rfl) (Nat.le_of_ble_eq_true rfl) ?_
    refine X_stl rfl rfl rfl ?_
    refine X_ld rfl rfl rfl rfl ?_
    refine X_get f_X1_16 rfl (c_B hoo hB) rfl ?_
    refine X_if_ne rfl (fun c9 => absurd (by decide) c9) (fun c9 => ?_)
    refine X_ld rfl rfl rfl rfl ?_
    refine X_goto rfl ?_
    refine X_stl rfl rfl rfl ?_
    refine X_push (v := .int 0) rfl (by decide +kernel) ?_
    refine X_st rfl rfl rfl ?_
    refine X_loc (L' := [some (.ref o), some (.ref (75 + 20 * i)), some (.ref vn), some (.long (s_me (fun _ => true) q)), none, some (.long (s_me (fun l => s_cpE 0 0 F (fun k => s_tru e g k l)) q)), none, some (.int (nI 0)), none, none]) ⟨rfl, rfl, rfl, congrArg Value.long ((s_all_me q (by omega)).symm.trans (congrArg s_all hq1.symm)), (congrArg Value.long (show s_me (fun l => s_cpE 0 0 F (fun k => s_tru e g k l)) q = _ from (s_all_me q (by omega)).symm.trans (congrArg s_all hq1.symm))), rfl, trivial⟩ ?_
    refine loop ?_ n 0 (Nat.zero_add _)
    refine X_ld rfl rfl rfl rfl ?_
    exact X_lret rfl rfl ⟨rfl, rfl⟩ (Nat.le_of_ble_eq_true rfl) (Nat.le_of_ble_eq_true rfl)
  · have loop : x_W G mX1_matches (x_Z G (d + 3 + w) 0 0 ad0 nb0 (x_Ret (cset B J bf K tk ts tl tv su (updR D i c)) (.long (s_me (fun l => s_cpE 1 n F (fun k => s_tru e g k l)) q))) x_noX) (cset B J bf K tk ts tl tv su (updR D i c)) 0 0 120 [some (.ref o), some (.ref (75 + 20 * i)), some (.ref vn), some (.long (s_me (fun _ => true) q)), none, some (.long (s_me (fun l => s_cpE 1 n F (fun k => s_tru e g k l)) q)), none, some (.int (nI n)), none, none] [] → ∀ (f9 j : Nat), j + f9 = n → x_W G mX1_matches (x_Z G (d + 3 + w) 0 0 ad0 nb0 (x_Ret (cset B J bf K tk ts tl tv su (updR D i c)) (.long (s_me (fun l => s_cpE 1 n F (fun k => s_tru e g k l)) q))) x_noX) (cset B J bf K tk ts tl tv su (updR D i c)) 0 0 22 [some (.ref o), some (.ref (75 + 20 * i)), some (.ref vn), some (.long (s_me (fun _ => true) q)), none, some (.long (s_me (fun l => s_cpE 1 j F (fun k => s_tru e g k l)) q)), none, some (.int (nI j)), none, none] [] := by
      intro Kz f9
      induction f9 with
      | zero =>
        intro j e0 
        obtain e9 : j = n := by omega
        subst j
        refine X_ld rfl rfl rfl rfl ?_
        refine X_ld rfl rfl rfl rfl ?_
        refine X_get f_X1_10 rfl (c_B hoo hB) rfl ?_
        refine X_vcall (o := a) hNl l_X1_Jx4a65c_size_8abf5 (j_size hG (d + 2 + w) (l_at_li hl)) rfl rfl rfl rfl (Nat.le_of_ble_eq_true rfl) (Nat.le_of_ble_eq_true rfl) (by omega) (Nat.le_of_ble_eq_true rfl) (Nat.le_of_ble_eq_true rfl) ?_
        refine X_icmp_ge rfl (fun c31 => ?_) (fun c31 => absurd ((n_le rfl rfl (by omega) (by omega)).mpr (by omega)) c31)
        exact Kz
      | succ f9 ih =>
        intro j e0 
        refine X_ld rfl rfl rfl rfl ?_
        refine X_ld rfl rfl rfl rfl ?_
        refine X_get f_X1_10 rfl (c_B hoo hB) rfl ?_
        refine X_vcall (o := a) hNl l_X1_Jx4a65c_size_8abf5 (j_size hG (d + 2 + w) (l_at_li hl)) rfl rfl rfl rfl (Nat.le_of_ble_eq_true rfl) (Nat.le_of_ble_eq_true rfl) (by omega) (Nat.le_of_ble_eq_true rfl) (Nat.le_of_ble_eq_true rfl) ?_
        refine X_icmp_ge rfl (fun c31 => absurd ((n_le rfl rfl (by omega) (by omega)).mp c31) (by omega)) (fun c31 => ?_)
        refine X_ld rfl rfl rfl rfl ?_
        refine X_get f_X1_10 rfl (c_B hoo hB) rfl ?_
        refine X_ld rfl rfl rfl rfl ?_
        refine X_vcall (o := a) hNl l_X1_Jx4a65c_get_915e3 (j_get hG (d + w) (l_at_li hl) j (by omega) rfl) rfl rfl rfl rfl (Nat.le_of_ble_eq_true rfl) (Nat.le_of_ble_eq_true rfl) (by omega) (Nat.le_of_ble_eq_true rfl) (Nat.le_of_ble_eq_true rfl) ?_
        rcases hpart j (by omega) with ⟨k, hqk, hck, hEk⟩ | ⟨w2, kd2, a2, n2, p2, F2, hw2, ih2, y1, y2, y3, y4, y5, y6⟩
        · refine X_castY cl_X1_2 ca_X0 rfl (c_B hqk.1 hqk.2) rfl ?_
          refine X_ld rfl rfl rfl rfl ?_
          refine X_ld rfl rfl rfl rfl ?_
          refine X_callU (o := p j) lu_X1_X0_matches (q_matches hG (d + w) i hi hqk hvv hck hcm5 hrel q hq1 hq40) rfl rfl (c_B hqk.1 hqk.2) rfl rfl (Nat.le_of_ble_eq_true rfl) (x_fit_of (Nat.le_of_ble_eq_true rfl) (by omega) (Nat.le_of_ble_eq_true rfl) (Nat.le_of_ble_eq_true rfl)) (fun N9 r9 h9 => ?_)
          obtain ⟨rfl, rfl⟩ := h9
          refine X_stk (st' := [.long (s_me (fun l => F j (fun k => s_tru e g k l)) q)]) (by rw [hEk, ← s_mt_me]; rfl) ?_
          refine X_stl rfl rfl rfl ?_
          refine X_ld rfl rfl rfl rfl ?_
          refine X_get f_X1_16 rfl (c_B hoo hB) rfl ?_
          refine X_lookup (off := 37) 94 rfl (by decide) (by decide +kernel) (by decide) ?_
          · refine X_ld rfl rfl rfl rfl ?_
            refine X_ld rfl rfl rfl rfl ?_
            refine X_bin rfl rfl ?_
            refine X_stl rfl rfl rfl ?_
            refine X_goto rfl ?_
            refine X_iinc rfl rfl rfl ?_
            refine X_goto rfl ?_
            refine X_loc (L' := [some (.ref o), some (.ref (75 + 20 * i)), some (.ref vn), some (.long (s_me (fun _ => true) q)), none, some (.long (s_me (fun l => s_cpE 1 (j + 1) F (fun k => s_tru e g k l)) q)), none, some (.int (nI (j + 1))), none, none]) ⟨rfl, rfl, rfl, rfl, congrArg Value.long ((s_me_or (by omega)).trans (s_me_cong q (fun l _ => s_cpE_1s.symm))).symm, (congrArg Value.int (m_inc rfl)).symm, trivial⟩ ?_
            exact ih (j + 1) (by omega)
        · refine X_castY cl_X1_2 ca_X1 rfl (c_B y1 y2) rfl ?_
          refine X_ld rfl rfl rfl rfl ?_
          refine X_ld rfl rfl rfl rfl ?_
          refine X_callU (o := p j) lu_X1_X1_matches (ih2 (p j) kd2 a2 n2 p2 F2 y1 y2 y3 y4 y5) rfl rfl (c_B y1 y2) rfl rfl (Nat.le_of_ble_eq_true rfl) (x_fit_of (Nat.le_of_ble_eq_true rfl) (by omega) (Nat.le_of_ble_eq_true rfl) (Nat.le_of_ble_eq_true rfl)) (fun N9 r9 h9 => ?_)
          obtain ⟨rfl, rfl⟩ := h9
          refine X_stk (st' := [.long (s_me (fun l => F j (fun k => s_tru e g k l)) q)]) (by rw [y6]; rfl) ?_
          refine X_stl rfl rfl rfl ?_
          refine X_ld rfl rfl rfl rfl ?_
          refine X_get f_X1_16 rfl (c_B hoo hB) rfl ?_
          refine X_lookup (off := 37) 94 rfl (by decide) (by decide +kernel) (by decide) ?_
          · refine X_ld rfl rfl rfl rfl ?_
            refine X_ld rfl rfl rfl rfl ?_
            refine X_bin rfl rfl ?_
            refine X_stl rfl rfl rfl ?_
            refine X_goto rfl ?_
            refine X_iinc rfl rfl rfl ?_
            refine X_goto rfl ?_
            refine X_loc (L' := [some (.ref o), some (.ref (75 + 20 * i)), some (.ref vn), some (.long (s_me (fun _ => true) q)), none, some (.long (s_me (fun l => s_cpE 1 (j + 1) F (fun k => s_tru e g k l)) q)), none, some (.int (nI (j + 1))), none, none]) ⟨rfl, rfl, rfl, rfl, congrArg Value.long ((s_me_or (by omega)).trans (s_me_cong q (fun l _ => s_cpE_1s.symm))).symm, (congrArg Value.int (m_inc rfl)).symm, trivial⟩ ?_
            exact ih (j + 1) (by omega)
    refine X_ld rfl rfl rfl rfl ?_
    refine X_vcall (r_D hi updR_eq) l_X1_X3_allRows (d_allRows hG (d + w + 2) i hi) rfl rfl rfl rfl (Nat.le_of_ble_eq_true rfl) (Nat.le_of_ble_eq_true rfl) (by omega) (Nat.le_of_ble_eq_true rfl) (Nat.le_of_ble_eq_true rfl) ?_
    refine X_stl rfl rfl rfl ?_
    refine X_ld rfl rfl rfl rfl ?_
    refine X_get f_X1_16 rfl (c_B hoo hB) rfl ?_
    refine X_if_ne rfl (fun c9 => ?_) (fun c9 => absurd c9 (by decide))
    refine X_push (v := .long 0) rfl (by decide +kernel) ?_
    refine X_stl rfl rfl rfl ?_
    refine X_push (v := .int 0) rfl (by decide +kernel) ?_
    refine X_st rfl rfl rfl ?_
    refine X_loc (L' := [some (.ref o), some (.ref (75 + 20 * i)), some (.ref vn), some (.long (s_me (fun _ => true) q)), none, some (.long (s_me (fun l => s_cpE 1 0 F (fun k => s_tru e g k l)) q)), none, some (.int (nI 0)), none, none]) ⟨rfl, rfl, rfl, congrArg Value.long ((s_all_me q (by omega)).symm.trans (congrArg s_all hq1.symm)), (congrArg Value.long (show s_me (fun l => s_cpE 1 0 F (fun k => s_tru e g k l)) q = 0 from s_me_0 q (by omega))), rfl, trivial⟩ ?_
    refine loop ?_ n 0 (Nat.zero_add _)
    refine X_ld rfl rfl rfl rfl ?_
    exact X_lret rfl rfl ⟨rfl, rfl⟩ (Nat.le_of_ble_eq_true rfl) (Nat.le_of_ble_eq_true rfl)
  · have loop : x_W G mX1_matches (x_Z G (d + 3 + w) 0 0 ad0 nb0 (x_Ret (cset B J bf K tk ts tl tv su (updR D i c)) (.long (s_me (fun l => s_cpE 2 n F (fun k => s_tru e g k l)) q))) x_noX) (cset B J bf K tk ts tl tv su (updR D i c)) 0 0 120 [some (.ref o), some (.ref (75 + 20 * i)), some (.ref vn), some (.long (s_me (fun _ => true) q)), none, some (.long (s_me (fun l => s_cpE 2 n F (fun k => s_tru e g k l)) q)), none, some (.int (nI n)), none, none] [] → ∀ (f9 j : Nat), j + f9 = n → x_W G mX1_matches (x_Z G (d + 3 + w) 0 0 ad0 nb0 (x_Ret (cset B J bf K tk ts tl tv su (updR D i c)) (.long (s_me (fun l => s_cpE 2 n F (fun k => s_tru e g k l)) q))) x_noX) (cset B J bf K tk ts tl tv su (updR D i c)) 0 0 22 [some (.ref o), some (.ref (75 + 20 * i)), some (.ref vn), some (.long (s_me (fun _ => true) q)), none, some (.long (s_me (fun l => s_cpE 2 j F (fun k => s_tru e g k l)) q)), none, some (.int (nI j)), none, none] [] := by
      intro Kz f9
      induction f9 with
      | zero =>
        intro j e0 
        obtain e9 : j = n := by omega
        subst j
        refine X_ld rfl rfl rfl rfl ?_
        refine X_ld rfl rfl rfl rfl ?_
        refine X_get f_X1_10 rfl (c_B hoo hB) rfl ?_
        refine X_vcall (o := a) hNl l_X1_Jx4a65c_size_8abf5 (j_size hG (d + 2 + w) (l_at_li hl)) rfl rfl rfl rfl (Nat.le_of_ble_eq_true rfl) (Nat.le_of_ble_eq_true rfl) (by omega) (Nat.le_of_ble_eq_true rfl) (Nat.le_of_ble_eq_true rfl) ?_
        refine X_icmp_ge rfl (fun c31 => ?_) (fun c31 => absurd ((n_le rfl rfl (by omega) (by omega)).mpr (by omega)) c31)
        exact Kz
      | succ f9 ih =>
        intro j e0 
        refine X_ld rfl rfl rfl rfl ?_
        refine X_ld rfl rfl rfl rfl ?_
        refine X_get f_X1_10 rfl (c_B hoo hB) rfl ?_
        refine X_vcall (o := a) hNl l_X1_Jx4a65c_size_8abf5 (j_size hG (d + 2 + w) (l_at_li hl)) rfl rfl rfl rfl (Nat.le_of_ble_eq_true rfl) (Nat.le_of_ble_eq_true rfl) (by omega) (Nat.le_of_ble_eq_true rfl) (Nat.le_of_ble_eq_true rfl) ?_
        refine X_icmp_ge rfl (fun c31 => absurd ((n_le rfl rfl (by omega) (by omega)).mp c31) (by omega)) (fun c31 => ?_)
        refine X_ld rfl rfl rfl rfl ?_
        refine X_get f_X1_10 rfl (c_B hoo hB) rfl ?_
        refine X_ld rfl rfl rfl rfl ?_
        refine X_vcall (o := a) hNl l_X1_Jx4a65c_get_915e3 (j_get hG (d + w) (l_at_li hl) j (by omega) rfl) rfl rfl rfl rfl (Nat.le_of_ble_eq_true rfl) (Nat.le_of_ble_eq_true rfl) (by omega) (Nat.le_of_ble_eq_true rfl) (Nat.le_of_ble_eq_true rfl) ?_
        rcases hpart j (by omega) with ⟨k, hqk, hck, hEk⟩ | ⟨w2, kd2, a2, n2, p2, F2, hw2, ih2, y1, y2, y3, y4, y5, y6⟩
        · refine X_castY cl_X1_2 ca_X0 rfl (c_B hqk.1 hqk.2) rfl ?_
          refine X_ld rfl rfl rfl rfl ?_
          refine X_ld rfl rfl rfl rfl ?_
          refine X_callU (o := p j) lu_X1_X0_matches (q_matches hG (d + w) i hi hqk hvv hck hcm5 hrel q hq1 hq40) rfl rfl (c_B hqk.1 hqk.2) rfl rfl (Nat.le_of_ble_eq_true rfl) (x_fit_of (Nat.le_of_ble_eq_true rfl) (by omega) (Nat.le_of_ble_eq_true rfl) (Nat.le_of_ble_eq_true rfl)) (fun N9 r9 h9 => ?_)
          obtain ⟨rfl, rfl⟩ := h9
          refine X_stk (st' := [.long (s_me (fun l => F j (fun k => s_tru e g k l)) q)]) (by rw [hEk, ← s_mt_me]; rfl) ?_
          refine X_stl rfl rfl rfl ?_
          refine X_ld rfl rfl rfl rfl ?_
          refine X_get f_X1_16 rfl (c_B hoo hB) rfl ?_
          refine X_lookup (off := 47) 104 rfl (by decide) (by decide +kernel) (by decide) ?_
          · refine X_ld rfl rfl rfl rfl ?_
            refine X_ld rfl rfl rfl rfl ?_
            refine X_ldc2 k_X1_38 rfl ?_
            refine X_bin rfl rfl ?_
            refine X_bin rfl rfl ?_
            refine X_stl rfl rfl rfl ?_
            refine X_iinc rfl rfl rfl ?_
            refine X_goto rfl ?_
            refine X_loc (L' := [some (.ref o), some (.ref (75 + 20 * i)), some (.ref vn), some (.long (s_me (fun _ => true) q)), none, some (.long (s_me (fun l => s_cpE 2 (j + 1) F (fun k => s_tru e g k l)) q)), none, some (.int (nI (j + 1))), none, none]) ⟨rfl, rfl, rfl, rfl, congrArg Value.long ((s_me_not (by omega)).trans (s_me_cong q (fun l _ => s_cpE_2s.symm))).symm, (congrArg Value.int (m_inc rfl)).symm, trivial⟩ ?_
            exact ih (j + 1) (by omega)
        · refine X_castY cl_X1_2 ca_X1 rfl (c_B y1 y2) rfl ?_
          refine X_ld rfl rfl rfl rfl ?_
          refine X_ld rfl rfl rfl rfl ?_
          refine X_callU (o := p j) lu_X1_X1_matches (ih2 (p j) kd2 a2 n2 p2 F2 y1 y2 y3 y4 y5) rfl rfl (c_B y1 y2) rfl rfl (Nat.le_of_ble_eq_true rfl) (x_fit_of (Nat.le_of_ble_eq_true rfl) (by omega) (Nat.le_of_ble_eq_true rfl) (Nat.le_of_ble_eq_true rfl)) (fun N9 r9 h9 => ?_)
          obtain ⟨rfl, rfl⟩ := h9
          refine X_stk (st' := [.long (s_me (fun l => F j (fun k => s_tru e g k l)) q)]) (by rw [y6]; rfl) ?_
          refine X_stl rfl rfl rfl ?_
          refine X_ld rfl rfl rfl rfl ?_
          refine X_get f_X1_16 rfl (c_B hoo hB) rfl ?_
          refine X_lookup (off := 47) 104 rfl (by decide) (by decide +kernel) (by decide) ?_
          · refine X_ld rfl rfl rfl rfl ?_
            refine X_ld rfl rfl rfl rfl ?_
            refine X_ldc2 k_X1_38 rfl ?_
            refine X_bin rfl rfl ?_
            refine X_bin rfl rfl ?_
            refine X_stl rfl rfl rfl ?_
            refine X_iinc rfl rfl rfl ?_
            refine X_goto rfl ?_
            refine X_loc (L' := [some (.ref o), some (.ref (75 + 20 * i)), some (.ref vn), some (.long (s_me (fun _ => true) q)), none, some (.long (s_me (fun l => s_cpE 2 (j + 1) F (fun k => s_tru e g k l)) q)), none, some (.int (nI (j + 1))), none, none]) ⟨rfl, rfl, rfl, rfl, congrArg Value.long ((s_me_not (by omega)).trans (s_me_cong q (fun l _ => s_cpE_2s.symm))).symm, (congrArg Value.int (m_inc rfl)).symm, trivial⟩ ?_
            exact ih (j + 1) (by omega)
    refine X_ld rfl rfl rfl rfl ?_
    refine X_vcall (r_D hi updR_eq) l_X1_X3_allRows (d_allRows hG (d + w + 2) i hi) rfl rfl rfl rfl (Nat.le_of_ble_eq_true rfl) (Nat.le_of_ble_eq_true rfl) (by omega) (Nat.le_of_ble_eq_true rfl) (Nat.le_of_ble_eq_true rfl) ?_
    refine X_stl rfl rfl rfl ?_
    refine X_ld rfl rfl rfl rfl ?_
    refine X_get f_X1_16 rfl (c_B hoo hB) rfl ?_
    refine X_if_ne rfl (fun c9 => ?_) (fun c9 => absurd c9 (by decide))
    refine X_push (v := .long 0) rfl (by decide +kernel) ?_
    refine X_stl rfl rfl rfl ?_
    refine X_push (v := .int 0) rfl (by decide +kernel) ?_
    refine X_st rfl rfl rfl ?_
    refine X_loc (L' := [some (.ref o), some (.ref (75 + 20 * i)), some (.ref vn), some (.long (s_me (fun _ => true) q)), none, some (.long (s_me (fun l => s_cpE 2 0 F (fun k => s_tru e g k l)) q)), none, some (.int (nI 0)), none, none]) ⟨rfl, rfl, rfl, congrArg Value.long ((s_all_me q (by omega)).symm.trans (congrArg s_all hq1.symm)), (congrArg Value.long (show s_me (fun l => s_cpE 2 0 F (fun k => s_tru e g k l)) q = 0 from s_me_0 q (by omega))), rfl, trivial⟩ ?_
    refine loop ?_ n 0 (Nat.zero_add _)
    refine X_ld rfl rfl rfl rfl ?_
    exact X_lret rfl rfl ⟨rfl, rfl⟩ (Nat.le_of_ble_eq_true rfl) (Nat.le_of_ble_eq_true rfl)
theorem h_mat_all {G : XE} (hG : x_Kn G) {B : XH} {J bf K tk ts : Nat → Int32} {tl : Int64} {tv : Nat → Int64} {su : Nat → Nat} {D : Nat → Nat → Int32} (d : Nat) (i : Nat) (hi : i < 10) {c e g : Nat → Int32} {vn : Nat} (hvv : v_at B g vn) (hcm5 : s_cm e ≤ 5) (hrel : s_rel e c) (q : Nat) (hq1 : c 1 = nI q) (hq40 : q ≤ 40) : ∀ w, h_mat G B J bf K tk ts tl tv su D d i c e g vn q w := by
  intro w
  induction w with
  | zero =>
    intro o kd a n p F hoo hB hkd hl hF
    exact h_mat_s hG d i hi hvv hcm5 hrel q hq1 hq40 0 o kd a n p F hoo hB hkd hl (fun j hj => absurd (hF j hj) (fun h => h))
  | succ w ih =>
    intro o kd a n p F hoo hB hkd hl hF
    refine h_mat_s hG d i hi hvv hcm5 hrel q hq1 hq40 (w + 1) o kd a n p F hoo hB hkd hl (fun j hj => ?_)
    rcases hF j hj with ⟨k, h1, h2, h3⟩ | ⟨kd2, a2, n2, p2, F2, h1, h2, h3, h4, h5, h6⟩
    · exact Or.inl ⟨k, h1, h2, h3⟩
    · exact Or.inr ⟨w, kd2, a2, n2, p2, F2, Nat.lt_succ_self w, ih, h1, h2, h3, h4, h5, h6⟩

