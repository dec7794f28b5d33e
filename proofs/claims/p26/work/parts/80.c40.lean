/-! ===== the class: names are numbers ===== -/
/-- a word of the grammar as a number -/
def y_nw (i : Nat) : Int64 := s_nmv (fun k => (x_w i).getD k 0) 0 (x_w i).length
/-- what kind of word it is -/
def z_ky (z : Int64) : Int32 := if z = 0 then 261 else if z = y_nw 16 then 258 else if z = y_nw 15 then 259 else if z = y_nw 17 then 260 else 257
section YL
variable {G : XE} {M Mc : XMI} {d mc ms nb0 : Nat} {ad0 : Nat → Nat} {Qn : XH → Option Value → Prop} {Qx : XH → String → Prop} {N N1 : XH} {cells slots pc pc' t : Nat} {L : List (Option Value)}
theorem X_sncall {idx n d' mc' ms' : Nat} {host : String} {st As rest : List Value} {v : Value} (hk : x_LSN (x_own M) idx n Mc host) (hM : x_M G Mc d' mc' ms' As N (x_Ret N1 v) x_noX)
    (hd : x_at (x_k M) pc = some (.invokestatic idx, pc', t)) (hst : st = As.reverse ++ rest) (hn : As.length = n) (hrest : (rest.map fun v => v.category).sum ≤ 8) (hL : x_nL Mc ≤ 81) (hdd : d' + 1 ≤ d) (h1 : cells + mc' ≤ mc) (h2 : slots + ms' ≤ ms)
    (kk : x_W G M (x_Z G d mc ms ad0 nb0 Qn Qx) N1 (cells + mc') (slots + ms') pc' L (v :: rest)) : x_W G M (x_Z G d mc ms ad0 nb0 Qn Qx) N cells slots pc L st :=
  X_callSN hk hM hd hst hn hrest (x_fit_of hL hdd h1 h2) (fun N' r h => by obtain ⟨rfl, rfl⟩ := h; exact kk)
end YL
theorem p_nameOf {G : XE} (hG : x_Kn G) (hK : x_KS G) {N : XH} (d : Nat) (i : Nat) (hi : 13 ≤ i ∧ i < 26) : x_M G mX10_nameOf (d + 4) 0 0 [.ref (4 + i)] (N) (x_Ret N (.long (y_nw i))) x_noX := by
  refine X_M hG okX10_nameOf rfl (L := [some (.ref (4 + i)), none, none, none]) rfl (Nat.le_of_ble_eq_true rfl) (fun ad0 nb0 => ?_)
  have h8 := x_w_len i
  have loop : ∀ (f9 k : Nat), k + f9 = (x_w i).length → x_W G mX10_nameOf (x_Z G (d + 4) 0 0 ad0 nb0 (x_Ret N (.long (y_nw i))) x_noX) N 0 0 4 [some (.ref (4 + i)), some (.long (s_nmv (fun k => (x_w i).getD k 0) 0 k)), none, some (.int (nI k))] [] := by
    intro f9
    induction f9 with
    | zero =>
      intro k e0
      obtain rfl : k = (x_w i).length := by omega
      refine X_ld rfl rfl rfl rfl ?_
      refine X_ld rfl rfl rfl rfl ?_
      refine X_callF (o := 4 + i) (by omega) (hK.2.1 i (by omega)).1 l_X10_J0_length_8abf5 (c_strlen hG hK (d + 2) i (by omega)) rfl rfl rfl (Nat.le_of_ble_eq_true rfl) (x_fit_of (Nat.le_of_ble_eq_true rfl) (by omega) (Nat.le_of_ble_eq_true rfl) (Nat.le_of_ble_eq_true rfl)) ?_
      refine X_icmp_ge rfl (fun c9 => ?_) (fun c9 => absurd (Int32.le_refl _) c9)
      refine X_ld rfl rfl rfl rfl ?_
      exact X_lret rfl rfl ⟨rfl, rfl⟩ (Nat.le_of_ble_eq_true rfl) (Nat.le_of_ble_eq_true rfl)
    | succ f9 ih =>
      intro k e0
      refine X_ld rfl rfl rfl rfl ?_
      refine X_ld rfl rfl rfl rfl ?_
      refine X_callF (o := 4 + i) (by omega) (hK.2.1 i (by omega)).1 l_X10_J0_length_8abf5 (c_strlen hG hK (d + 2) i (by omega)) rfl rfl rfl (Nat.le_of_ble_eq_true rfl) (x_fit_of (Nat.le_of_ble_eq_true rfl) (by omega) (Nat.le_of_ble_eq_true rfl) (Nat.le_of_ble_eq_true rfl)) ?_
      refine X_icmp_ge rfl (fun c9 => absurd ((n_le rfl rfl (by omega) (by omega)).mp c9) (by omega)) (fun c9 => ?_)
      refine X_ldc2 k_X10_324 rfl ?_
      refine X_ld rfl rfl rfl rfl ?_
      refine X_bin rfl rfl ?_
      refine X_ld rfl rfl rfl rfl ?_
      refine X_ld rfl rfl rfl rfl ?_
      refine X_callF (o := 4 + i) (by omega) (hK.2.1 i (by omega)).1 l_X10_J0_charAt_5068e (c_charAt hG hK d i (by omega) k (by omega) rfl) rfl rfl rfl (Nat.le_of_ble_eq_true rfl) (x_fit_of (Nat.le_of_ble_eq_true rfl) (by omega) (Nat.le_of_ble_eq_true rfl) (Nat.le_of_ble_eq_true rfl)) ?_
      refine X_un rfl rfl ?_
      refine X_bin rfl rfl ?_
      refine X_ldc2 k_X10_326 rfl ?_
      refine X_bin rfl rfl ?_
      refine X_push (v := .long 1) rfl (by decide +kernel) ?_
      refine X_bin rfl rfl ?_
      refine X_stl rfl rfl rfl ?_
      refine X_iinc rfl rfl rfl ?_
      refine X_goto rfl ?_
      refine X_loc (L' := [some (.ref (4 + i)), some (.long (s_nmv (fun k => (x_w i).getD k 0) 0 (k + 1))), none, some (.int (nI (k + 1)))]) ⟨rfl, congrArg Value.long (by show 32 * _ + ((x_w i).getD (0 + k) 0).toInt64 - 97 + 1 = _; rw [Nat.zero_add]), congrArg Value.int (m_inc rfl).symm, trivial⟩ ?_
      exact ih (k + 1) (by omega)
  refine X_push (v := .long 0) rfl (by decide +kernel) ?_
  refine X_stl rfl rfl rfl ?_
  refine X_push (v := .int 0) rfl (by decide +kernel) ?_
  refine X_st rfl rfl rfl ?_
  refine X_loc (L' := [some (.ref (4 + i)), some (.long (s_nmv (fun k => (x_w i).getD k 0) 0 0)), none, some (.int (nI 0))]) ⟨rfl, rfl, rfl, trivial⟩ ?_
  exact loop _ 0 (Nat.zero_add _)
theorem p_kindOf {G : XE} (hG : x_Kn G) (hK : x_KS G) {N : XH} (d : Nat) {z : Int64} : x_M G mX8_kindOf (d + 5) 0 0 [.long z] (N) (x_Ret N (.int (z_ky z))) x_noX := by
  refine X_M hG okX8_kindOf rfl (L := [some (.long z), none]) rfl (Nat.le_of_ble_eq_true rfl) (fun ad0 nb0 => ?_)
  refine X_ld rfl rfl rfl rfl ?_
  refine X_push (v := .long 0) rfl (by decide +kernel) ?_
  refine X_bin rfl rfl ?_
  refine X_if_ne rfl (fun c3 => ?_) (fun c3 => ?_)
  · refine X_ld rfl rfl rfl rfl ?_
    refine X_ldcS (i := 16) hK (List.mem_of_getElem? (i := 16) rfl) (by decide) rfl ?_
    refine X_sncall l_X8_X10_nameOf (p_nameOf hG hK d 16 (by decide)) rfl rfl rfl (Nat.le_of_ble_eq_true rfl) (Nat.le_of_ble_eq_true rfl) (by omega) (Nat.le_of_ble_eq_true rfl) (Nat.le_of_ble_eq_true rfl) ?_
    refine X_bin rfl rfl ?_
    refine X_if_ne rfl (fun c17 => ?_) (fun c17 => ?_)
    · refine X_ld rfl rfl rfl rfl ?_
      refine X_ldcS (i := 15) hK (List.mem_of_getElem? (i := 15) rfl) (by decide) rfl ?_
      refine X_sncall l_X8_X10_nameOf (p_nameOf hG hK d 15 (by decide)) rfl rfl rfl (Nat.le_of_ble_eq_true rfl) (Nat.le_of_ble_eq_true rfl) (by omega) (Nat.le_of_ble_eq_true rfl) (Nat.le_of_ble_eq_true rfl) ?_
      refine X_bin rfl rfl ?_
      refine X_if_ne rfl (fun c31 => ?_) (fun c31 => ?_)
      · refine X_ld rfl rfl rfl rfl ?_
        refine X_ldcS (i := 17) hK (List.mem_of_getElem? (i := 17) rfl) (by decide) rfl ?_
        refine X_sncall l_X8_X10_nameOf (p_nameOf hG hK d 17 (by decide)) rfl rfl rfl (Nat.le_of_ble_eq_true rfl) (Nat.le_of_ble_eq_true rfl) (by omega) (Nat.le_of_ble_eq_true rfl) (Nat.le_of_ble_eq_true rfl) ?_
        refine X_bin rfl rfl ?_
        refine X_if_ne rfl (fun c45 => ?_) (fun c45 => ?_)
        · refine X_push (v := .int 257) rfl (by decide +kernel) ?_
          exact X_iret rfl rfl ⟨rfl, congrArg (fun q => some (Value.int q)) (show _ = z_ky z by unfold z_ky; rw [if_neg (fun q => c3 (y_cmp0.mpr q)), if_neg (fun q => c17 (y_cmp0.mpr q)), if_neg (fun q => c31 (y_cmp0.mpr q)), if_neg (fun q => c45 (y_cmp0.mpr q))])⟩ (Nat.le_of_ble_eq_true rfl) (Nat.le_of_ble_eq_true rfl)
        · refine X_push (v := .int 260) rfl (by decide +kernel) ?_
          refine X_goto rfl ?_
          exact X_iret rfl rfl ⟨rfl, congrArg (fun q => some (Value.int q)) (show _ = z_ky z by unfold z_ky; rw [if_neg (fun q => c3 (y_cmp0.mpr q)), if_neg (fun q => c17 (y_cmp0.mpr q)), if_neg (fun q => c31 (y_cmp0.mpr q)), if_pos (y_cmp0.mp c45)])⟩ (Nat.le_of_ble_eq_true rfl) (Nat.le_of_ble_eq_true rfl)
      · refine X_push (v := .int 259) rfl (by decide +kernel) ?_
        exact X_iret rfl rfl ⟨rfl, congrArg (fun q => some (Value.int q)) (show _ = z_ky z by unfold z_ky; rw [if_neg (fun q => c3 (y_cmp0.mpr q)), if_neg (fun q => c17 (y_cmp0.mpr q)), if_pos (y_cmp0.mp c31)])⟩ (Nat.le_of_ble_eq_true rfl) (Nat.le_of_ble_eq_true rfl)
    · refine X_push (v := .int 258) rfl (by decide +kernel) ?_
      exact X_iret rfl rfl ⟨rfl, congrArg (fun q => some (Value.int q)) (show _ = z_ky z by unfold z_ky; rw [if_neg (fun q => c3 (y_cmp0.mpr q)), if_pos (y_cmp0.mp c17)])⟩ (Nat.le_of_ble_eq_true rfl) (Nat.le_of_ble_eq_true rfl)
  · refine X_push (v := .int 261) rfl (by decide +kernel) ?_
    exact X_iret rfl rfl ⟨rfl, congrArg (fun q => some (Value.int q)) (show _ = z_ky z by unfold z_ky; rw [if_pos (y_cmp0.mp c3)])⟩ (Nat.le_of_ble_eq_true rfl) (Nat.le_of_ble_eq_true rfl)
def updL (f : Nat → Int64) (k : Nat) (x : Int64) : Nat → Int64 := fun i => if i = k then x else f i
section TK
variable {B : XH} {J bf K tk ts : Nat → Int32} {tl : Int64} {tv : Nat → Int64} {su : Nat → Nat} {D : Nat → Nat → Int32} {k : Nat} {x : Int32} {z : Int64}
theorem c_T : cset B J bf K tk ts tl tv su D 66 = some (.inl (8, tO K tl)) := rfl
theorem c_tk : cset B J bf K tk ts tl tv su D 67 = some (.inr (true, .int, 801, fun j => .int (tk j))) := rfl
theorem c_ts : cset B J bf K tk ts tl tv su D 68 = some (.inr (true, .int, 801, fun j => .int (ts j))) := rfl
theorem c_tv : cset B J bf K tk ts tl tv su D 69 = some (.inr (true, .long, 801, fun j => .long (tv j))) := rfl
theorem tO_upd (hk : ∀ K : Nat → Int32, tO K tl k = .int (K k)) : updV (tO K tl) k (.int x) = tO (upd K k x) tl := by
  funext j
  unfold updV
  by_cases h : j = k
  · rw [if_pos h, h, hk, updI_eq]
  · rw [if_neg h]
    exact match j, h with
      | 0, _ => rfl
      | 1, _ => rfl
      | 2, _ => rfl
      | 3, h => congrArg Value.int (updI_ne h).symm
      | 4, h => congrArg Value.int (updI_ne h).symm
      | 5, h => congrArg Value.int (updI_ne h).symm
      | 6, h => congrArg Value.int (updI_ne h).symm
      | 7, _ => rfl
      | j + 8, h => congrArg Value.int (updI_ne h).symm
theorem tO_updl : updV (tO K tl) 7 (.long z) = tO K z := by
  funext j
  exact match j with
    | 0 => rfl
    | 1 => rfl
    | 2 => rfl
    | 3 => rfl
    | 4 => rfl
    | 5 => rfl
    | 6 => rfl
    | 7 => rfl
    | j + 8 => rfl
theorem w_T (hk : ∀ K : Nat → Int32, tO K tl k = .int (K k)) : x_set (cset B J bf K tk ts tl tv su D) 66 (.inl (8, updV (tO K tl) k (.int x))) = cset B J bf (upd K k x) tk ts tl tv su D := by
  funext z
  unfold x_set
  by_cases h : z = 66
  · rw [if_pos h, h, tO_upd hk]
    rfl
  · rw [if_neg h]
    unfold cset
    rw [beq_ne h]
    rfl
theorem w_Tl : x_set (cset B J bf K tk ts tl tv su D) 66 (.inl (8, updV (tO K tl) 7 (.long z))) = cset B J bf K tk ts z tv su D := by
  funext y
  unfold x_set
  by_cases h : y = 66
  · rw [if_pos h, h, tO_updl]
    rfl
  · rw [if_neg h]
    unfold cset
    rw [beq_ne h]
    rfl
theorem w_tk : x_set (cset B J bf K tk ts tl tv su D) 67 (.inr (true, .int, 801, updV (fun j => .int (tk j)) k (.int x))) = cset B J bf K (upd tk k x) ts tl tv su D := by
  rw [updV_int]
  funext z
  unfold x_set
  by_cases h : z = 67
  · rw [if_pos h, h]
    rfl
  · rw [if_neg h]
    unfold cset
    rw [beq_ne h]
    rfl
theorem w_ts : x_set (cset B J bf K tk ts tl tv su D) 68 (.inr (true, .int, 801, updV (fun j => .int (ts j)) k (.int x))) = cset B J bf K tk (upd ts k x) tl tv su D := by
  rw [updV_int]
  funext z
  unfold x_set
  by_cases h : z = 68
  · rw [if_pos h, h]
    rfl
  · rw [if_neg h]
    unfold cset
    rw [beq_ne h]
    rfl
theorem updV_long {f : Nat → Int64} : updV (fun j => Value.long (f j)) k (.long z) = fun j => .long (updL f k z j) := by
  funext j
  unfold updV updL
  by_cases hj : j = k
  · rw [if_pos hj, if_pos hj]
  · rw [if_neg hj, if_neg hj]
theorem w_tv : x_set (cset B J bf K tk ts tl tv su D) 69 (.inr (true, .long, 801, updV (fun j => .long (tv j)) k (.long z))) = cset B J bf K tk ts tl (updL tv k z) su D := by
  rw [updV_long]
  funext y
  unfold x_set
  by_cases h : y = 69
  · rw [if_pos h, h]
    rfl
  · rw [if_neg h]
    unfold cset
    rw [beq_ne h]
    rfl
end TK
theorem p_isWord {G : XE} (hG : x_Kn G) (hK : x_KS G) {B : XH} {J bf K tk ts : Nat → Int32} {tl : Int64} {tv : Nat → Int64} {su : Nat → Nat} {D : Nat → Nat → Int32} (d : Nat) (i : Nat) (hi : 13 ≤ i ∧ i < 26) : x_M G mX8_isWord (d + 5) 0 0 [.ref 66, .ref (4 + i)] (cset B J bf K tk ts tl tv su D) (x_Ret (cset B J bf K tk ts tl tv su D) (.int (bI (K 5 = 257 ∧ tl = y_nw i)))) x_noX := by
  refine X_M hG okX8_isWord rfl (L := [some (.ref 66), some (.ref (4 + i))]) rfl (Nat.le_of_ble_eq_true rfl) (fun ad0 nb0 => ?_)
  refine X_ld rfl rfl rfl rfl ?_
  refine X_get f_X8_22 rfl c_T rfl ?_
  refine X_push (v := .int 257) rfl (by decide +kernel) ?_
  refine X_icmp_ne rfl (fun c7 => ?_) (fun c7 => ?_)
  · refine X_push (v := .int 0) rfl (by decide +kernel) ?_
    exact X_zret rfl rfl (by decide) ⟨rfl, by rw [bI_f (fun q => c7 q.1)]⟩ (Nat.le_of_ble_eq_true rfl) (Nat.le_of_ble_eq_true rfl)
  · refine X_ld rfl rfl rfl rfl ?_
    refine X_get f_X8_77 rfl c_T rfl ?_
    refine X_ld rfl rfl rfl rfl ?_
    refine X_sncall l_X8_X10_nameOf (p_nameOf hG hK d i hi) rfl rfl rfl (Nat.le_of_ble_eq_true rfl) (Nat.le_of_ble_eq_true rfl) (by omega) (Nat.le_of_ble_eq_true rfl) (Nat.le_of_ble_eq_true rfl) ?_
    refine X_bin rfl rfl ?_
    refine X_if_ne rfl (fun c19 => ?_) (fun c19 => ?_)
    · refine X_push (v := .int 0) rfl (by decide +kernel) ?_
      exact X_zret rfl rfl (by decide) ⟨rfl, by rw [bI_f (fun q => c19 (y_cmp0.mpr q.2))]⟩ (Nat.le_of_ble_eq_true rfl) (Nat.le_of_ble_eq_true rfl)
    · refine X_push (v := .int 1) rfl (by decide +kernel) ?_
      refine X_goto rfl ?_
      exact X_zret rfl rfl (by decide) ⟨rfl, by rw [bI_t ⟨c7, y_cmp0.mp c19⟩]⟩ (Nat.le_of_ble_eq_true rfl) (Nat.le_of_ble_eq_true rfl)
/-- the next token, where there is one -/
def y_adK (K tk ts : Nat → Int32) (c j : Nat) : Nat → Int32 := if j < c then upd (upd (upd K 5 (tk j)) 6 (ts j)) 4 (nI (j + 1)) else upd K 5 256
def y_adl (tl : Int64) (tv : Nat → Int64) (c j : Nat) : Int64 := if j < c then tv j else tl
theorem p_advance {G : XE} (hG : x_Kn G) {B : XH} {J bf K tk ts : Nat → Int32} {tl : Int64} {tv : Nat → Int64} {su : Nat → Nat} {D : Nat → Nat → Int32} (d : Nat) {c j : Nat} (hc : K 3 = nI c) (hj : K 4 = nI j) (hc8 : c ≤ 801) (hj8 : j ≤ 801) : x_M G mX8_advance d 0 0 [.ref 66] (cset B J bf K tk ts tl tv su D) (x_RetV (cset B J bf (y_adK K tk ts c j) tk ts (y_adl tl tv c j) tv su D)) x_noX := by
  refine X_M hG okX8_advance rfl (L := [some (.ref 66)]) rfl (Nat.le_of_ble_eq_true rfl) (fun ad0 nb0 => ?_)
  refine X_ld rfl rfl rfl rfl ?_
  refine X_get f_X8_29 rfl c_T (v := .int (nI j)) (congrArg Value.int (show K 4 = nI j by exact hj)) ?_
  refine X_if_lt rfl (fun c4 => absurd ((n_lt (b := 0) rfl (show (0 : Int32) = nI 0 from rfl) (by omega) (by omega)).mp c4) (by omega)) (fun c4 => ?_)
  refine X_ld rfl rfl rfl rfl ?_
  refine X_get f_X8_29 rfl c_T (v := .int (nI j)) (congrArg Value.int (show K 4 = nI j by exact hj)) ?_
  refine X_ld rfl rfl rfl rfl ?_
  refine X_get f_X8_26 rfl c_T (v := .int (nI c)) (congrArg Value.int hc) ?_
  refine X_icmp_ge rfl (fun c15 => ?_) (fun c15 => ?_)
  · have n15 := (n_le rfl rfl (by omega) (by omega)).mp c15
    refine X_ld rfl rfl rfl rfl ?_
    refine X_push (v := .int 256) rfl (by decide +kernel) ?_
    refine X_put f_X8_22 rfl c_T ⟨rfl, rfl⟩ ?_
    refine X_heap (w_T (k := 5) (fun _ => rfl)) ?_
    exact X_vret rfl rfl ⟨by unfold y_adK y_adl; rw [if_neg (by omega), if_neg (by omega)], rfl⟩ (Nat.le_of_ble_eq_true rfl) (Nat.le_of_ble_eq_true rfl)
  · have n15 := mt (n_le (x := nI c) (y := nI j) rfl rfl (by omega) (by omega)).mpr c15
    refine X_ld rfl rfl rfl rfl ?_
    refine X_ld rfl rfl rfl rfl ?_
    refine X_get f_X8_9 rfl c_T rfl ?_
    refine X_ld rfl rfl rfl rfl ?_
    refine X_get f_X8_29 rfl c_T (v := .int (nI j)) (congrArg Value.int (show K 4 = nI j by exact hj)) ?_
    refine X_iald rfl c_tk (vp_in_nI (by omega) (by omega)) (v := .int (tk j)) (by rw [nI_clamp (by omega)]) ?_
    refine X_put f_X8_22 rfl c_T ⟨rfl, rfl⟩ ?_
    refine X_heap (w_T (k := 5) (fun _ => rfl)) ?_
    refine X_ld rfl rfl rfl rfl ?_
    refine X_ld rfl rfl rfl rfl ?_
    refine X_get f_X8_15 rfl c_T rfl ?_
    refine X_ld rfl rfl rfl rfl ?_
    refine X_get f_X8_29 rfl c_T (v := .int (nI j)) (congrArg Value.int (show (upd K 5 (tk j)) 4 = nI j by rw [updI_ne (by decide)]; exact hj)) ?_
    refine X_iald rfl c_ts (vp_in_nI (by omega) (by omega)) (v := .int (ts j)) (by rw [nI_clamp (by omega)]) ?_
    refine X_put f_X8_74 rfl c_T ⟨rfl, rfl⟩ ?_
    refine X_heap (w_T (k := 6) (fun _ => rfl)) ?_
    refine X_ld rfl rfl rfl rfl ?_
    refine X_ld rfl rfl rfl rfl ?_
    refine X_get f_X8_18 rfl c_T rfl ?_
    refine X_ld rfl rfl rfl rfl ?_
    refine X_get f_X8_29 rfl c_T (v := .int (nI j)) (congrArg Value.int (show (upd (upd K 5 (tk j)) 6 (ts j)) 4 = nI j by rw [updI_ne (by decide), updI_ne (by decide)]; exact hj)) ?_
    refine X_lald rfl c_tv (vp_in_nI (by omega) (by omega)) (v := .long (tv j)) (by rw [nI_clamp (by omega)]) ?_
    refine X_put f_X8_77 rfl c_T ⟨rfl, rfl⟩ ?_
    refine X_heap w_Tl ?_
    refine X_ld rfl rfl rfl rfl ?_
    refine X_dup rfl rfl ?_
    refine X_get f_X8_29 rfl c_T (v := .int (nI j)) (congrArg Value.int (show (upd (upd K 5 (tk j)) 6 (ts j)) 4 = nI j by rw [updI_ne (by decide), updI_ne (by decide)]; exact hj)) ?_
    refine X_push (v := .int 1) rfl (by decide +kernel) ?_
    refine X_bin rfl rfl ?_
    refine X_put f_X8_29 rfl c_T ⟨rfl, rfl⟩ ?_
    refine X_heap (w_T (k := 4) (fun _ => rfl)) ?_
    refine X_goto rfl ?_
    exact X_vret rfl rfl ⟨by unfold y_adK y_adl; rw [if_pos (by omega), if_pos (by omega), show nI j + 1 = nI (j + 1) from m_add (b := 1) rfl rfl], rfl⟩ (Nat.le_of_ble_eq_true rfl) (Nat.le_of_ble_eq_true rfl)
theorem p_add {G : XE} (hG : x_Kn G) {B : XH} {J bf K tk ts : Nat → Int32} {tl : Int64} {tv : Nat → Int64} {su : Nat → Nat} {D : Nat → Nat → Int32} (d : Nat) {c : Nat} (hc : K 3 = nI c) (hc8 : c ≤ 800) {x y : Int32} {z : Int64} : x_M G mX8_add d 0 0 [.ref 66, .int x, .int y, .long z] (cset B J bf K tk ts tl tv su D) (x_RetV (cset B J bf (upd K 3 (nI (c + 1))) (upd tk c x) (upd ts c y) tl (updL tv c z) su D)) x_noX := by
  refine X_M hG okX8_add rfl (L := [some (.ref 66), some (.int x), some (.int y), some (.long z), none]) rfl (Nat.le_of_ble_eq_true rfl) (fun ad0 nb0 => ?_)
  refine X_ld rfl rfl rfl rfl ?_
  refine X_get f_X8_26 rfl c_T (v := .int (nI c)) (congrArg Value.int hc) ?_
  refine X_push (v := .int 800) rfl (by decide +kernel) ?_
  refine X_icmp_gt rfl (fun c7 => absurd ((n_lt (show (800 : Int32) = nI 800 from rfl) rfl (by omega) (by omega)).mp c7) (by omega)) (fun c7 => ?_)
  refine X_ld rfl rfl rfl rfl ?_
  refine X_get f_X8_9 rfl c_T rfl ?_
  refine X_ld rfl rfl rfl rfl ?_
  refine X_get f_X8_26 rfl c_T (v := .int (nI c)) (congrArg Value.int hc) ?_
  refine X_ld rfl rfl rfl rfl ?_
  refine X_iast rfl c_tk (vp_in_nI (by omega) (by omega)) ?_
  refine X_heap (N' := cset B J bf K (upd tk c x) ts tl tv su D) (by rw [nI_clamp (by omega)]; exact w_tk) ?_
  refine X_ld rfl rfl rfl rfl ?_
  refine X_get f_X8_15 rfl c_T rfl ?_
  refine X_ld rfl rfl rfl rfl ?_
  refine X_get f_X8_26 rfl c_T (v := .int (nI c)) (congrArg Value.int hc) ?_
  refine X_ld rfl rfl rfl rfl ?_
  refine X_iast rfl c_ts (vp_in_nI (by omega) (by omega)) ?_
  refine X_heap (N' := cset B J bf K (upd tk c x) (upd ts c y) tl tv su D) (by rw [nI_clamp (by omega)]; exact w_ts) ?_
  refine X_ld rfl rfl rfl rfl ?_
  refine X_get f_X8_18 rfl c_T rfl ?_
  refine X_ld rfl rfl rfl rfl ?_
  refine X_get f_X8_26 rfl c_T (v := .int (nI c)) (congrArg Value.int hc) ?_
  refine X_ld rfl rfl rfl rfl ?_
  refine X_last rfl c_tv (vp_in_nI (by omega) (by omega)) ?_
  refine X_heap (N' := cset B J bf K (upd tk c x) (upd ts c y) tl (updL tv c z) su D) (by rw [nI_clamp (by omega)]; exact w_tv) ?_
  refine X_ld rfl rfl rfl rfl ?_
  refine X_dup rfl rfl ?_
  refine X_get f_X8_26 rfl c_T (v := .int (nI c)) (congrArg Value.int hc) ?_
  refine X_push (v := .int 1) rfl (by decide +kernel) ?_
  refine X_bin rfl rfl ?_
  refine X_put f_X8_26 rfl c_T ⟨rfl, rfl⟩ ?_
  refine X_heap (w_T (k := 3) (fun _ => rfl)) ?_
  exact X_vret rfl rfl ⟨by rw [show nI c + 1 = nI (c + 1) from m_add (b := 1) rfl rfl], rfl⟩ (Nat.le_of_ble_eq_true rfl) (Nat.le_of_ble_eq_true rfl)

