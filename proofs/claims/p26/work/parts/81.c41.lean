/-! ===== the class: a text is split into tokens ===== -/
theorem y_byte : ∀ m, m < 256 → (s_let ((nI m).toInt8.toInt32) ↔ s_let (nI m)) ∧ (s_dig ((nI m).toInt8.toInt32) ↔ s_dig (nI m)) ∧ ((nI m).toInt8.toInt32 = 32 ↔ nI m = 32) ∧ (nI m).toInt8.toInt32 &&& 255 = nI m ∧ (s_let (nI m) → (nI m).toInt8.toInt32 = nI m) ∧ (s_dig (nI m) → (nI m).toInt8.toInt32 = nI m) := by decide +kernel
section YB
variable {tx bf : Nat → Int32} {n j : Nat}
theorem y_blet (h : s_rtx tx bf n) (hj : j < n) : s_let (bf j) ↔ s_let (tx j) := by
  obtain ⟨m, h1, h2, h3⟩ := h j hj
  rw [h2, h3]; exact (y_byte m h1).1
theorem y_bdig (h : s_rtx tx bf n) (hj : j < n) : s_dig (bf j) ↔ s_dig (tx j) := by
  obtain ⟨m, h1, h2, h3⟩ := h j hj
  rw [h2, h3]; exact (y_byte m h1).2.1
theorem y_bsp (h : s_rtx tx bf n) (hj : j < n) : bf j = 32 ↔ tx j = 32 := by
  obtain ⟨m, h1, h2, h3⟩ := h j hj
  rw [h2, h3]; exact (y_byte m h1).2.2.1
theorem y_band (h : s_rtx tx bf n) (hj : j < n) : bf j &&& 255 = tx j := by
  obtain ⟨m, h1, h2, h3⟩ := h j hj
  rw [h2, h3]; exact (y_byte m h1).2.2.2.1
theorem y_bl (h : s_rtx tx bf n) (hj : j < n) (hl : s_let (tx j)) : bf j = tx j := by
  obtain ⟨m, h1, h2, h3⟩ := h j hj
  rw [h2] at hl ⊢; rw [h3]; exact (y_byte m h1).2.2.2.2.1 hl
theorem y_bd (h : s_rtx tx bf n) (hj : j < n) (hl : s_dig (tx j)) : bf j = tx j := by
  obtain ⟨m, h1, h2, h3⟩ := h j hj
  rw [h2] at hl ⊢; rw [h3]; exact (y_byte m h1).2.2.2.2.2 hl
end YB
/-- a number's digits from q, as the class counts them -/
def z_cn (bf : Nat → Int32) (q : Nat) : Nat → Int32
  | 0 => 0
  | k + 1 => x_min (10 * z_cn bf q k + bf (q + k) - 48) 10000
/-- the end of the token at q -/
def z_te (tx : Nat → Int32) (n q : Nat) : Nat := if q < n then (if s_let (tx q) then l_run l_lt tx n q else if s_dig (tx q) then l_run l_dg tx n q else q + 1) else n
def z_tk (bf tx : Nat → Int32) (n q : Nat) : Int32 := if q < n then (if s_let (tx q) then z_ky (s_nin bf q (l_run l_lt tx n q)) else if s_dig (tx q) then 262 else tx q) else 256
def z_tv (bf tx : Nat → Int32) (n q : Nat) : Int64 := if q < n then (if s_let (tx q) then s_nin bf q (l_run l_lt tx n q) else if s_dig (tx q) then (z_cn bf q (l_run l_dg tx n q - q)).toInt64 else 0) else 0
/-- where the tokens begin -/
def z_ps (tx : Nat → Int32) (n : Nat) : Nat → Nat
  | 0 => l_sk tx n 0
  | i + 1 => l_sk tx n (z_te tx n (z_ps tx n i))
/-- the first c tokens are written -/
def z_fst (bf tx : Nat → Int32) (n : Nat) (tk ts : Nat → Int32) (tv : Nat → Int64) (c : Nat) : Prop := ∀ i, i < c → tk i = z_tk bf tx n (z_ps tx n i) ∧ ts i = nI (z_ps tx n i) ∧ tv i = z_tv bf tx n (z_ps tx n i)
theorem z_fst_add {bf tx : Nat → Int32} {n : Nat} {tk ts : Nat → Int32} {tv : Nat → Int64} {c : Nat} (h : z_fst bf tx n tk ts tv c) : z_fst bf tx n (upd tk c (z_tk bf tx n (z_ps tx n c))) (upd ts c (nI (z_ps tx n c))) (updL tv c (z_tv bf tx n (z_ps tx n c))) (c + 1) := fun i hi => by
  by_cases e : i = c
  · subst e
    exact ⟨updI_eq, updI_eq, if_pos rfl⟩
  · rw [updI_ne e, updI_ne e, show updL tv c _ i = tv i from if_neg e]
    exact h i (by omega)
theorem l_run_lt1 {P : Int32 → Bool} {tx : Nat → Int32} {n p : Nat} (h : p < n) (hP : P (tx p) = true) : p < l_run P tx n p := by
  rw [l_run_y h hP]
  exact (l_run_le (P := P) (tx := tx) (show p + 1 ≤ n by omega)).1
theorem z_te_gt {tx : Nat → Int32} {n q : Nat} (h : q < n) : q < z_te tx n q ∧ z_te tx n q ≤ n := by
  unfold z_te
  rw [if_pos h]
  by_cases h1 : s_let (tx q)
  · rw [if_pos h1]
    exact ⟨l_run_lt1 h (decide_eq_true h1), (l_run_le (by omega)).2⟩
  · rw [if_neg h1]
    by_cases h2 : s_dig (tx q)
    · rw [if_pos h2]
      exact ⟨l_run_lt1 h (decide_eq_true h2), (l_run_le (by omega)).2⟩
    · rw [if_neg h2]; omega
theorem p_addWord {G : XE} (hG : x_Kn G) (hK : x_KS G) {B : XH} {J bf K tk ts : Nat → Int32} {tl : Int64} {tv : Nat → Int64} {su : Nat → Nat} {D : Nat → Nat → Int32} (d : Nat) {tx : Nat → Int32} {n p c : Nat} (hr : s_rtx tx bf n) (hn8 : n ≤ 800) (hp : p < n) (hc : K 3 = nI c) (hc8 : c ≤ 800) : x_M G mX8_addWord (d + 6) 0 0 [.ref 66, .ref 65, .int (nI p), .int (nI n)] (cset B J bf K tk ts tl tv su D) (x_Ret (cset B J bf (upd K 3 (nI (c + 1))) (upd tk c (z_ky (s_nin bf p (l_run l_lt tx n p)))) (upd ts c (nI p)) tl (updL tv c (s_nin bf p (l_run l_lt tx n p))) su D) (.int (nI (l_run l_lt tx n p)))) x_noX := by
  refine X_M hG okX8_addWord rfl (L := [some (.ref 66), some (.ref 65), some (.int (nI p)), some (.int (nI n)), none, none, none]) rfl (Nat.le_of_ble_eq_true rfl) (fun ad0 nb0 => ?_)
  have hle := l_run_le (P := l_lt) (tx := tx) (show p ≤ n by omega)
  have done : x_W G mX8_addWord (x_Z G (d + 6) 0 0 ad0 nb0 (x_Ret (cset B J bf (upd K 3 (nI (c + 1))) (upd tk c (z_ky (s_nin bf p (l_run l_lt tx n p)))) (upd ts c (nI p)) tl (updL tv c (s_nin bf p (l_run l_lt tx n p))) su D) (.int (nI (l_run l_lt tx n p)))) x_noX) (cset B J bf K tk ts tl tv su D) 0 0 32 [some (.ref 66), some (.ref 65), some (.int (nI p)), some (.int (nI n)), some (.int (nI (l_run l_lt tx n p))), none, none] [] := by
    refine X_loc (L' := [some (.ref 66), some (.ref 65), some (.int (nI p)), some (.int (nI n)), some (.int (nI (l_run l_lt tx n p))), none, none]) ⟨rfl, rfl, rfl, rfl, rfl, trivial⟩ ?_
    refine X_ld rfl rfl rfl rfl ?_
    refine X_ld rfl rfl rfl rfl ?_
    refine X_ld rfl rfl rfl rfl ?_
    refine X_sncall l_X8_X10_nameIn (p_nameIn hG (d + 4) c_BF p (l_run l_lt tx n p) (by omega) (by omega) (by omega) rfl rfl) rfl rfl rfl (Nat.le_of_ble_eq_true rfl) (Nat.le_of_ble_eq_true rfl) (by omega) (Nat.le_of_ble_eq_true rfl) (Nat.le_of_ble_eq_true rfl) ?_
    refine X_stl rfl rfl rfl ?_
    refine X_ld rfl rfl rfl rfl ?_
    refine X_ld rfl rfl rfl rfl ?_
    refine X_scall l_X8_X8_kindOf (p_kindOf hG hK d) rfl rfl rfl (Nat.le_of_ble_eq_true rfl) (Nat.le_of_ble_eq_true rfl) (by omega) (Nat.le_of_ble_eq_true rfl) (Nat.le_of_ble_eq_true rfl) ?_
    refine X_ld rfl rfl rfl rfl ?_
    refine X_ld rfl rfl rfl rfl ?_
    refine X_vcallv c_T l_X8_X8_add (p_add hG (d + 5) hc hc8) rfl rfl rfl rfl (Nat.le_of_ble_eq_true rfl) (Nat.le_of_ble_eq_true rfl) (by omega) (Nat.le_of_ble_eq_true rfl) (Nat.le_of_ble_eq_true rfl) ?_
    refine X_ld rfl rfl rfl rfl ?_
    exact X_iret rfl rfl ⟨rfl, rfl⟩ (Nat.le_of_ble_eq_true rfl) (Nat.le_of_ble_eq_true rfl)
  have loop : ∀ (f9 k : Nat), k + f9 = n → p ≤ k → l_run l_lt tx n k = (l_run l_lt tx n p) → x_W G mX8_addWord (x_Z G (d + 6) 0 0 ad0 nb0 (x_Ret (cset B J bf (upd K 3 (nI (c + 1))) (upd tk c (z_ky (s_nin bf p (l_run l_lt tx n p)))) (upd ts c (nI p)) tl (updL tv c (s_nin bf p (l_run l_lt tx n p))) su D) (.int (nI (l_run l_lt tx n p)))) x_noX) (cset B J bf K tk ts tl tv su D) 0 0 3 [some (.ref 66), some (.ref 65), some (.int (nI p)), some (.int (nI n)), some (.int (nI k)), none, none] [] := by
    intro f9
    induction f9 with
    | zero =>
      intro k e0 hpk hk
      obtain e9 : k = n := by omega
      have e3 : (l_run l_lt tx n p) = k := by rw [← hk, e9]; exact l_run_ge (Nat.le_refl _)
      refine X_ld rfl rfl rfl rfl ?_
      refine X_ld rfl rfl rfl rfl ?_
      refine X_icmp_ge rfl (fun c6 => ?_) (fun c6 => absurd (by rw [e9]; exact Int32.le_refl _) c6)
      exact X_loc (L' := [some (.ref 66), some (.ref 65), some (.int (nI p)), some (.int (nI n)), some (.int (nI (l_run l_lt tx n p))), none, none]) ⟨rfl, rfl, rfl, rfl, congrArg Value.int (congrArg nI e3), trivial⟩ done
    | succ f9 ih =>
      intro k e0 hpk hk
      refine X_ld rfl rfl rfl rfl ?_
      refine X_ld rfl rfl rfl rfl ?_
      refine X_icmp_ge rfl (fun c6 => absurd ((n_le rfl rfl (by omega) (by omega)).mp c6) (by omega)) (fun c6 => ?_)
      refine X_ld rfl rfl rfl rfl ?_
      refine X_ld rfl rfl rfl rfl ?_
      refine X_alen rfl c_BF ?_
      refine X_icmp_ge rfl (fun c13 => absurd ((n_le (x := Int32.ofNat 800) (a := 800) rfl rfl (by omega) (by omega)).mp c13) (by omega)) (fun c13 => ?_)
      refine X_ld rfl rfl rfl rfl ?_
      refine X_ld rfl rfl rfl rfl ?_
      refine X_bald rfl c_BF (vp_in_nI (by omega) (by omega)) (v := .int (bf k)) (by rw [nI_clamp (by omega)]) ?_
      refine X_sncall l_X8_X10_isLetter (p_isLetter hG (d + 4)) rfl rfl rfl (Nat.le_of_ble_eq_true rfl) (Nat.le_of_ble_eq_true rfl) (by omega) (Nat.le_of_ble_eq_true rfl) (Nat.le_of_ble_eq_true rfl) ?_
      refine X_if_eq rfl (fun c23 => ?_) (fun c23 => ?_)
      · have hnl : ¬ s_let (tx k) := fun q => bI_ne.mpr ((y_blet hr (by omega)).mpr q) c23
        have e3 : (l_run l_lt tx n p) = k := by rw [← hk]; exact l_run_n (by omega) (decide_eq_false hnl)
        exact X_loc (L' := [some (.ref 66), some (.ref 65), some (.int (nI p)), some (.int (nI n)), some (.int (nI (l_run l_lt tx n p))), none, none]) ⟨rfl, rfl, rfl, rfl, congrArg Value.int (congrArg nI e3), trivial⟩ done
      · have hyl : s_let (tx k) := (y_blet hr (by omega)).mp (bI_ne.mp c23)
        refine X_iinc rfl rfl rfl ?_
        refine X_goto rfl ?_
        refine X_loc (L' := [some (.ref 66), some (.ref 65), some (.int (nI p)), some (.int (nI n)), some (.int (nI (k + 1))), none, none]) ⟨rfl, rfl, rfl, rfl, congrArg Value.int (m_inc rfl).symm, trivial⟩ ?_
        exact ih (k + 1) (by omega) (by omega) (by rw [← hk]; exact (l_run_y (by omega) (decide_eq_true hyl)).symm)
  refine X_ld rfl rfl rfl rfl ?_
  refine X_st rfl rfl rfl ?_
  refine X_loc (L' := [some (.ref 66), some (.ref 65), some (.int (nI p)), some (.int (nI n)), some (.int (nI p)), none, none]) ⟨rfl, rfl, rfl, rfl, rfl, trivial⟩ ?_
  exact loop (n - p) p (by omega) (Nat.le_refl _) rfl
theorem p_addNumber {G : XE} (hG : x_Kn G) {B : XH} {J bf K tk ts : Nat → Int32} {tl : Int64} {tv : Nat → Int64} {su : Nat → Nat} {D : Nat → Nat → Int32} (d : Nat) {tx : Nat → Int32} {n p c : Nat} (hr : s_rtx tx bf n) (hn8 : n ≤ 800) (hp : p < n) (hc : K 3 = nI c) (hc8 : c ≤ 800) : x_M G mX8_addNumber (d + 1) 0 0 [.ref 66, .ref 65, .int (nI p), .int (nI n)] (cset B J bf K tk ts tl tv su D) (x_Ret (cset B J bf (upd K 3 (nI (c + 1))) (upd tk c 262) (upd ts c (nI p)) tl (updL tv c (z_cn bf p ((l_run l_dg tx n p) - p)).toInt64) su D) (.int (nI (l_run l_dg tx n p)))) x_noX := by
  refine X_M hG okX8_addNumber rfl (L := [some (.ref 66), some (.ref 65), some (.int (nI p)), some (.int (nI n)), none, none]) rfl (Nat.le_of_ble_eq_true rfl) (fun ad0 nb0 => ?_)
  have hle := l_run_le (P := l_dg) (tx := tx) (show p ≤ n by omega)
  have done : x_W G mX8_addNumber (x_Z G (d + 1) 0 0 ad0 nb0 (x_Ret (cset B J bf (upd K 3 (nI (c + 1))) (upd tk c 262) (upd ts c (nI p)) tl (updL tv c (z_cn bf p ((l_run l_dg tx n p) - p)).toInt64) su D) (.int (nI (l_run l_dg tx n p)))) x_noX) (cset B J bf K tk ts tl tv su D) 0 0 56 [some (.ref 66), some (.ref 65), some (.int (nI p)), some (.int (nI n)), some (.int (nI (l_run l_dg tx n p))), some (.int (z_cn bf p ((l_run l_dg tx n p) - p)))] [] := by
    refine X_ld rfl rfl rfl rfl ?_
    refine X_push (v := .int 262) rfl (by decide +kernel) ?_
    refine X_ld rfl rfl rfl rfl ?_
    refine X_ld rfl rfl rfl rfl ?_
    refine X_un rfl rfl ?_
    refine X_vcallv c_T l_X8_X8_add (p_add hG d hc hc8) rfl rfl rfl rfl (Nat.le_of_ble_eq_true rfl) (Nat.le_of_ble_eq_true rfl) (by omega) (Nat.le_of_ble_eq_true rfl) (Nat.le_of_ble_eq_true rfl) ?_
    refine X_ld rfl rfl rfl rfl ?_
    exact X_iret rfl rfl ⟨rfl, rfl⟩ (Nat.le_of_ble_eq_true rfl) (Nat.le_of_ble_eq_true rfl)
  have loop : ∀ (f9 k : Nat), k + f9 = n → p ≤ k → l_run l_dg tx n k = (l_run l_dg tx n p) → x_W G mX8_addNumber (x_Z G (d + 1) 0 0 ad0 nb0 (x_Ret (cset B J bf (upd K 3 (nI (c + 1))) (upd tk c 262) (upd ts c (nI p)) tl (updL tv c (z_cn bf p ((l_run l_dg tx n p) - p)).toInt64) su D) (.int (nI (l_run l_dg tx n p)))) x_noX) (cset B J bf K tk ts tl tv su D) 0 0 6 [some (.ref 66), some (.ref 65), some (.int (nI p)), some (.int (nI n)), some (.int (nI k)), some (.int (z_cn bf p (k - p)))] [] := by
    intro f9
    induction f9 with
    | zero =>
      intro k e0 hpk hk
      obtain e9 : k = n := by omega
      have e3 : (l_run l_dg tx n p) = k := by rw [← hk, e9]; exact l_run_ge (Nat.le_refl _)
      refine X_ld rfl rfl rfl rfl ?_
      refine X_ld rfl rfl rfl rfl ?_
      refine X_icmp_ge rfl (fun c6 => ?_) (fun c6 => absurd (by rw [e9]; exact Int32.le_refl _) c6)
      exact X_loc (L' := [some (.ref 66), some (.ref 65), some (.int (nI p)), some (.int (nI n)), some (.int (nI (l_run l_dg tx n p))), some (.int (z_cn bf p ((l_run l_dg tx n p) - p)))]) ⟨rfl, rfl, rfl, rfl, congrArg Value.int (congrArg nI e3), congrArg Value.int (by rw [e3]), trivial⟩ done
    | succ f9 ih =>
      intro k e0 hpk hk
      refine X_ld rfl rfl rfl rfl ?_
      refine X_ld rfl rfl rfl rfl ?_
      refine X_icmp_ge rfl (fun c6 => absurd ((n_le rfl rfl (by omega) (by omega)).mp c6) (by omega)) (fun c6 => ?_)
      refine X_ld rfl rfl rfl rfl ?_
      refine X_ld rfl rfl rfl rfl ?_
      refine X_alen rfl c_BF ?_
      refine X_icmp_ge rfl (fun c13 => absurd ((n_le (x := Int32.ofNat 800) (a := 800) rfl rfl (by omega) (by omega)).mp c13) (by omega)) (fun c13 => ?_)
      refine X_ld rfl rfl rfl rfl ?_
      refine X_ld rfl rfl rfl rfl ?_
      refine X_bald rfl c_BF (vp_in_nI (by omega) (by omega)) (v := .int (bf k)) (by rw [nI_clamp (by omega)]) ?_
      refine X_sncall l_X8_X10_isDigit (p_isDigit hG d) rfl rfl rfl (Nat.le_of_ble_eq_true rfl) (Nat.le_of_ble_eq_true rfl) (by omega) (Nat.le_of_ble_eq_true rfl) (Nat.le_of_ble_eq_true rfl) ?_
      refine X_if_eq rfl (fun c23 => ?_) (fun c23 => ?_)
      · have hnl : ¬ s_dig (tx k) := fun q => bI_ne.mpr ((y_bdig hr (by omega)).mpr q) c23
        have e3 : (l_run l_dg tx n p) = k := by rw [← hk]; exact l_run_n (by omega) (decide_eq_false hnl)
        exact X_loc (L' := [some (.ref 66), some (.ref 65), some (.int (nI p)), some (.int (nI n)), some (.int (nI (l_run l_dg tx n p))), some (.int (z_cn bf p ((l_run l_dg tx n p) - p)))]) ⟨rfl, rfl, rfl, rfl, congrArg Value.int (congrArg nI e3), congrArg Value.int (by rw [e3]), trivial⟩ done
      · have hyl : s_dig (tx k) := (y_bdig hr (by omega)).mp (bI_ne.mp c23)
        refine X_push (v := .int 10) rfl (by decide +kernel) ?_
        refine X_ld rfl rfl rfl rfl ?_
        refine X_bin rfl rfl ?_
        refine X_ld rfl rfl rfl rfl ?_
        refine X_ld rfl rfl rfl rfl ?_
        refine X_bald rfl c_BF (vp_in_nI (by omega) (by omega)) (v := .int (bf k)) (by rw [nI_clamp (by omega)]) ?_
        refine X_bin rfl rfl ?_
        refine X_push (v := .int 48) rfl (by decide +kernel) ?_
        refine X_bin rfl rfl ?_
        refine X_push (v := .int 10000) rfl (by decide +kernel) ?_
        refine X_min lmin_X8 rfl (by omega) (Nat.le_of_ble_eq_true rfl) (Nat.le_of_ble_eq_true rfl) (Nat.le_of_ble_eq_true rfl) ?_
        refine X_st rfl rfl rfl ?_
        refine X_iinc rfl rfl rfl ?_
        refine X_goto rfl ?_
        refine X_loc (L' := [some (.ref 66), some (.ref 65), some (.int (nI p)), some (.int (nI n)), some (.int (nI (k + 1))), some (.int (z_cn bf p ((k + 1) - p)))]) ⟨rfl, rfl, rfl, rfl, congrArg Value.int (m_inc rfl).symm, congrArg Value.int (by rw [show k + 1 - p = (k - p) + 1 by omega]; show x_min (10 * _ + bf (p + (k - p)) - 48) 10000 = _; rw [show p + (k - p) = k by omega]), trivial⟩ ?_
        exact ih (k + 1) (by omega) (by omega) (by rw [← hk]; exact (l_run_y (by omega) (decide_eq_true hyl)).symm)
  refine X_ld rfl rfl rfl rfl ?_
  refine X_st rfl rfl rfl ?_
  refine X_push (v := .int 0) rfl (by decide +kernel) ?_
  refine X_st rfl rfl rfl ?_
  refine X_loc (L' := [some (.ref 66), some (.ref 65), some (.int (nI p)), some (.int (nI n)), some (.int (nI p)), some (.int (z_cn bf p (p - p)))]) ⟨rfl, rfl, rfl, rfl, rfl, congrArg Value.int (by rw [Nat.sub_self]; rfl), trivial⟩ ?_
  exact loop (n - p) p (by omega) (Nat.le_refl _) rfl
/-- a text that is split: c tokens, the last one the end -/
def z_split (bf tx : Nat → Int32) (n : Nat) (tk ts : Nat → Int32) (tv : Nat → Int64) (c : Nat) : Prop := (1 ≤ c ∧ c ≤ n + 1) ∧ z_ps tx n (c - 1) = n ∧ (∀ i, i + 1 < c → z_ps tx n i < n) ∧ z_fst bf tx n tk ts tv c
def x_QSp (B : XH) (J bf K tx : Nat → Int32) (n : Nat) (tl : Int64) (su : Nat → Nat) (D : Nat → Nat → Int32) : XH → Option Value → Prop := fun N r => ∃ (c : Nat) (tk ts : Nat → Int32) (tv : Nat → Int64), z_split bf tx n tk ts tv c ∧ N = cset B J bf (upd (upd K 4 0) 3 (nI c)) tk ts tl tv su D ∧ r = none
theorem p_split {G : XE} (hG : x_Kn G) (hK : x_KS G) {B : XH} {J bf K tk ts : Nat → Int32} {tl : Int64} {tv : Nat → Int64} {su : Nat → Nat} {D : Nat → Nat → Int32} (d : Nat) {tx : Nat → Int32} {n : Nat} (hr : s_rtx tx bf n) (hn8 : n ≤ 800) : x_M G mX8_split (d + 7) 0 0 [.ref 66, .ref 65, .int (nI n)] (cset B J bf K tk ts tl tv su D) (x_QSp B J bf K tx n tl su D) x_noX := by
  refine X_M hG okX8_split rfl (L := [some (.ref 66), some (.ref 65), some (.int (nI n)), none, none]) rfl (Nat.le_of_ble_eq_true rfl) (fun ad0 nb0 => ?_)
  have done : ∀ (c q : Nat) (tk ts : Nat → Int32) (tv : Nat → Int64), c ≤ n → z_ps tx n c = n → (∀ i, i < c → z_ps tx n i < n) → z_fst bf tx n tk ts tv c → x_W G mX8_split (x_Z G (d + 7) 0 0 ad0 nb0 (x_QSp B J bf K tx n tl su D) x_noX) (cset B J bf (upd (upd K 4 0) 3 (nI c)) tk ts tl tv su D) 0 0 110 [some (.ref 66), some (.ref 65), some (.int (nI n)), some (.int (nI n)), some (.int (nI q))] [] := by
    intro c q tk ts tv hcn hz hlt hf
    refine X_ld rfl rfl rfl rfl ?_
    refine X_push (v := .int 256) rfl (by decide +kernel) ?_
    refine X_ld rfl rfl rfl rfl ?_
    refine X_push (v := .long 0) rfl (by decide +kernel) ?_
    refine X_vcallv c_T l_X8_X8_add (p_add hG (d + 6) (c := c) updI_eq (by omega)) rfl rfl rfl rfl (Nat.le_of_ble_eq_true rfl) (Nat.le_of_ble_eq_true rfl) (by omega) (Nat.le_of_ble_eq_true rfl) (Nat.le_of_ble_eq_true rfl) ?_
    have hf2 := z_fst_add hf
    rw [hz, show z_tk bf tx n n = 256 from if_neg (Nat.lt_irrefl _), show z_tv bf tx n n = 0 from if_neg (Nat.lt_irrefl _)] at hf2
    exact X_vret rfl rfl ⟨c + 1, _, _, _, ⟨⟨by omega, by omega⟩, hz, fun i hi => hlt i (by omega), hf2⟩, by rw [upd_upd], rfl⟩ (Nat.le_of_ble_eq_true rfl) (Nat.le_of_ble_eq_true rfl)
  have loop : ∀ (f9 p q c : Nat) (tk ts : Nat → Int32) (tv : Nat → Int64), n - p ≤ f9 → p ≤ n → q ≤ p → c ≤ p → z_ps tx n c = l_sk tx n p → (∀ i, i < c → z_ps tx n i < n) → z_fst bf tx n tk ts tv c → x_W G mX8_split (x_Z G (d + 7) 0 0 ad0 nb0 (x_QSp B J bf K tx n tl su D) x_noX) (cset B J bf (upd (upd K 4 0) 3 (nI c)) tk ts tl tv su D) 0 0 15 [some (.ref 66), some (.ref 65), some (.int (nI n)), some (.int (nI p)), some (.int (nI q))] [] := by
    intro f9
    induction f9 with
    | zero =>
      intro p q c tk ts tv hfu hpn hqp hcp hz hlt hf
      obtain rfl : p = n := by omega
      have hz2 : z_ps tx p c = p := hz.trans (l_run_ge (Nat.le_refl _))
      refine X_ld rfl rfl rfl rfl ?_
      refine X_push (v := .int 800) rfl (by decide +kernel) ?_
      refine X_icmp_ge rfl (fun c20 => done c q tk ts tv hcp hz2 hlt hf) (fun c20 => ?_)
      refine X_ld rfl rfl rfl rfl ?_
      refine X_ld rfl rfl rfl rfl ?_
      refine X_icmp_ge rfl (fun c25 => done c q tk ts tv hcp hz2 hlt hf) (fun c25 => absurd (Int32.le_refl _) c25)
    | succ f9 ih =>
      intro p q c tk ts tv hfu hpn hqp hcp hz hlt hf
      by_cases hpe : p = n
      · subst hpe
        have hz2 : z_ps tx p c = p := hz.trans (l_run_ge (Nat.le_refl _))
        refine X_ld rfl rfl rfl rfl ?_
        refine X_push (v := .int 800) rfl (by decide +kernel) ?_
        refine X_icmp_ge rfl (fun c20 => done c q tk ts tv hcp hz2 hlt hf) (fun c20 => ?_)
        refine X_ld rfl rfl rfl rfl ?_
        refine X_ld rfl rfl rfl rfl ?_
        refine X_icmp_ge rfl (fun c25 => done c q tk ts tv hcp hz2 hlt hf) (fun c25 => absurd (Int32.le_refl _) c25)
      · refine X_ld rfl rfl rfl rfl ?_
        refine X_push (v := .int 800) rfl (by decide +kernel) ?_
        refine X_icmp_ge rfl (fun c20 => absurd ((n_le (show (800 : Int32) = nI 800 from rfl) rfl (by omega) (by omega)).mp c20) (by omega)) (fun c20 => ?_)
        refine X_ld rfl rfl rfl rfl ?_
        refine X_ld rfl rfl rfl rfl ?_
        refine X_icmp_ge rfl (fun c25 => absurd ((n_le rfl rfl (by omega) (by omega)).mp c25) (by omega)) (fun c25 => ?_)
        refine X_ld rfl rfl rfl rfl ?_
        refine X_ld rfl rfl rfl rfl ?_
        refine X_alen rfl c_BF ?_
        refine X_icmp_ge rfl (fun c31 => absurd ((n_le (x := Int32.ofNat 800) (a := 800) rfl rfl (by omega) (by omega)).mp c31) (by omega)) (fun c31 => ?_)
        refine X_ld rfl rfl rfl rfl ?_
        refine X_ld rfl rfl rfl rfl ?_
        refine X_bald rfl c_BF (vp_in_nI (by omega) (by omega)) (v := .int (bf p)) (by rw [nI_clamp (by omega)]) ?_
        refine X_push (v := .int 32) rfl (by decide +kernel) ?_
        refine X_icmp_ne rfl (fun c39 => ?_) (fun c39 => ?_)
        · have hsp : ¬ tx p = 32 := fun z => c39 ((y_bsp hr (by omega)).mpr z)
          have hsk : l_sk tx n p = p := l_run_n (by omega) (decide_eq_false hsp)
          rw [hsk] at hz
          have hzl : ∀ i, i < c + 1 → z_ps tx n i < n := fun i hi => by
            by_cases e : i = c
            · rw [e, hz]; omega
            · exact hlt i (by omega)
          have hf2 := z_fst_add hf
          rw [hz] at hf2
          have hte := z_te_gt (tx := tx) (show p < n by omega)
          have hzs : z_ps tx n (c + 1) = l_sk tx n (z_te tx n p) := by show l_sk tx n (z_te tx n (z_ps tx n c)) = _; rw [hz]
          refine X_ld rfl rfl rfl rfl ?_
          refine X_ld rfl rfl rfl rfl ?_
          refine X_bald rfl c_BF (vp_in_nI (by omega) (by omega)) (v := .int (bf p)) (by rw [nI_clamp (by omega)]) ?_
          refine X_sncall l_X8_X10_isLetter (p_isLetter hG (d + 6)) rfl rfl rfl (Nat.le_of_ble_eq_true rfl) (Nat.le_of_ble_eq_true rfl) (by omega) (Nat.le_of_ble_eq_true rfl) (Nat.le_of_ble_eq_true rfl) ?_
          refine X_if_eq rfl (fun c54 => ?_) (fun c54 => ?_)
          · have hnl : ¬ s_let (tx p) := fun z => bI_ne.mpr ((y_blet hr (by omega)).mpr z) c54
            refine X_ld rfl rfl rfl rfl ?_
            refine X_ld rfl rfl rfl rfl ?_
            refine X_bald rfl c_BF (vp_in_nI (by omega) (by omega)) (v := .int (bf p)) (by rw [nI_clamp (by omega)]) ?_
            refine X_sncall l_X8_X10_isDigit (p_isDigit hG (d + 6)) rfl rfl rfl (Nat.le_of_ble_eq_true rfl) (Nat.le_of_ble_eq_true rfl) (by omega) (Nat.le_of_ble_eq_true rfl) (Nat.le_of_ble_eq_true rfl) ?_
            refine X_if_eq rfl (fun c74 => ?_) (fun c74 => ?_)
            · have hnd : ¬ s_dig (tx p) := fun z => bI_ne.mpr ((y_bdig hr (by omega)).mpr z) c74
              have e9 : z_te tx n p = p + 1 := by unfold z_te; rw [if_pos (show p < n by omega), if_neg hnl, if_neg hnd]
              rw [show z_tk bf tx n p = tx p from by unfold z_tk; rw [if_pos (show p < n by omega), if_neg hnl, if_neg hnd], show z_tv bf tx n p = 0 from by unfold z_tv; rw [if_pos (show p < n by omega), if_neg hnl, if_neg hnd]] at hf2
              refine X_ld rfl rfl rfl rfl ?_
              refine X_ld rfl rfl rfl rfl ?_
              refine X_ld rfl rfl rfl rfl ?_
              refine X_bald rfl c_BF (vp_in_nI (by omega) (by omega)) (v := .int (bf p)) (by rw [nI_clamp (by omega)]) ?_
              refine X_push (v := .int 255) rfl (by decide +kernel) ?_
              refine X_bin rfl rfl ?_
              refine X_stk (st' := [.int (tx p), .ref 66]) (congrArg (fun z => [Value.int z, .ref 66]) (y_band hr (by omega))) ?_
              refine X_ld rfl rfl rfl rfl ?_
              refine X_push (v := .long 0) rfl (by decide +kernel) ?_
              refine X_vcallv c_T l_X8_X8_add (p_add hG (d + 6) (c := c) updI_eq (by omega)) rfl rfl rfl rfl (Nat.le_of_ble_eq_true rfl) (Nat.le_of_ble_eq_true rfl) (by omega) (Nat.le_of_ble_eq_true rfl) (Nat.le_of_ble_eq_true rfl) ?_
              refine X_heap (N' := cset B J bf (upd (upd K 4 0) 3 (nI (c + 1))) _ _ tl _ su D) (by rw [upd_upd]) ?_
              refine X_iinc rfl rfl rfl ?_
              refine X_iinc rfl rfl rfl ?_
              refine X_goto rfl ?_
              refine X_loc (L' := [some (.ref 66), some (.ref 65), some (.int (nI n)), some (.int (nI (p + 1))), some (.int (nI (q + 1)))]) ⟨rfl, rfl, rfl, congrArg Value.int (m_inc rfl).symm, congrArg Value.int (m_inc rfl).symm, trivial⟩ ?_
              exact ih (p + 1) (q + 1) (c + 1) _ _ _ (by omega) (by omega) (by omega) (by omega) (by rw [hzs, e9]) hzl hf2
            · have hyd : s_dig (tx p) := (y_bdig hr (by omega)).mp (bI_ne.mp c74)
              have e9 : z_te tx n p = l_run l_dg tx n p := by unfold z_te; rw [if_pos (show p < n by omega), if_neg hnl, if_pos hyd]
              rw [show z_tk bf tx n p = 262 from by unfold z_tk; rw [if_pos (show p < n by omega), if_neg hnl, if_pos hyd], show z_tv bf tx n p = (z_cn bf p (l_run l_dg tx n p - p)).toInt64 from by unfold z_tv; rw [if_pos (show p < n by omega), if_neg hnl, if_pos hyd]] at hf2
              rw [e9] at hte
              refine X_ld rfl rfl rfl rfl ?_
              refine X_ld rfl rfl rfl rfl ?_
              refine X_ld rfl rfl rfl rfl ?_
              refine X_ld rfl rfl rfl rfl ?_
              refine X_vcall c_T l_X8_X8_addNumber (p_addNumber hG (d + 5) hr hn8 (by omega) (c := c) updI_eq (by omega)) rfl rfl rfl rfl (Nat.le_of_ble_eq_true rfl) (Nat.le_of_ble_eq_true rfl) (by omega) (Nat.le_of_ble_eq_true rfl) (Nat.le_of_ble_eq_true rfl) ?_
              refine X_heap (N' := cset B J bf (upd (upd K 4 0) 3 (nI (c + 1))) _ _ tl _ su D) (by rw [upd_upd]) ?_
              refine X_st rfl rfl rfl ?_
              refine X_goto rfl ?_
              refine X_iinc rfl rfl rfl ?_
              refine X_goto rfl ?_
              refine X_loc (L' := [some (.ref 66), some (.ref 65), some (.int (nI n)), some (.int (nI (l_run l_dg tx n p))), some (.int (nI (q + 1)))]) ⟨rfl, rfl, rfl, rfl, congrArg Value.int (m_inc rfl).symm, trivial⟩ ?_
              exact ih (l_run l_dg tx n p) (q + 1) (c + 1) _ _ _ (by omega) (by omega) (by omega) (by omega) (by rw [hzs, e9]) hzl hf2
          · have hyl : s_let (tx p) := (y_blet hr (by omega)).mp (bI_ne.mp c54)
            have e9 : z_te tx n p = l_run l_lt tx n p := by unfold z_te; rw [if_pos (show p < n by omega), if_pos hyl]
            rw [show z_tk bf tx n p = z_ky (s_nin bf p (l_run l_lt tx n p)) from by unfold z_tk; rw [if_pos (show p < n by omega), if_pos hyl], show z_tv bf tx n p = s_nin bf p (l_run l_lt tx n p) from by unfold z_tv; rw [if_pos (show p < n by omega), if_pos hyl]] at hf2
            rw [e9] at hte
            refine X_ld rfl rfl rfl rfl ?_
            refine X_ld rfl rfl rfl rfl ?_
            refine X_ld rfl rfl rfl rfl ?_
            refine X_ld rfl rfl rfl rfl ?_
            refine X_vcall c_T l_X8_X8_addWord (p_addWord hG hK d hr hn8 (by omega) (c := c) updI_eq (by omega)) rfl rfl rfl rfl (Nat.le_of_ble_eq_true rfl) (Nat.le_of_ble_eq_true rfl) (by omega) (Nat.le_of_ble_eq_true rfl) (Nat.le_of_ble_eq_true rfl) ?_
            refine X_heap (N' := cset B J bf (upd (upd K 4 0) 3 (nI (c + 1))) _ _ tl _ su D) (by rw [upd_upd]) ?_
            refine X_st rfl rfl rfl ?_
            refine X_goto rfl ?_
            refine X_iinc rfl rfl rfl ?_
            refine X_goto rfl ?_
            refine X_loc (L' := [some (.ref 66), some (.ref 65), some (.int (nI n)), some (.int (nI (l_run l_lt tx n p))), some (.int (nI (q + 1)))]) ⟨rfl, rfl, rfl, rfl, congrArg Value.int (m_inc rfl).symm, trivial⟩ ?_
            exact ih (l_run l_lt tx n p) (q + 1) (c + 1) _ _ _ (by omega) (by omega) (by omega) (by omega) (by rw [hzs, e9]) hzl hf2
        · have hsk : l_sk tx n p = l_sk tx n (p + 1) := l_run_y (by omega) (decide_eq_true ((y_bsp hr (by omega)).mp c39))
          refine X_iinc rfl rfl rfl ?_
          refine X_goto rfl ?_
          refine X_iinc rfl rfl rfl ?_
          refine X_goto rfl ?_
          refine X_loc (L' := [some (.ref 66), some (.ref 65), some (.int (nI n)), some (.int (nI (p + 1))), some (.int (nI (q + 1)))]) ⟨rfl, rfl, rfl, congrArg Value.int (m_inc rfl).symm, congrArg Value.int (m_inc rfl).symm, trivial⟩ ?_
          exact ih (p + 1) (q + 1) c tk ts tv (by omega) (by omega) (by omega) (by omega) (hz.trans hsk) hlt hf
  refine X_ld rfl rfl rfl rfl ?_
  refine X_push (v := .int 0) rfl (by decide +kernel) ?_
  refine X_put f_X8_26 rfl c_T ⟨rfl, rfl⟩ ?_
  refine X_heap (w_T (k := 3) (fun _ => rfl)) ?_
  refine X_ld rfl rfl rfl rfl ?_
  refine X_push (v := .int 0) rfl (by decide +kernel) ?_
  refine X_put f_X8_29 rfl c_T ⟨rfl, rfl⟩ ?_
  refine X_heap (w_T (k := 4) (fun _ => rfl)) ?_
  refine X_heap (N' := cset B J bf (upd (upd K 4 0) 3 (nI 0)) tk ts tl tv su D) (by rw [s_upd_comm 3 4 (by decide)]; rfl) ?_
  refine X_push (v := .int 0) rfl (by decide +kernel) ?_
  refine X_st rfl rfl rfl ?_
  refine X_push (v := .int 0) rfl (by decide +kernel) ?_
  refine X_st rfl rfl rfl ?_
  refine X_loc (L' := [some (.ref 66), some (.ref 65), some (.int (nI n)), some (.int (nI 0)), some (.int (nI 0))]) ⟨rfl, rfl, rfl, rfl, rfl, trivial⟩ ?_
  exact loop n 0 0 0 tk ts tv (by omega) (Nat.zero_le _) (Nat.le_refl _) (Nat.le_refl _) rfl (fun i hi => absurd hi (Nat.not_lt_zero _)) (fun i hi => absurd hi (Nat.not_lt_zero _))

