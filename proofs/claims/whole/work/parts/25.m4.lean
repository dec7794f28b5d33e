/-! ===== the reference: the calls that change rows ===== -/
def updR (S : Nat → Nat → Int32) (w : Nat) (c : Nat → Int32) : Nat → Nat → Int32 := fun i => if i = w then c else S i
theorem updR_eq {S : Nat → Nat → Int32} {w : Nat} {c : Nat → Int32} : updR S w c w = c := if_pos rfl
theorem updR_ne {S : Nat → Nat → Int32} {w i : Nat} {c : Nat → Int32} (h : i ≠ w) : updR S w c i = S i := if_neg h
theorem updR_self {S : Nat → Nat → Int32} {w : Nat} : S = updR S w (S w) := by
  funext i
  unfold updR
  by_cases h : i = w
  · rw [if_pos h, h]
  · rw [if_neg h]
theorem updR_updR {S : Nat → Nat → Int32} {w : Nat} {c c' : Nat → Int32} : updR (updR S w c) w c' = updR S w c' := by
  funext i
  unfold updR
  by_cases h : i = w
  · rw [if_pos h, if_pos h]
  · rw [if_neg h, if_neg h, if_neg h]
/-- an entry of the row at hand is set -/
theorem X_row {G : XE} {M : XMI} {Z : XZ} {cells slots pc : Nat} {L : List (Option Value)} {st : List Value} {B : XH} {I : Nat → Int32} {T : Int64} {S S0 : Nat → Nat → Int32} {rd tx gv pl : Nat → Int32} {w k : Nat} {x : Int32} {c : Nat → Int32} (f : S = updR S0 w c) (c1 : Nat → Int32) (hc : upd c k x = c1)
    (kk : ∀ S1, S1 w = c1 → S1 = updR S0 w c1 → x_W G M Z (mset B I T S1 rd tx gv pl) cells slots pc L st) : x_W G M Z (mset B I T (updS S w k x) rd tx gv pl) cells slots pc L st := by
  have e : updS S w k x = updR S0 w c1 := by
    have e1 : updS S w k x = updR S w (upd (S w) k x) := rfl
    rw [e1, f, updR_eq, hc, updR_updR]
  exact kk _ (by rw [e, updR_eq]) e
/-- the row at hand, by name -/
theorem X_rowN {G : XE} {M : XMI} {Z : XZ} {cells slots pc : Nat} {L : List (Option Value)} {st : List Value} {B : XH} {I : Nat → Int32} {T : Int64} {S0 : Nat → Nat → Int32} {rd tx gv pl : Nat → Int32} {w : Nat} {c1 : Nat → Int32}
    (kk : ∀ S1, S1 w = c1 → S1 = updR S0 w c1 → x_W G M Z (mset B I T S1 rd tx gv pl) cells slots pc L st) : x_W G M Z (mset B I T (updR S0 w c1) rd tx gv pl) cells slots pc L st :=
  kk _ updR_eq rfl
def s_nx (w : Nat) : Nat := (w + 1) % 9
def s_u8 (u : Nat) : Nat := if u < 8 then u + 1 else u
theorem s_nx_lt {w : Nat} : s_nx w < 9 := Nat.mod_lt _ (by decide)
theorem s_nx_ne {w : Nat} (h : w < 9) : w ≠ s_nx w := by unfold s_nx; omega
theorem m_rem {x : Int32} {a b : Nat} (hx : x = nI a) (ha : a < 2147483648) (h0 : 0 < b) (hb : b < 2147483648) : x - x / nI b * nI b = nI (a % b) := by
  rw [hx]
  exact pk_rem ha h0 hb
def s_cp (S : Nat → Nat → Int32) (w k : Nat) : Nat → Nat → Int32 := updR S (s_nx w) (fun j => if j < k then S w j else S (s_nx w) j)
theorem s_cp_0 {S : Nat → Nat → Int32} {w : Nat} : S = s_cp S w 0 := by
  unfold s_cp
  exact updR_self.trans (congrArg (updR S (s_nx w)) (by funext j; rw [if_neg (Nat.not_lt_zero j)]))
theorem s_cp_w {S : Nat → Nat → Int32} {w k : Nat} (h : w < 9) : s_cp S w k w = S w := updR_ne (s_nx_ne h)
theorem s_cp_1 {S : Nat → Nat → Int32} {w k : Nat} : updS (s_cp S w k) (s_nx w) k (S w k) = s_cp S w (k + 1) := by
  show updR (s_cp S w k) (s_nx w) (upd (s_cp S w k (s_nx w)) k (S w k)) = _
  unfold s_cp
  rw [updR_updR, updR_eq]
  congr 1
  funext j
  unfold upd
  by_cases h : j = k
  · rw [if_pos h, if_pos (by omega), h]
  · rw [if_neg h]
    show (if j < k then S w j else S (s_nx w) j) = _
    by_cases h2 : j < k
    · rw [if_pos h2, if_pos (by omega)]
    · rw [if_neg h2, if_neg (by omega)]
theorem X_rowE {G : XE} {M : XMI} {Z : XZ} {cells slots pc : Nat} {L : List (Option Value)} {st : List Value} {B : XH} {I : Nat → Int32} {T : Int64} {S : Nat → Nat → Int32} {rd tx gv pl : Nat → Int32} {w : Nat} (kk : x_W G M Z (mset B I T (updR S (s_nx w) (S w)) rd tx gv pl) cells slots pc L st) : x_W G M Z (mset B I T (s_cp S w 2400) rd tx gv pl) cells slots pc L st := by
  refine X_arre (a := 276) (mu := true) (ty := .int) (n := 21600) (f := fun j => .int (s_cp S w 2400 (j / 2400) (j % 2400))) (f' := fun j => .int (updR S (s_nx w) (S w) (j / 2400) (j % 2400))) rfl (fun j hj => ?_) ?_
  · have hm : j % 2400 < 2400 := Nat.mod_lt _ (by decide)
    unfold s_cp updR
    by_cases h : j / 2400 = s_nx w
    · rw [if_pos h, if_pos h, if_pos hm]
    · rw [if_neg h, if_neg h]
  · have e : x_set (mset B I T (s_cp S w 2400) rd tx gv pl) 276 (.inr (true, .int, 21600, fun j => .int (updR S (s_nx w) (S w) (j / 2400) (j % 2400)))) = mset B I T (updR S (s_nx w) (S w)) rd tx gv pl := by
      funext j
      unfold x_set
      by_cases hj : j = 276
      · rw [if_pos hj, hj]; rfl
      · rw [if_neg hj]
        unfold mset
        rw [beq_ne hj]
        rfl
    rw [e]
    exact kk
/-- the reference's numbers after a change -/
abbrev s_ch (I : Nat → Int32) (w u : Nat) : Nat → Int32 := upd (upd I 3 (nI (s_nx w))) 4 (nI (s_u8 u))
theorem c_change {G : XE} (hG : x_Kn G) {B : XH} {I : Nat → Int32} {T : Int64} {S : Nat → Nat → Int32} {rd tx gv pl : Nat → Int32} (d : Nat) (w : Nat) (hw : I 3 = nI w) (hw9 : w < 9) (u : Nat) (hu : I 4 = nI u) (hu8 : u ≤ 8) : x_M G mX11_change d 0 0 [.ref 275] (mset B I T S rd tx gv pl) (x_RetV (mset B (s_ch I w u) T (updR S (s_nx w) (S w)) rd tx gv pl)) x_noX := by
  refine X_M hG okX11_change rfl (L := [some (.ref 275), none, none]) rfl (Nat.le_of_ble_eq_true rfl) (fun ad0 nb0 => ?_)
  have loop : x_W G mX11_change (x_Z G d 0 0 ad0 nb0 (x_RetV (mset B (s_ch I w u) T (updR S (s_nx w) (S w)) rd tx gv pl)) x_noX) (mset B I T (s_cp S w 2400) rd tx gv pl) 0 0 52 [some (.ref 275), some (.int (nI (s_nx w))), some (.int (nI 2400))] [] → ∀ (f9 k : Nat), k + f9 = 2400 → x_W G mX11_change (x_Z G d 0 0 ad0 nb0 (x_RetV (mset B (s_ch I w u) T (updR S (s_nx w) (S w)) rd tx gv pl)) x_noX) (mset B I T (s_cp S w k) rd tx gv pl) 0 0 12 [some (.ref 275), some (.int (nI (s_nx w))), some (.int (nI k))] [] := by
    intro K f9
    induction f9 with
    | zero =>
      intro k e0 
      obtain rfl : k = 2400 := by omega
      refine X_ld rfl rfl rfl rfl ?_
      refine X_push (v := .int 2400) rfl (by decide +kernel) ?_
      refine X_icmp_ge rfl (fun c16 => ?_) (fun c16 => absurd ((n_le (a := 2400) (show (2400 : Int32) = nI 2400 from rfl) rfl (by omega) (by omega)).mpr (by omega)) c16)
      exact K
    | succ f9 ih =>
      intro k e0 
      refine X_ld rfl rfl rfl rfl ?_
      refine X_push (v := .int 2400) rfl (by decide +kernel) ?_
      refine X_icmp_ge rfl (fun c16 => absurd ((n_le (a := 2400) (show (2400 : Int32) = nI 2400 from rfl) rfl (by omega) (by omega)).mp c16) (by omega)) (fun c16 => ?_)
      refine X_ld rfl rfl rfl rfl ?_
      refine X_get f_X11_7 rfl rfl rfl ?_
      refine X_push (v := .int 2400) rfl (by decide +kernel) ?_
      refine X_ld rfl rfl rfl rfl ?_
      refine X_bin rfl rfl ?_
      refine X_ld rfl rfl rfl rfl ?_
      refine X_bin rfl rfl ?_
      refine X_ld rfl rfl rfl rfl ?_
      refine X_get f_X11_7 rfl rfl rfl ?_
      refine X_push (v := .int 2400) rfl (by decide +kernel) ?_
      refine X_ld rfl rfl rfl rfl ?_
      refine X_get f_X11_40 rfl rfl rfl ?_
      refine X_bin rfl rfl ?_
      refine X_ld rfl rfl rfl rfl ?_
      refine X_bin rfl rfl ?_
      refine X_mSld w k (m_ix hw rfl) hw9 (by omega) rfl ?_
      refine X_stk (congrArg (fun q => Value.int (q k) :: _) (s_cp_w hw9)) ?_
      refine X_mSst (s_nx w) k ((congrArg (· + nI k) (m_mulc (a := 2400) (b := s_nx w) rfl)).trans (nI_add _ _)) s_nx_lt (by omega) rfl ?_
      refine X_heap (N' := mset B I T (s_cp S w (k + 1)) rd tx gv pl) (by rw [s_cp_1]) ?_
      refine X_iinc rfl rfl rfl ?_
      refine X_goto rfl ?_
      refine X_loc (L' := [some (.ref 275), some (.int (nI (s_nx w))), some (.int (nI (k + 1)))]) ⟨rfl, rfl, congrArg Value.int (m_inc rfl).symm, trivial⟩ ?_
      exact ih (k + 1) (by omega)
  refine X_ld rfl rfl rfl rfl ?_
  refine X_get f_X11_40 rfl rfl rfl ?_
  refine X_push (v := .int 1) rfl (by decide +kernel) ?_
  refine X_bin rfl rfl ?_
  refine X_push (v := .int 9) rfl (by decide +kernel) ?_
  refine X_irem rfl (by decide) ?_
  refine X_st rfl rfl rfl ?_
  refine X_push (v := .int 0) rfl (by decide +kernel) ?_
  refine X_st rfl rfl rfl ?_
  refine X_heap (N' := mset B I T (s_cp S w 0) rd tx gv pl) (by rw [← s_cp_0]) ?_
  refine X_loc (L' := [some (.ref 275), some (.int (nI (s_nx w))), some (.int (nI 0))]) ⟨rfl, congrArg Value.int (m_rem (a := w + 1) (b := 9) (m_add (b := 1) hw rfl) (by omega) (by decide) (by decide)).symm, rfl, trivial⟩ ?_
  refine loop ?_ _ 0 (Nat.zero_add _)
  refine X_rowE ?_
  refine X_ld rfl rfl rfl rfl ?_
  refine X_ld rfl rfl rfl rfl ?_
  refine X_mput f_X11_40 rfl rfl ?_
  refine X_ld rfl rfl rfl rfl ?_
  refine X_ld rfl rfl rfl rfl ?_
  refine X_get f_X11_43 rfl rfl rfl ?_
  refine X_push (v := .int 8) rfl (by decide +kernel) ?_
  refine X_icmp_ge rfl (fun c64 => ?_) (fun c64 => ?_)
  · have n64 := (n_le (a := 8) (show (8 : Int32) = nI 8 from rfl) (show upd I 3 (nI (s_nx w)) 4 = nI u by rw [updI_ne (by decide)]; exact hu) (by omega) (by omega)).mp c64
    refine X_ld rfl rfl rfl rfl ?_
    refine X_get f_X11_43 rfl rfl rfl ?_
    refine X_mput f_X11_43 rfl rfl ?_
    exact X_vret rfl rfl ⟨by unfold s_ch s_u8; rw [if_neg (Nat.not_lt.mpr n64), (show upd I 3 (nI (s_nx w)) 4 = nI u by rw [updI_ne (by decide)]; exact hu)], rfl⟩ (Nat.le_of_ble_eq_true rfl) (Nat.le_of_ble_eq_true rfl)
  · have n64 := mt (n_le (a := 8) (show (8 : Int32) = nI 8 from rfl) (show upd I 3 (nI (s_nx w)) 4 = nI u by rw [updI_ne (by decide)]; exact hu) (by omega) (by omega)).mpr c64
    refine X_ld rfl rfl rfl rfl ?_
    refine X_get f_X11_43 rfl rfl rfl ?_
    refine X_push (v := .int 1) rfl (by decide +kernel) ?_
    refine X_bin rfl rfl ?_
    refine X_goto rfl ?_
    refine X_mput f_X11_43 rfl rfl ?_
    exact X_vret rfl rfl ⟨by unfold s_ch s_u8; rw [if_pos (Nat.not_le.mp n64), (show upd I 3 (nI (s_nx w)) 4 + 1 = nI (u + 1) from m_add (b := 1) (show upd I 3 (nI (s_nx w)) 4 = nI u by rw [updI_ne (by decide)]; exact hu) rfl)], rfl⟩ (Nat.le_of_ble_eq_true rfl) (Nat.le_of_ble_eq_true rfl)
/-- two rows that agree but for what runs leave -/
def s_agF (c c' : Nat → Int32) : Prop := ∀ k, (k < 275 ∨ 455 ≤ k ∨ (17 ≤ (k - 275) % 30 ∧ (k - 275) % 30 < 21) ∨ 26 ≤ (k - 275) % 30) → c k = c' k
/-- and but for the percentages -/
def s_agr (c c' : Nat → Int32) : Prop := ∀ k, (k < 275 ∨ 455 ≤ k ∨ 17 ≤ (k - 275) % 30) → c k = c' k
theorem s_agr.F {c c' : Nat → Int32} (h : s_agr c c') : s_agF c c' := fun k hk => h k (by omega)
theorem s_agr_rfl {c : Nat → Int32} : s_agr c c := fun _ _ => rfl
theorem s_agF_upd {c c' : Nat → Int32} {k : Nat} {v : Int32} (h : s_agF c c') (hk : ¬ (k < 275 ∨ 455 ≤ k ∨ (17 ≤ (k - 275) % 30 ∧ (k - 275) % 30 < 21) ∨ 26 ≤ (k - 275) % 30)) : s_agF c (upd c' k v) := fun i hi => by
  rw [updI_ne (fun e => hk (by rw [← e]; exact hi))]; exact h i hi
theorem s_agr_upd {c c' : Nat → Int32} {k : Nat} {v : Int32} (h : s_agr c c') (hk : ¬ (k < 275 ∨ 455 ≤ k ∨ 17 ≤ (k - 275) % 30)) : s_agr c (upd c' k v) := fun i hi => by
  rw [updI_ne (fun e => hk (by rw [← e]; exact hi))]; exact h i hi
section
variable {c c' gv : Nat → Int32} {s k j l : Nat} {v : Int32} {z : Bool}
theorem s_agF.cod (h : s_agF c c') (k x : Nat) : s_cod c k x = s_cod c' k x := h _ (by omega)
theorem s_agF.col (h : s_agF c c') {j x : Nat} (hj : j < 5) (hx : x < 13) : s_col c j x = s_col c' j x := h _ (by omega)
theorem s_agF.val (h : s_agF c c') {l j : Nat} (hl : l < 40) (hj : j < 5) : s_val c l j = s_val c' l j := h _ (by omega)
theorem s_agF.from (h : s_agF c c') : s_from c s = s_from c' s := by unfold s_from; rw [show s_st c s 26 = s_st c' s 26 from h _ (by omega)]
theorem s_agF.to (h : s_agF c c') : s_to c s = s_to c' s := by unfold s_to; rw [show s_st c s 27 = s_st c' s 27 from h _ (by omega)]
theorem s_agF.seen (h : s_agF c c') (hj : j < 5) : s_seen c k j v = s_seen c' k j v := by
  unfold s_seen
  rw [h.cod k 2, h.col hj (x := 10) (by omega), h.col hj (x := 11) (by omega), h.col hj (x := 12) (by omega), h 8 (by omega)]
theorem s_agF.est (h : s_agF c c') (he : s_eok c k) : s_est c gv k z = s_est c' gv k z := by
  obtain ⟨j, hj, hof, -⟩ := he
  have ej : (s_cod c k 1).toNatClampNeg = j := by rw [hof]; exact nI_clamp (by omega)
  unfold s_est s_est0
  rw [← h.cod k 1, ej, h 8 (by omega), h.cod k 2, h.cod k 3, h.cod k 4, h.col hj (x := 10) (by omega)]
  repeat rw [h.seen hj]
theorem s_agF.chos (h : s_agF c c') {col : Int32} {f : Nat} : ∀ n, f + n < 325 → (∀ k, f ≤ k → k < f + n → s_cod c k 0 = 0 → s_eok c k) → s_chos c gv col z f n = s_chos c' gv col z f n := by
  intro n
  induction n with
  | zero => intro _ _; rfl
  | succ n ih0 =>
    intro hn hk
    have ih := ih0 (by omega) (fun k h1 h2 => hk k h1 (by omega))
    show s_pick c gv col z (f + n) (s_chos c gv col z f n) = s_pick c' gv col z (f + n) (s_chos c' gv col z f n)
    rw [← ih]
    unfold s_pick
    rw [h.cod (f + n) 0, h.cod (f + n) 5, h.cod (f + n) 1]
    by_cases h0 : s_cod c' (f + n) 0 = 0
    · rw [if_pos h0, if_pos h0, h.est (hk (f + n) (by omega) (by omega) ((h.cod _ _).trans h0))]
      by_cases hb : s_chos c gv col z f n = -1
      · rw [hb, if_pos (rfl : (-1 : Int32) = -1), if_pos (rfl : (-1 : Int32) = -1)]
      · obtain ⟨q, hq1, hq2⟩ := (s_chos_ok n).resolve_left hb
        have eq : (s_chos c gv col z f n).toNatClampNeg = q := by rw [hq2]; exact nI_clamp (by omega)
        rw [eq, h.est (hk q hq1.1 (by omega) hq1.2.2.1)]
    · rw [if_neg h0, if_neg h0]
theorem s_agF.eok (h : s_agF c c') (he : s_eok c k) : s_eok c' k := by
  obtain ⟨j, hj, h1, h2, h3, h4⟩ := he
  refine ⟨j, hj, (h.cod _ _).symm.trans h1, ?_, ?_, ?_⟩
  · rw [← h.cod k 3, ← h.cod k 4]; exact h2
  · rw [← h 8 (by omega), ← h.col hj (x := 10) (by omega)]; exact h3
  · rw [← h.col hj (x := 11) (by omega), ← h.col hj (x := 12) (by omega)]; exact h4
theorem s_agF.kok (h : s_agF c c') (hk : s_kok c s) : s_kok c' s := by
  obtain ⟨⟨f, t, h1, h2, h3, h4⟩, h5⟩ := hk
  refine ⟨⟨f, t, h1, h2, (h _ (by omega)).symm.trans h3, (h _ (by omega)).symm.trans h4⟩, ?_⟩
  rw [← h.from, ← h.to]
  exact fun k k1 k2 k3 => h.eok (h5 k k1 k2 ((h.cod _ _).trans k3))
theorem s_agF.chosen (h : s_agF c c') (hk : s_kok c s) {p : Int32} : s_chosen c gv s p z = s_chosen c' gv s p z := by
  have h0 := s_kok_ft hk
  unfold s_chosen
  rw [← h.from, ← h.to]
  exact h.chos _ (by omega) (fun k h1 h2 h3 => hk.2 k h1 (by omega) h3)
theorem s_agr.cost (h : s_agr c c') (hk : s_kok c s) {p : Int32} (hp : p = -1 ∨ ∃ j, j < 5 ∧ p = nI j) : s_cost c gv s p z = s_cost c' gv s p z := by
  unfold s_cost
  rw [h 4 (by omega), h 8 (by omega)]
  by_cases hp1 : p = -1
  · rw [if_pos hp1, if_pos hp1]
  · rw [if_neg hp1, if_neg hp1]
    obtain ⟨j, hj, e⟩ := hp.resolve_left hp1
    have ej : p.toNatClampNeg = j := by rw [e]; exact nI_clamp (by omega)
    unfold s_cost1
    rw [ej, h.F.col hj (x := 9) (by omega), h.F.chosen hk, h 5 (by omega), h 6 (by omega), show s_st c s (21 + j) = s_st c' s (21 + j) from h _ (by omega)]
    by_cases h1 : s_col c' j 9 = 1
    · rw [if_pos h1, if_pos h1]
      by_cases h2 : s_chosen c' gv s p z = -1
      · rw [if_pos h2, if_pos h2]
      · rw [if_neg h2, if_neg h2]
        rw [← h.F.chosen hk] at h2
        obtain ⟨q, hq1, hq2⟩ := (s_chosen_ok hk).resolve_left h2
        have h0 := s_kok_ft hk
        have eq : (s_chosen c' gv s p z).toNatClampNeg = q := by rw [← h.F.chosen hk, hq2]; exact nI_clamp (by omega)
        rw [eq, h.F.est (hk.2 q hq1.1 hq1.2.1 hq1.2.2.1)]
    · rw [if_neg h1, if_neg h1]
theorem s_agr.bst (h : s_agr c c') (hk : s_kok c s) : ∀ m, m ≤ 5 → s_bst c gv s z m = s_bst c' gv s z m
  | 0, _ => by
    show (_, s_cost c gv s (-1) z) = (_, s_cost c' gv s (-1) z)
    rw [h.cost hk (Or.inl rfl)]
  | n + 1, hm => by
    show s_bst1 (s_bst c gv s z n) n (s_cost c gv s (nI n) z) = s_bst1 (s_bst c' gv s z n) n (s_cost c' gv s (nI n) z)
    rw [s_agr.bst h hk n (by omega), h.cost hk (Or.inr ⟨n, by omega, rfl⟩)]
theorem s_agr.best (h : s_agr c c') (hk : s_kok c s) {m : Nat} (hm : m ≤ 5) : s_best c gv s m z = s_best c' gv s m z := by
  unfold s_best
  rw [h.bst hk m hm]
theorem s_agF.tok (h : s_agF c c') (ht : s_tok c k) : s_tok c' k := by
  obtain ⟨h1, h2, h3⟩ := ht
  unfold s_tok
  rw [← h.cod k 1, ← h.cod k 3, ← h.cod k 4]
  exact ⟨h1, h2, h3⟩
theorem s_agF.tru (h : s_agF c c') (ht : s_tok c k) (hl : l < 40) : s_tru c gv k l = s_tru c' gv k l := by
  obtain ⟨⟨j, hj, hof⟩, h2, h3⟩ := ht
  have ej : (s_cod c k 1).toNatClampNeg = j := by rw [hof]; exact nI_clamp (by omega)
  unfold s_tru s_rhs
  rw [← h.cod k 1, ← h.cod k 2, ← h.cod k 3, ← h.cod k 4, ej, h.val hl hj]
  by_cases k0 : s_cod c k 3 = 0
  · rw [if_pos k0, if_pos k0]
  · rw [if_neg k0, if_neg k0]
    by_cases k1 : s_cod c k 3 = 1
    · obtain ⟨j2, hj2, hw⟩ := h2 k1
      have ej2 : (s_cod c k 4).toNatClampNeg = j2 := by rw [hw]; exact nI_clamp (by omega)
      rw [if_pos k1, if_pos k1, ej2, h.val hl hj2]
    · rw [if_neg k1, if_neg k1]
theorem s_agF.hg (h : s_agF c c') {f : Nat} : ∀ n, s_hg c f n = s_hg c' f n
  | 0 => rfl
  | n + 1 => by
    show s_hg1 (s_cod c (f + n) 0) (s_hg c f n) = s_hg1 (s_cod c' (f + n) 0) (s_hg c' f n)
    rw [s_agF.hg h n, h.cod]
theorem s_agF.pok (h : s_agF c c') {f n : Nat} (hp : s_pok c f n) : s_pok c' f n := fun k hk => by
  rw [← h.cod (f + k) 0, ← h.hg]
  rcases hp k hk with ⟨a, b⟩ | q | q
  · exact Or.inl ⟨a, h.tok b⟩
  · exact Or.inr (Or.inl q)
  · exact Or.inr (Or.inr q)
theorem s_agF.fok (h : s_agF c c') (hf : s_fok c s) : s_fok c' s := by
  unfold s_fok
  rw [← h.from, ← h.to, ← h.hg]
  exact ⟨h.pok hf.1, hf.2⟩
theorem s_agF.px (h : s_agF c c') {f n : Nat} {P : Nat → Bool} (hl : l < 40) (hp : s_pok c f n) : ∀ k, k ≤ n → s_px c gv l f P k = s_px c' gv l f P k
  | 0, _ => rfl
  | k + 1, hk => by
    show s_px1 (s_cod c (f + k) 0) (s_hg c f k) (s_tru c gv (f + k) l) (s_px c gv l f P k) = s_px1 (s_cod c' (f + k) 0) (s_hg c' f k) (s_tru c' gv (f + k) l) (s_px c' gv l f P k)
    rw [s_agF.px h hl hp k (by omega), h.cod (f + k) 0, h.hg]
    by_cases h0 : s_cod c (f + k) 0 = 0
    · rw [h.tru (s_pok_tok hp (by omega) h0) hl]
    · rw [h.cod] at h0
      unfold s_px1
      rw [if_neg h0, if_neg h0]
theorem s_agF.find (h : s_agF c c') (hf : s_fok c s) (hl : l < 40) : s_find c gv s l = s_find c' gv s l := by
  unfold s_find
  rw [← h.from, ← h.to, h.px hl hf.1 _ (Nat.le_refl _)]
end
/-- what the making of a generic plan leaves -/
def s_mkg (c gv : Nat → Int32) (s : Nat) : Nat → Int32 :=
  if s_fresh c s then c else upd (upd (upd (upd c (275 + 30 * s + 14) (s_best c gv s (s_cm c) false)) (275 + 30 * s + 15) (s_cost c gv s (s_best c gv s (s_cm c) false) false)) (275 + 30 * s + 16) (c 3)) (275 + 30 * s + 11) (s_st c s 11 + 1)
theorem s_mkg_agr {c gv : Nat → Int32} {s : Nat} (hs : s < 6) : s_agr c (s_mkg c gv s) := by
  unfold s_mkg
  by_cases h : s_fresh c s
  · rw [if_pos h]; exact s_agr_rfl
  · rw [if_neg h]
    exact s_agr_upd (s_agr_upd (s_agr_upd (s_agr_upd s_agr_rfl (by omega)) (by omega)) (by omega)) (by omega)
theorem c_makesGeneric {G : XE} (hG : x_Kn G) {B : XH} {I : Nat → Int32} {T : Int64} {S : Nat → Nat → Int32} {rd tx gv pl : Nat → Int32} (d : Nat) (w : Nat) (hw : I 3 = nI w) (hw9 : w < 9) (hwf : s_wf (S w)) (s : Nat) (hs0 : s < s_sm (S w)) {x : Int32} (hx : x = nI s) : x_M G mX11_makesGeneric (d + 7) 0 0 [.ref 275, .int x] (mset B I T S rd tx gv pl) (x_RetV (mset B I T (updR S w (s_mkg (S w) gv s)) rd tx gv pl)) x_noX := by
  refine X_M hG okX11_makesGeneric rfl (L := [some (.ref 275), some (.int x), none]) rfl (Nat.le_of_ble_eq_true rfl) (fun ad0 nb0 => ?_)
  have hs : s < 6 := Nat.lt_of_lt_of_le hs0 hwf.smE.2
  have hko := hwf.kok hs0
  refine X_ld rfl rfl rfl rfl ?_
  refine X_ld rfl rfl rfl rfl ?_
  refine X_mcall l_X11_X11_isFresh (c_isFresh hG (d + 4) w hw hw9 s (by omega) hx) rfl rfl rfl rfl (Nat.le_of_ble_eq_true rfl) (Nat.le_of_ble_eq_true rfl) (Nat.le_refl _) (Nat.le_of_ble_eq_true rfl) (Nat.le_of_ble_eq_true rfl) ?_
  refine X_if_eq rfl (fun c5 => ?_) (fun c5 => ?_)
  · have h5 : ¬ (s_fresh (S w) s) := fun q => bI_ne.mpr q c5
    refine X_ld rfl rfl rfl rfl ?_
    refine X_ld rfl rfl rfl rfl ?_
    refine X_push (v := .int 0) rfl (by decide +kernel) ?_
    refine X_mcall l_X11_X11_bestPlan (c_bestPlan hG d w hw hw9 (s_cm (S w)) hwf.cmE.1 hwf.cmE.2 s hs hko false hx) rfl rfl rfl rfl (Nat.le_of_ble_eq_true rfl) (Nat.le_of_ble_eq_true rfl) (Nat.le_refl _) (Nat.le_of_ble_eq_true rfl) (Nat.le_of_ble_eq_true rfl) ?_
    refine X_st rfl rfl rfl ?_
    refine X_ld rfl rfl rfl rfl ?_
    refine X_ld rfl rfl rfl rfl ?_
    refine X_push (v := .int 14) rfl (by decide +kernel) ?_
    refine X_scall l_X11_X11_statementAt (c_statementAt hG (d + 6) ) rfl rfl rfl (Nat.le_of_ble_eq_true rfl) (Nat.le_of_ble_eq_true rfl) (Nat.le_refl _) (Nat.le_of_ble_eq_true rfl) (Nat.le_of_ble_eq_true rfl) ?_
    refine X_ld rfl rfl rfl rfl ?_
    refine X_mcallv l_X11_X11_put (c_put hG (d + 6) w hw hw9 (275 + 30 * s + 14) (by omega) (m_statementAt hx (show (14 : Int32) = nI 14 from rfl))) rfl rfl rfl rfl (Nat.le_of_ble_eq_true rfl) (Nat.le_of_ble_eq_true rfl) (Nat.le_refl _) (Nat.le_of_ble_eq_true rfl) (Nat.le_of_ble_eq_true rfl) ?_
    refine X_row updR_self (upd (S w) (275 + 30 * s + 14) (s_best (S w) gv s (s_cm (S w)) false)) rfl (fun S1 e1 f1 => ?_)
    have a1 : s_agr (S w) (S1 w) := by rw [e1]; exact s_agr_upd s_agr_rfl (by omega)
    have hpl := s_best5 (c := S w) (gv := gv) (s := s) (z := false) hwf.cmE.2
    refine X_ld rfl rfl rfl rfl ?_
    refine X_ld rfl rfl rfl rfl ?_
    refine X_push (v := .int 15) rfl (by decide +kernel) ?_
    refine X_scall l_X11_X11_statementAt (c_statementAt hG (d + 6) ) rfl rfl rfl (Nat.le_of_ble_eq_true rfl) (Nat.le_of_ble_eq_true rfl) (Nat.le_refl _) (Nat.le_of_ble_eq_true rfl) (Nat.le_of_ble_eq_true rfl) ?_
    refine X_ld rfl rfl rfl rfl ?_
    refine X_ld rfl rfl rfl rfl ?_
    refine X_ld rfl rfl rfl rfl ?_
    refine X_push (v := .int 0) rfl (by decide +kernel) ?_
    refine X_mcall l_X11_X11_costOf (c_costOf hG (d + 1) w hw hw9 s hs (a1.F.kok hko) false hx hpl) rfl rfl rfl rfl (Nat.le_of_ble_eq_true rfl) (Nat.le_of_ble_eq_true rfl) (Nat.le_refl _) (Nat.le_of_ble_eq_true rfl) (Nat.le_of_ble_eq_true rfl) ?_
    refine X_mcallv l_X11_X11_put (c_put hG (d + 6) w hw hw9 (275 + 30 * s + 15) (by omega) (m_statementAt hx (show (15 : Int32) = nI 15 from rfl))) rfl rfl rfl rfl (Nat.le_of_ble_eq_true rfl) (Nat.le_of_ble_eq_true rfl) (Nat.le_refl _) (Nat.le_of_ble_eq_true rfl) (Nat.le_of_ble_eq_true rfl) ?_
    refine X_row f1 (upd (upd (S w) (275 + 30 * s + 14) (s_best (S w) gv s (s_cm (S w)) false)) (275 + 30 * s + 15) (s_cost (S w) gv s (s_best (S w) gv s (s_cm (S w)) false) false)) (by rw [a1.cost hko hpl]) (fun S2 e2 f2 => ?_)
    refine X_ld rfl rfl rfl rfl ?_
    refine X_ld rfl rfl rfl rfl ?_
    refine X_push (v := .int 16) rfl (by decide +kernel) ?_
    refine X_scall l_X11_X11_statementAt (c_statementAt hG (d + 6) ) rfl rfl rfl (Nat.le_of_ble_eq_true rfl) (Nat.le_of_ble_eq_true rfl) (Nat.le_refl _) (Nat.le_of_ble_eq_true rfl) (Nat.le_of_ble_eq_true rfl) ?_
    refine X_ld rfl rfl rfl rfl ?_
    refine X_push (v := .int 3) rfl (by decide +kernel) ?_
    refine X_mcall l_X11_X11_get (c_get hG (d + 6) w hw hw9 3 (by omega) (show (3 : Int32) = nI 3 from rfl)) rfl rfl rfl rfl (Nat.le_of_ble_eq_true rfl) (Nat.le_of_ble_eq_true rfl) (Nat.le_refl _) (Nat.le_of_ble_eq_true rfl) (Nat.le_of_ble_eq_true rfl) ?_
    refine X_mcallv l_X11_X11_put (c_put hG (d + 6) w hw hw9 (275 + 30 * s + 16) (by omega) (m_statementAt hx (show (16 : Int32) = nI 16 from rfl))) rfl rfl rfl rfl (Nat.le_of_ble_eq_true rfl) (Nat.le_of_ble_eq_true rfl) (Nat.le_refl _) (Nat.le_of_ble_eq_true rfl) (Nat.le_of_ble_eq_true rfl) ?_
    refine X_row f2 (upd (upd (upd (S w) (275 + 30 * s + 14) (s_best (S w) gv s (s_cm (S w)) false)) (275 + 30 * s + 15) (s_cost (S w) gv s (s_best (S w) gv s (s_cm (S w)) false) false)) (275 + 30 * s + 16) (S w 3)) (by rw [e2, updI_ne (by omega), updI_ne (by omega)]) (fun S3 e3 f3 => ?_)
    refine X_ld rfl rfl rfl rfl ?_
    refine X_ld rfl rfl rfl rfl ?_
    refine X_push (v := .int 11) rfl (by decide +kernel) ?_
    refine X_scall l_X11_X11_statementAt (c_statementAt hG (d + 6) ) rfl rfl rfl (Nat.le_of_ble_eq_true rfl) (Nat.le_of_ble_eq_true rfl) (Nat.le_refl _) (Nat.le_of_ble_eq_true rfl) (Nat.le_of_ble_eq_true rfl) ?_
    refine X_push (v := .int 1) rfl (by decide +kernel) ?_
    refine X_mcallv l_X11_X11_add (c_add hG (d + 6) w hw hw9 (275 + 30 * s + 11) (by omega) (m_statementAt hx (show (11 : Int32) = nI 11 from rfl))) rfl rfl rfl rfl (Nat.le_of_ble_eq_true rfl) (Nat.le_of_ble_eq_true rfl) (Nat.le_refl _) (Nat.le_of_ble_eq_true rfl) (Nat.le_of_ble_eq_true rfl) ?_
    refine X_row f3 (upd (upd (upd (upd (S w) (275 + 30 * s + 14) (s_best (S w) gv s (s_cm (S w)) false)) (275 + 30 * s + 15) (s_cost (S w) gv s (s_best (S w) gv s (s_cm (S w)) false) false)) (275 + 30 * s + 16) (S w 3)) (275 + 30 * s + 11) (S w (275 + 30 * s + 11) + 1)) (by rw [e3, updI_ne (by omega), updI_ne (by omega), updI_ne (by omega)]) (fun S4 e4 f4 => ?_)
    exact X_vret rfl rfl ⟨by rw [f4, show s_mkg (S w) gv s = _ from if_neg h5], rfl⟩ (Nat.le_of_ble_eq_true rfl) (Nat.le_of_ble_eq_true rfl)
  · have h5 : s_fresh (S w) s := bI_ne.mp c5
    exact X_vret rfl rfl ⟨by rw [show s_mkg (S w) gv s = S w from if_pos h5, ← updR_self], rfl⟩ (Nat.le_of_ble_eq_true rfl) (Nat.le_of_ble_eq_true rfl)
def s_lrn (c gv : Nat → Int32) (s j k : Nat) (z : Bool) (t : Int32) : Int32 := (3 * s_st c s (21 + j) + x_min 1000 (100 * t / x_max 1 (s_est c gv k z))) / 4
theorem x_max_1 {e : Int32} : ¬ x_max 1 e = 0 := by
  unfold x_max
  by_cases h : (1 : Int32) < e
  · rw [if_pos h]
    intro q
    rw [q] at h
    exact absurd h (by decide)
  · rw [if_neg h]; decide
theorem c_learns {G : XE} (hG : x_Kn G) {B : XH} {I : Nat → Int32} {T : Int64} {S : Nat → Nat → Int32} {rd tx gv pl : Nat → Int32} (d : Nat) (w : Nat) (hw : I 3 = nI w) (hw9 : w < 9) (s : Nat) (hs : s < 6) {x : Int32} (hx : x = nI s) (j k : Nat) (hj : j < 5) (hk0 : k < 324) (he : s_eok (S w) k) (z : Bool) {y k1 t : Int32} (hy : y = nI j) (hk : k1 = nI k) : x_M G mX11_learns (d + 4) 0 0 [.ref 275, .int x, .int y, .int k1, .int (b2 z), .int t] (mset B I T S rd tx gv pl) (x_RetV (mset B I T (updR S w (upd (S w) (275 + 30 * s + (21 + j)) (s_lrn (S w) gv s j k z t))) rd tx gv pl)) x_noX := by
  refine X_M hG okX11_learns rfl (L := [some (.ref 275), some (.int x), some (.int y), some (.int k1), some (.int (b2 z)), some (.int t), none, none]) rfl (Nat.le_of_ble_eq_true rfl) (fun ad0 nb0 => ?_)
  refine X_push (v := .int 1) rfl (by decide +kernel) ?_
  refine X_ld rfl rfl rfl rfl ?_
  refine X_ld rfl rfl rfl rfl ?_
  refine X_ld rfl rfl rfl rfl ?_
  refine X_mcall l_X11_X11_estimate (c_estimate hG d w hw hw9 k (by omega) he z hk) rfl rfl rfl rfl (Nat.le_of_ble_eq_true rfl) (Nat.le_of_ble_eq_true rfl) (Nat.le_refl _) (Nat.le_of_ble_eq_true rfl) (Nat.le_of_ble_eq_true rfl) ?_
  refine X_max lmax_X11 rfl (by omega) (Nat.le_of_ble_eq_true rfl) (Nat.le_of_ble_eq_true rfl) (Nat.le_of_ble_eq_true rfl) ?_
  refine X_st rfl rfl rfl ?_
  refine X_push (v := .int 1000) rfl (by decide +kernel) ?_
  refine X_push (v := .int 100) rfl (by decide +kernel) ?_
  refine X_ld rfl rfl rfl rfl ?_
  refine X_bin rfl rfl ?_
  refine X_ld rfl rfl rfl rfl ?_
  refine X_idiv rfl x_max_1 ?_
  refine X_min lmin_X11 rfl (by omega) (Nat.le_of_ble_eq_true rfl) (Nat.le_of_ble_eq_true rfl) (Nat.le_of_ble_eq_true rfl) ?_
  refine X_st rfl rfl rfl ?_
  refine X_ld rfl rfl rfl rfl ?_
  refine X_ld rfl rfl rfl rfl ?_
  refine X_push (v := .int 21) rfl (by decide +kernel) ?_
  refine X_ld rfl rfl rfl rfl ?_
  refine X_bin rfl rfl ?_
  refine X_scall l_X11_X11_statementAt (c_statementAt hG (d + 3) ) rfl rfl rfl (Nat.le_of_ble_eq_true rfl) (Nat.le_of_ble_eq_true rfl) (Nat.le_refl _) (Nat.le_of_ble_eq_true rfl) (Nat.le_of_ble_eq_true rfl) ?_
  refine X_push (v := .int 3) rfl (by decide +kernel) ?_
  refine X_ld rfl rfl rfl rfl ?_
  refine X_ld rfl rfl rfl rfl ?_
  refine X_push (v := .int 21) rfl (by decide +kernel) ?_
  refine X_ld rfl rfl rfl rfl ?_
  refine X_bin rfl rfl ?_
  refine X_mcall l_X11_X11_ofStatement (c_ofStatement hG (d + 2) w hw hw9 s (21 + j) (by omega) hx (m_add (show (21 : Int32) = nI 21 from rfl) hy)) rfl rfl rfl rfl (Nat.le_of_ble_eq_true rfl) (Nat.le_of_ble_eq_true rfl) (Nat.le_refl _) (Nat.le_of_ble_eq_true rfl) (Nat.le_of_ble_eq_true rfl) ?_
  refine X_bin rfl rfl ?_
  refine X_ld rfl rfl rfl rfl ?_
  refine X_bin rfl rfl ?_
  refine X_push (v := .int 4) rfl (by decide +kernel) ?_
  refine X_idiv rfl (by decide) ?_
  refine X_mcallv l_X11_X11_put (c_put hG (d + 3) w hw hw9 (275 + 30 * s + (21 + j)) (by omega) (m_statementAt hx (m_add (show (21 : Int32) = nI 21 from rfl) hy))) rfl rfl rfl rfl (Nat.le_of_ble_eq_true rfl) (Nat.le_of_ble_eq_true rfl) (Nat.le_refl _) (Nat.le_of_ble_eq_true rfl) (Nat.le_of_ble_eq_true rfl) ?_
  exact X_vret rfl rfl ⟨rfl, rfl⟩ (Nat.le_of_ble_eq_true rfl) (Nat.le_of_ble_eq_true rfl)
/-- the lines of the first n that a comparison finds -/
def s_tch (c gv : Nat → Int32) (k : Nat) : Nat → Int32
  | 0 => 0
  | n + 1 => s_tch c gv k n + (bif s_tru c gv k n then 1 else 0)
def s_tou1 (c gv : Nat → Int32) (s : Nat) (p : Int32) (z : Bool) (q : Int32) : Nat → Int32 :=
  if q = -1 then upd c (275 + 30 * s + 13) (s_st c s 13 + c 1)
  else upd (upd c (275 + 30 * s + 13) (s_st c s 13 + s_tch c gv q.toNatClampNeg (s_lm c))) (275 + 30 * s + (21 + p.toNatClampNeg)) (s_lrn c gv s p.toNatClampNeg q.toNatClampNeg z (s_tch c gv q.toNatClampNeg (s_lm c)))
/-- what a run by a plan touches and learns -/
def s_tou (c gv : Nat → Int32) (s : Nat) (p : Int32) (z : Bool) : Nat → Int32 := s_tou1 c gv s p z (if p = -1 then -1 else s_chosen c gv s p z)
theorem s_wf.tok {c : Nat → Int32} (h : s_wf c) {s k : Nat} (hs : s < s_sm c) (h1 : s_from c s ≤ k) (h2 : k < s_to c s) (h0 : s_cod c k 0 = 0) : s_tok c k := by
  obtain ⟨d, rfl⟩ : ∃ d, k = s_from c s + d := ⟨k - s_from c s, by omega⟩
  exact s_pok_tok (h.fok hs).1 (by omega) h0
theorem nI_ne_m1 {k : Nat} (hk : k < 2147483648) : ¬ nI k = -1 := fun h => by
  have h1 := congrArg Int32.toInt h
  rw [nI_toInt hk, show (-1 : Int32).toInt = -1 by decide] at h1
  omega
theorem s_agr.lrn {c c' gv : Nat → Int32} {s j k : Nat} {z : Bool} {t : Int32} (h : s_agr c c') (hj : j < 5) (he : s_eok c k) : s_lrn c gv s j k z t = s_lrn c' gv s j k z t := by
  unfold s_lrn
  rw [show s_st c s (21 + j) = s_st c' s (21 + j) from h _ (by omega), h.F.est he]
theorem c_touches {G : XE} (hG : x_Kn G) {B : XH} {I : Nat → Int32} {T : Int64} {S : Nat → Nat → Int32} {rd tx gv pl : Nat → Int32} (d : Nat) (w : Nat) (hw : I 3 = nI w) (hw9 : w < 9) (hwf : s_wf (S w)) (s : Nat) (hs0 : s < s_sm (S w)) {x : Int32} (hx : x = nI s) {p : Int32} (hp : p = -1 ∨ ∃ j, j < 5 ∧ p = nI j) (z : Bool) : x_M G mX11_touches (d + 5) 0 0 [.ref 275, .int x, .int p, .int (b2 z)] (mset B I T S rd tx gv pl) (x_RetV (mset B I T (updR S w (s_tou (S w) gv s p z)) rd tx gv pl)) x_noX := by
  refine X_M hG okX11_touches rfl (L := [some (.ref 275), some (.int x), some (.int p), some (.int (b2 z)), none, none, none]) rfl (Nat.le_of_ble_eq_true rfl) (fun ad0 nb0 => ?_)
  have hs : s < 6 := Nat.lt_of_lt_of_le hs0 hwf.smE.2
  have hko := hwf.kok hs0
  have hlm40 := hwf.lmE.2
  have loopA : x_W G mX11_touches (x_Z G (d + 5) 0 0 ad0 nb0 (x_RetV (mset B I T (updR S w (s_tou (S w) gv s p z)) rd tx gv pl)) x_noX) (mset B I T S rd tx gv pl) 0 0 67 [some (.ref 275), some (.int x), some (.int p), some (.int (b2 z)), some (.int (nI (s_lm (S w)))), some (.int (-1)), some (.int (nI (s_lm (S w))))] [] → ∀ (f9 l : Nat), l + f9 = (s_lm (S w)) → x_W G mX11_touches (x_Z G (d + 5) 0 0 ad0 nb0 (x_RetV (mset B I T (updR S w (s_tou (S w) gv s p z)) rd tx gv pl)) x_noX) (mset B I T S rd tx gv pl) 0 0 24 [some (.ref 275), some (.int x), some (.int p), some (.int (b2 z)), some (.int (nI l)), some (.int (-1)), some (.int (nI l))] [] := by
    intro K f9
    induction f9 with
    | zero =>
      intro l e0 
      obtain rfl : l = (s_lm (S w)) := by omega
      refine X_ld rfl rfl rfl rfl ?_
      refine X_ld rfl rfl rfl rfl ?_
      refine X_push (v := .int 1) rfl (by decide +kernel) ?_
      refine X_mcall l_X11_X11_get (c_get hG (d + 4) w hw hw9 1 (by omega) (show (1 : Int32) = nI 1 from rfl)) rfl rfl rfl rfl (Nat.le_of_ble_eq_true rfl) (Nat.le_of_ble_eq_true rfl) (Nat.le_refl _) (Nat.le_of_ble_eq_true rfl) (Nat.le_of_ble_eq_true rfl) ?_
      refine X_icmp_ge rfl (fun c31 => ?_) (fun c31 => absurd ((n_le hwf.lmE.1 rfl (by omega) (by omega)).mpr (by omega)) c31)
      exact K
    | succ f9 ih =>
      intro l e0 
      refine X_ld rfl rfl rfl rfl ?_
      refine X_ld rfl rfl rfl rfl ?_
      refine X_push (v := .int 1) rfl (by decide +kernel) ?_
      refine X_mcall l_X11_X11_get (c_get hG (d + 4) w hw hw9 1 (by omega) (show (1 : Int32) = nI 1 from rfl)) rfl rfl rfl rfl (Nat.le_of_ble_eq_true rfl) (Nat.le_of_ble_eq_true rfl) (Nat.le_refl _) (Nat.le_of_ble_eq_true rfl) (Nat.le_of_ble_eq_true rfl) ?_
      refine X_icmp_ge rfl (fun c31 => absurd ((n_le hwf.lmE.1 rfl (by omega) (by omega)).mp c31) (by omega)) (fun c31 => ?_)
      refine X_ld rfl rfl rfl rfl ?_
      refine X_ld rfl rfl rfl rfl ?_
      refine X_push (v := .int (-1)) rfl (by decide +kernel) ?_
      refine X_icmp_eq rfl (fun c39 => ?_) (fun c39 => absurd (by decide) c39)
      refine X_push (v := .int 1) rfl (by decide +kernel) ?_
      refine X_goto rfl ?_
      refine X_bin rfl rfl ?_
      refine X_st rfl rfl rfl ?_
      refine X_iinc rfl rfl rfl ?_
      refine X_goto rfl ?_
      refine X_loc (L' := [some (.ref 275), some (.int x), some (.int p), some (.int (b2 z)), some (.int (nI (l + 1))), some (.int (-1)), some (.int (nI (l + 1)))]) ⟨rfl, rfl, rfl, rfl, congrArg Value.int (nI_1 l).symm, rfl, congrArg Value.int (m_inc rfl).symm, trivial⟩ ?_
      exact ih (l + 1) (by omega)
  refine X_push (v := .int 0) rfl (by decide +kernel) ?_
  refine X_st rfl rfl rfl ?_
  refine X_ld rfl rfl rfl rfl ?_
  refine X_push (v := .int (-1)) rfl (by decide +kernel) ?_
  refine X_icmp_ne rfl (fun c5 => ?_) (fun c5 => ?_)
  · refine X_ld rfl rfl rfl rfl ?_
    refine X_ld rfl rfl rfl rfl ?_
    refine X_ld rfl rfl rfl rfl ?_
    refine X_ld rfl rfl rfl rfl ?_
    refine X_mcall l_X11_X11_chosen (c_chosen hG d w hw hw9 s hs hko z hx) rfl rfl rfl rfl (Nat.le_of_ble_eq_true rfl) (Nat.le_of_ble_eq_true rfl) (Nat.le_refl _) (Nat.le_of_ble_eq_true rfl) (Nat.le_of_ble_eq_true rfl) ?_
    by_cases hq : s_chosen (S w) gv s p z = -1
    · refine X_stk (congrArg (fun q => Value.int q :: _) hq) ?_
      refine X_st rfl rfl rfl ?_
      refine X_push (v := .int 0) rfl (by decide +kernel) ?_
      refine X_st rfl rfl rfl ?_
      refine X_loc (L' := [some (.ref 275), some (.int x), some (.int p), some (.int (b2 z)), some (.int (nI 0)), some (.int (-1)), some (.int (nI 0))]) ⟨rfl, rfl, rfl, rfl, rfl, rfl, rfl, trivial⟩ ?_
      refine loopA ?_ _ 0 (Nat.zero_add _)
      refine X_ld rfl rfl rfl rfl ?_
      refine X_ld rfl rfl rfl rfl ?_
      refine X_push (v := .int 13) rfl (by decide +kernel) ?_
      refine X_scall l_X11_X11_statementAt (c_statementAt hG (d + 4) ) rfl rfl rfl (Nat.le_of_ble_eq_true rfl) (Nat.le_of_ble_eq_true rfl) (Nat.le_refl _) (Nat.le_of_ble_eq_true rfl) (Nat.le_of_ble_eq_true rfl) ?_
      refine X_ld rfl rfl rfl rfl ?_
      refine X_mcallv l_X11_X11_add (c_add hG (d + 4) w hw hw9 (275 + 30 * s + 13) (by omega) (m_statementAt hx (show (13 : Int32) = nI 13 from rfl))) rfl rfl rfl rfl (Nat.le_of_ble_eq_true rfl) (Nat.le_of_ble_eq_true rfl) (Nat.le_refl _) (Nat.le_of_ble_eq_true rfl) (Nat.le_of_ble_eq_true rfl) ?_
      refine X_row updR_self (upd (S w) (275 + 30 * s + 13) (S w (275 + 30 * s + 13) + nI (s_lm (S w)))) rfl (fun S1 e1 f1 => ?_)
      refine X_ld rfl rfl rfl rfl ?_
      refine X_push (v := .int (-1)) rfl (by decide +kernel) ?_
      refine X_icmp_eq rfl (fun c82 => ?_) (fun c82 => absurd (by decide) c82)
      exact X_vret rfl rfl ⟨by rw [f1, show s_tou (S w) gv s p z = upd (S w) (275 + 30 * s + 13) (S w (275 + 30 * s + 13) + nI (s_lm (S w))) from by unfold s_tou s_tou1; rw [if_neg c5, if_pos hq, hwf.lmE.1]], rfl⟩ (Nat.le_of_ble_eq_true rfl) (Nat.le_of_ble_eq_true rfl)
    · obtain ⟨k, hq1, hq2⟩ := (s_chosen_ok (gv := gv) (col := p) (z := z) hko).resolve_left hq
      have hft := s_kok_ft hko
      have ht := hwf.tok hs0 hq1.1 hq1.2.1 hq1.2.2.1
      have he := hko.2 k hq1.1 hq1.2.1 hq1.2.2.1
      have ek : (s_chosen (S w) gv s p z).toNatClampNeg = k := by rw [hq2]; exact nI_clamp (by omega)
      refine X_stk (congrArg (fun q => Value.int q :: _) hq2) ?_
      refine X_st rfl rfl rfl ?_
      refine X_push (v := .int 0) rfl (by decide +kernel) ?_
      refine X_st rfl rfl rfl ?_
      have loopB : x_W G mX11_touches (x_Z G (d + 5) 0 0 ad0 nb0 (x_RetV (mset B I T (updR S w (s_tou (S w) gv s p z)) rd tx gv pl)) x_noX) (mset B I T S rd tx gv pl) 0 0 67 [some (.ref 275), some (.int x), some (.int p), some (.int (b2 z)), some (.int (s_tch (S w) gv k (s_lm (S w)))), some (.int (nI k)), some (.int (nI (s_lm (S w))))] [] → ∀ (f9 l : Nat), l + f9 = (s_lm (S w)) → x_W G mX11_touches (x_Z G (d + 5) 0 0 ad0 nb0 (x_RetV (mset B I T (updR S w (s_tou (S w) gv s p z)) rd tx gv pl)) x_noX) (mset B I T S rd tx gv pl) 0 0 24 [some (.ref 275), some (.int x), some (.int p), some (.int (b2 z)), some (.int (s_tch (S w) gv k l)), some (.int (nI k)), some (.int (nI l))] [] := by
        intro K f9
        induction f9 with
        | zero =>
          intro l e0 
          obtain rfl : l = (s_lm (S w)) := by omega
          refine X_ld rfl rfl rfl rfl ?_
          refine X_ld rfl rfl rfl rfl ?_
          refine X_push (v := .int 1) rfl (by decide +kernel) ?_
          refine X_mcall l_X11_X11_get (c_get hG (d + 4) w hw hw9 1 (by omega) (show (1 : Int32) = nI 1 from rfl)) rfl rfl rfl rfl (Nat.le_of_ble_eq_true rfl) (Nat.le_of_ble_eq_true rfl) (Nat.le_refl _) (Nat.le_of_ble_eq_true rfl) (Nat.le_of_ble_eq_true rfl) ?_
          refine X_icmp_ge rfl (fun c31 => ?_) (fun c31 => absurd ((n_le hwf.lmE.1 rfl (by omega) (by omega)).mpr (by omega)) c31)
          exact K
        | succ f9 ih =>
          intro l e0 
          refine X_ld rfl rfl rfl rfl ?_
          refine X_ld rfl rfl rfl rfl ?_
          refine X_push (v := .int 1) rfl (by decide +kernel) ?_
          refine X_mcall l_X11_X11_get (c_get hG (d + 4) w hw hw9 1 (by omega) (show (1 : Int32) = nI 1 from rfl)) rfl rfl rfl rfl (Nat.le_of_ble_eq_true rfl) (Nat.le_of_ble_eq_true rfl) (Nat.le_refl _) (Nat.le_of_ble_eq_true rfl) (Nat.le_of_ble_eq_true rfl) ?_
          refine X_icmp_ge rfl (fun c31 => absurd ((n_le hwf.lmE.1 rfl (by omega) (by omega)).mp c31) (by omega)) (fun c31 => ?_)
          refine X_ld rfl rfl rfl rfl ?_
          refine X_ld rfl rfl rfl rfl ?_
          refine X_push (v := .int (-1)) rfl (by decide +kernel) ?_
          refine X_icmp_eq rfl (fun c39 => absurd c39 (nI_ne_m1 (by omega))) (fun c39 => ?_)
          refine X_ld rfl rfl rfl rfl ?_
          refine X_ld rfl rfl rfl rfl ?_
          refine X_ld rfl rfl rfl rfl ?_
          refine X_mcall l_X11_X11_isTrue (c_isTrue hG (d + 1) w hw hw9 k l (by omega) (by omega) ht rfl rfl) rfl rfl rfl rfl (Nat.le_of_ble_eq_true rfl) (Nat.le_of_ble_eq_true rfl) (Nat.le_refl _) (Nat.le_of_ble_eq_true rfl) (Nat.le_of_ble_eq_true rfl) ?_
          refine X_if_eq rfl (fun c50 => ?_) (fun c50 => ?_)
          · have h50 : (s_tru (S w) gv k l) = false := b2_0 c50
            refine X_push (v := .int 0) rfl (by decide +kernel) ?_
            refine X_bin rfl rfl ?_
            refine X_st rfl rfl rfl ?_
            refine X_iinc rfl rfl rfl ?_
            refine X_goto rfl ?_
            have e : s_tch (S w) gv k (l + 1) = s_tch (S w) gv k l + 0 := (show s_tch (S w) gv k l + (bif s_tru (S w) gv k l then 1 else 0) = _ from by rw [h50]; rfl)
            refine X_loc (L' := [some (.ref 275), some (.int x), some (.int p), some (.int (b2 z)), some (.int (s_tch (S w) gv k (l + 1))), some (.int (nI k)), some (.int (nI (l + 1)))]) ⟨rfl, rfl, rfl, rfl, congrArg Value.int e, rfl, congrArg Value.int (m_inc rfl).symm, trivial⟩ ?_
            exact ih (l + 1) (by omega)
          · have h50 : (s_tru (S w) gv k l) = true := b2_1 c50
            refine X_push (v := .int 1) rfl (by decide +kernel) ?_
            refine X_goto rfl ?_
            refine X_bin rfl rfl ?_
            refine X_st rfl rfl rfl ?_
            refine X_iinc rfl rfl rfl ?_
            refine X_goto rfl ?_
            have e : s_tch (S w) gv k (l + 1) = s_tch (S w) gv k l + 1 := (show s_tch (S w) gv k l + (bif s_tru (S w) gv k l then 1 else 0) = _ from by rw [h50]; rfl)
            refine X_loc (L' := [some (.ref 275), some (.int x), some (.int p), some (.int (b2 z)), some (.int (s_tch (S w) gv k (l + 1))), some (.int (nI k)), some (.int (nI (l + 1)))]) ⟨rfl, rfl, rfl, rfl, congrArg Value.int e, rfl, congrArg Value.int (m_inc rfl).symm, trivial⟩ ?_
            exact ih (l + 1) (by omega)
      refine X_loc (L' := [some (.ref 275), some (.int x), some (.int p), some (.int (b2 z)), some (.int (s_tch (S w) gv k 0)), some (.int (nI k)), some (.int (nI 0))]) ⟨rfl, rfl, rfl, rfl, rfl, rfl, rfl, trivial⟩ ?_
      refine loopB ?_ _ 0 (Nat.zero_add _)
      refine X_ld rfl rfl rfl rfl ?_
      refine X_ld rfl rfl rfl rfl ?_
      refine X_push (v := .int 13) rfl (by decide +kernel) ?_
      refine X_scall l_X11_X11_statementAt (c_statementAt hG (d + 4) ) rfl rfl rfl (Nat.le_of_ble_eq_true rfl) (Nat.le_of_ble_eq_true rfl) (Nat.le_refl _) (Nat.le_of_ble_eq_true rfl) (Nat.le_of_ble_eq_true rfl) ?_
      refine X_ld rfl rfl rfl rfl ?_
      refine X_mcallv l_X11_X11_add (c_add hG (d + 4) w hw hw9 (275 + 30 * s + 13) (by omega) (m_statementAt hx (show (13 : Int32) = nI 13 from rfl))) rfl rfl rfl rfl (Nat.le_of_ble_eq_true rfl) (Nat.le_of_ble_eq_true rfl) (Nat.le_refl _) (Nat.le_of_ble_eq_true rfl) (Nat.le_of_ble_eq_true rfl) ?_
      refine X_row updR_self (upd (S w) (275 + 30 * s + 13) (S w (275 + 30 * s + 13) + s_tch (S w) gv k (s_lm (S w)))) rfl (fun S1 e1 f1 => ?_)
      have a1 : s_agr (S w) (S1 w) := by rw [e1]; exact s_agr_upd s_agr_rfl (by omega)
      obtain ⟨j, hj, hpj⟩ := hp.resolve_left c5
      have ej : p.toNatClampNeg = j := by rw [hpj]; exact nI_clamp (by omega)
      refine X_ld rfl rfl rfl rfl ?_
      refine X_push (v := .int (-1)) rfl (by decide +kernel) ?_
      refine X_icmp_eq rfl (fun c82 => absurd c82 (nI_ne_m1 (by omega))) (fun c82 => ?_)
      refine X_ld rfl rfl rfl rfl ?_
      refine X_ld rfl rfl rfl rfl ?_
      refine X_ld rfl rfl rfl rfl ?_
      refine X_ld rfl rfl rfl rfl ?_
      refine X_ld rfl rfl rfl rfl ?_
      refine X_ld rfl rfl rfl rfl ?_
      refine X_mcallv l_X11_X11_learns (c_learns hG d w hw hw9 s hs hx j k hj (by omega) (a1.F.eok he) z hpj rfl) rfl rfl rfl rfl (Nat.le_of_ble_eq_true rfl) (Nat.le_of_ble_eq_true rfl) (Nat.le_refl _) (Nat.le_of_ble_eq_true rfl) (Nat.le_of_ble_eq_true rfl) ?_
      exact X_vret rfl rfl ⟨by rw [← a1.lrn hj he, e1, f1, updR_updR, show s_tou (S w) gv s p z = _ from by unfold s_tou s_tou1; rw [if_neg c5, if_neg hq, ek, ej]], rfl⟩ (Nat.le_of_ble_eq_true rfl) (Nat.le_of_ble_eq_true rfl)
  · refine X_push (v := .int (-1)) rfl (by decide +kernel) ?_
    refine X_goto rfl ?_
    refine X_st rfl rfl rfl ?_
    refine X_push (v := .int 0) rfl (by decide +kernel) ?_
    refine X_st rfl rfl rfl ?_
    refine X_loc (L' := [some (.ref 275), some (.int x), some (.int p), some (.int (b2 z)), some (.int (nI 0)), some (.int (-1)), some (.int (nI 0))]) ⟨rfl, rfl, rfl, rfl, rfl, rfl, rfl, trivial⟩ ?_
    refine loopA ?_ _ 0 (Nat.zero_add _)
    refine X_ld rfl rfl rfl rfl ?_
    refine X_ld rfl rfl rfl rfl ?_
    refine X_push (v := .int 13) rfl (by decide +kernel) ?_
    refine X_scall l_X11_X11_statementAt (c_statementAt hG (d + 4) ) rfl rfl rfl (Nat.le_of_ble_eq_true rfl) (Nat.le_of_ble_eq_true rfl) (Nat.le_refl _) (Nat.le_of_ble_eq_true rfl) (Nat.le_of_ble_eq_true rfl) ?_
    refine X_ld rfl rfl rfl rfl ?_
    refine X_mcallv l_X11_X11_add (c_add hG (d + 4) w hw hw9 (275 + 30 * s + 13) (by omega) (m_statementAt hx (show (13 : Int32) = nI 13 from rfl))) rfl rfl rfl rfl (Nat.le_of_ble_eq_true rfl) (Nat.le_of_ble_eq_true rfl) (Nat.le_refl _) (Nat.le_of_ble_eq_true rfl) (Nat.le_of_ble_eq_true rfl) ?_
    refine X_row updR_self (upd (S w) (275 + 30 * s + 13) (S w (275 + 30 * s + 13) + nI (s_lm (S w)))) rfl (fun S1 e1 f1 => ?_)
    refine X_ld rfl rfl rfl rfl ?_
    refine X_push (v := .int (-1)) rfl (by decide +kernel) ?_
    refine X_icmp_eq rfl (fun c82 => ?_) (fun c82 => absurd (by decide) c82)
    exact X_vret rfl rfl ⟨by rw [f1, show s_tou (S w) gv s p z = upd (S w) (275 + 30 * s + 13) (S w (275 + 30 * s + 13) + nI (s_lm (S w))) from by unfold s_tou s_tou1; rw [if_pos c5, if_pos rfl, hwf.lmE.1]], rfl⟩ (Nat.le_of_ble_eq_true rfl) (Nat.le_of_ble_eq_true rfl)
theorem s_agF.sm {c c' : Nat → Int32} (h : s_agF c c') : s_sm c' = s_sm c := by unfold s_sm; rw [h 2 (by omega)]
theorem s_agF.cm {c c' : Nat → Int32} (h : s_agF c c') : s_cm c' = s_cm c := by unfold s_cm; rw [h 0 (by omega)]
theorem s_agF.lm {c c' : Nat → Int32} (h : s_agF c c') : s_lm c' = s_lm c := by unfold s_lm; rw [h 1 (by omega)]
theorem s_agF.trans {a b c : Nat → Int32} (h : s_agF a b) (g : s_agF b c) : s_agF a c := fun k hk => (h k hk).trans (g k hk)
theorem s_agr.trans {a b c : Nat → Int32} (h : s_agr a b) (g : s_agr b c) : s_agr a c := fun k hk => (h k hk).trans (g k hk)
theorem s_agF.wf {c c' : Nat → Int32} (h : s_agF c c') (hwf : s_wf c) (hk : ∀ s, s < s_sm c → s_kpok c' s) : s_wf c' := by
  have hc5 := hwf.cmE.2
  refine ⟨⟨?_, ?_, ?_, ?_⟩, fun j hj => ?_, fun s hs => ?_, fun s hs => hk s (by rw [← h.sm]; exact hs)⟩
  · rw [← h 0 (by omega)]; exact hwf.cm
  · rw [← h 1 (by omega)]; exact hwf.lm
  · rw [← h 2 (by omega)]; exact hwf.sm
  · rw [← h 8 (by omega)]; exact hwf.seen
  · rw [h.cm] at hj
    have hj5 : j < 5 := by omega
    obtain ⟨h1, h2, h3, h4⟩ := hwf.col j hj
    unfold s_colok
    rw [← h.col hj5 (x := 8) (by omega), ← h.col hj5 (x := 9) (by omega), ← h.col hj5 (x := 10) (by omega), ← h.col hj5 (x := 11) (by omega), ← h.col hj5 (x := 12) (by omega), ← h 8 (by omega)]
    exact ⟨h1, h2, h3, h4⟩
  · rw [h.sm] at hs
    obtain ⟨⟨f, t, h1, h2, h3, h4⟩, h5, h6⟩ := hwf.st s hs
    refine ⟨⟨f, t, h1, h2, (h _ (by omega)).symm.trans h3, (h _ (by omega)).symm.trans h4⟩, h.fok h5, ?_⟩
    rw [← h.from, ← h.to]
    intro k k1 k2 k3
    obtain ⟨g1, g2, g3⟩ := h6 k k1 k2 ((h.cod _ _).trans k3)
    unfold s_cmpok
    rw [← h.cod k 1, ← h.cod k 2, ← h.cod k 3, ← h.cod k 4, h.cm]
    exact ⟨g1, g2, g3⟩
theorem s_kpok_of {c c' : Nat → Int32} {s : Nat} (h : s_st c s 14 = s_st c' s 14) (hc : s_cm c' = s_cm c) (hk : s_kpok c s) : s_kpok c' s := by
  unfold s_kpok
  rw [← h, hc]
  exact hk
theorem s_mkg_kp {c gv : Nat → Int32} {s : Nat} (hwf : s_wf c) (hs0 : s < s_sm c) : ∀ q, q < s_sm c → s_kpok (s_mkg c gv s) q := fun q hq => by
  have hs : s < 6 := Nat.lt_of_lt_of_le hs0 hwf.smE.2
  have hcm := (s_mkg_agr (c := c) (gv := gv) hs).F.cm
  by_cases hf : s_fresh c s
  · rw [show s_mkg c gv s = c from if_pos hf]; exact hwf.kp q hq
  · by_cases e : q = s
    · subst e
      have e1 : s_st (s_mkg c gv q) q 14 = s_best c gv q (s_cm c) false := by
        rw [show s_mkg c gv q = _ from if_neg hf]
        show upd _ _ _ _ = _
        rw [updI_ne (by omega), updI_ne (by omega), updI_ne (by omega), updI_eq]
      unfold s_kpok
      rw [e1, hcm]
      rcases s_best_ok (c := c) (gv := gv) (s := q) (z := false) (s_cm c) with h | h
      · exact Or.inr (Or.inl h)
      · exact Or.inr (Or.inr h)
    · refine s_kpok_of ?_ hcm (hwf.kp q hq)
      rw [show s_mkg c gv s = _ from if_neg hf]
      show _ = upd _ _ _ _
      rw [updI_ne (by omega), updI_ne (by omega), updI_ne (by omega), updI_ne (by omega)]
theorem s_mkg_wf {c gv : Nat → Int32} {s : Nat} (hwf : s_wf c) (hs0 : s < s_sm c) : s_wf (s_mkg c gv s) :=
  (s_mkg_agr (Nat.lt_of_lt_of_le hs0 hwf.smE.2)).F.wf hwf (s_mkg_kp hwf hs0)
abbrev s_late (c : Nat → Int32) (s : Nat) : Prop := ¬ s_st c s 8 < c 7
def s_r1 (c gv : Nat → Int32) (s : Nat) : Nat → Int32 := if s_late c s then s_mkg c gv s else c
abbrev s_keep (c gv : Nat → Int32) (s : Nat) : Prop := s_late c s ∧ s_gen (s_mkg c gv s) s (s_st (s_mkg c gv s) s 15)
def s_rplan (c gv : Nat → Int32) (s : Nat) : Int32 := if s_keep c gv s then s_st (s_mkg c gv s) s 14 else s_best c gv s (s_cm c) true
def s_r2 (c gv : Nat → Int32) (s : Nat) : Nat → Int32 :=
  if s_keep c gv s then s_mkg c gv s else upd (upd (s_r1 c gv s) (275 + 30 * s + 9) (s_st (s_r1 c gv s) s 9 + 1)) (275 + 30 * s + 10) (s_st (s_r1 c gv s) s 10 + s_cost c gv s (s_rplan c gv s) true)
def s_r3 (c gv : Nat → Int32) (s : Nat) : Nat → Int32 := upd (s_r2 c gv s) (275 + 30 * s + 8) (s_st c s 8 + 1)
/-- the row after a run -/
def s_run (c gv : Nat → Int32) (s : Nat) : Nat → Int32 := s_tou (s_r3 c gv s) gv s (s_rplan c gv s) (!decide (s_keep c gv s))
/-- how many of the first n lines a statement finds -/
def s_cnt (c gv : Nat → Int32) (s : Nat) : Nat → Int32
  | 0 => 0
  | n + 1 => s_cnt c gv s n + (bif s_find c gv s n then 1 else 0)
theorem s_agF.cnt {c c' gv : Nat → Int32} {s : Nat} (h : s_agF c c') (hf : s_fok c s) : ∀ n, n ≤ 40 → s_cnt c gv s n = s_cnt c' gv s n
  | 0, _ => rfl
  | n + 1, hn => by
    show s_cnt c gv s n + (bif s_find c gv s n then 1 else 0) = s_cnt c' gv s n + (bif s_find c' gv s n then 1 else 0)
    rw [s_agF.cnt h hf n (by omega), h.find hf (by omega)]
theorem s_tou_agF {c gv : Nat → Int32} {s : Nat} {p : Int32} {z : Bool} (hs : s < 6) (hp : p = -1 ∨ ∃ j, j < 5 ∧ p = nI j) : s_agF c (s_tou c gv s p z) := by
  unfold s_tou
  by_cases h1 : p = -1
  · rw [if_pos h1]
    unfold s_tou1
    rw [if_pos rfl]
    exact s_agF_upd (fun _ _ => rfl) (by omega)
  · rw [if_neg h1]
    obtain ⟨j, hj, e⟩ := hp.resolve_left h1
    have ej : p.toNatClampNeg = j := by rw [e]; exact nI_clamp (by omega)
    unfold s_tou1
    rw [ej]
    by_cases h2 : s_chosen c gv s p z = -1
    · rw [if_pos h2]
      exact s_agF_upd (fun _ _ => rfl) (by omega)
    · rw [if_neg h2]
      exact s_agF_upd (s_agF_upd (fun _ _ => rfl) (by omega)) (by omega)
theorem X_rowC {G : XE} {M : XMI} {Z : XZ} {cells slots pc : Nat} {L : List (Option Value)} {st : List Value} {B : XH} {I : Nat → Int32} {T : Int64} {S S0 : Nat → Nat → Int32} {rd tx gv pl : Nat → Int32} {w : Nat} {c g : Nat → Int32} (f : S = updR S0 w c) (c1 : Nat → Int32) (hc : g = c1)
    (kk : ∀ S1, S1 w = c1 → S1 = updR S0 w c1 → x_W G M Z (mset B I T S1 rd tx gv pl) cells slots pc L st) : x_W G M Z (mset B I T (updR S w g) rd tx gv pl) cells slots pc L st := by
  rw [f, updR_updR, hc]
  exact kk _ updR_eq rfl
/-- what a call that may change the row leaves: thrown, value, the new row -/
def x_RetM (B : XH) (I : Nat → Int32) (T : Int64) (S : Nat → Nat → Int32) (rd tx : Nat → Int32) (w u : Nat) (A : Int32 × Int32 × Option (Nat → Int32)) : XH → Option Value → Prop := fun N r =>
  ∃ (gv' : Nat → Int32) (P' : Nat → Bool), N = mset B (match A.2.2 with | none => upd I 0 A.1 | some _ => s_ch (upd I 0 A.1) w u) T (match A.2.2 with | none => S | some c => updR S (s_nx w) c) rd tx gv' (fun i => b2 (P' i)) ∧ r = some (.int A.2.1)
section
variable {B : XH} {I : Nat → Int32} {T : Int64} {S : Nat → Nat → Int32} {rd tx gv : Nat → Int32} {P : Nat → Bool} {w u : Nat}
theorem a_retM0 {A : Int32 × Int32 × Option (Nat → Int32)} {t v : Int32} (h : A = (t, v, none)) : x_RetM B I T S rd tx w u A (mset B (upd I 0 t) T S rd tx gv (fun i => b2 (P i))) (some (.int v)) := ⟨gv, P, by rw [h], by rw [h]⟩
theorem a_retM1 {A : Int32 × Int32 × Option (Nat → Int32)} {t v : Int32} {c : Nat → Int32} {S' : Nat → Nat → Int32} (h : A = (t, v, some c)) (hS : S' = updR S (s_nx w) c) : x_RetM B I T S rd tx w u A (mset B (s_ch (upd I 0 t) w u) T S' rd tx gv (fun i => b2 (P i))) (some (.int v)) := ⟨gv, P, by rw [h, hS], by rw [h]⟩
end
theorem s_ch3 {I : Nat → Int32} {w u : Nat} : s_ch I w u 3 = nI (s_nx w) := by
  unfold s_ch
  rw [updI_ne (by decide), updI_eq]
theorem s_ch4 {I : Nat → Int32} {w u : Nat} : s_ch I w u 4 = nI (s_u8 u) := updI_eq
theorem s_ch_ne {I : Nat → Int32} {w u k : Nat} (h3 : k ≠ 3) (h4 : k ≠ 4) : s_ch I w u k = I k := by
  unfold s_ch
  rw [updI_ne h4, updI_ne h3]
def a_run (c : Nat → Int32) (x v0 v1 v2 v3 : Int32) : Int32 × Int32 × Option (Nat → Int32) :=
  if (0 : Int32) ≤ x ∧ x ≤ c 2 - 1 then (if s_vok c (n_ x) v0 v1 v2 v3 then (0, s_cnt c (s_gv v0 v1 v2 v3) (n_ x) (s_lm c), some (s_run c (s_gv v0 v1 v2 v3) (n_ x))) else (2, 0, none)) else (1, 0, none)
theorem s_keep_late {c gv : Nat → Int32} {s : Nat} (h : ¬ s_late c s) : ¬ s_keep c gv s := fun q => h q.1
section
variable {c gv : Nat → Int32} {s : Nat}
theorem s_mkg_kept (hwf : s_wf c) (hs0 : s < s_sm c) : s_st (s_mkg c gv s) s 14 = -1 ∨ ∃ j, j < s_cm c ∧ s_st (s_mkg c gv s) s 14 = nI j := by
  have hs : s < 6 := Nat.lt_of_lt_of_le hs0 hwf.smE.2
  by_cases hf : s_fresh c s
  · rw [show s_mkg c gv s = c from if_pos hf]
    exact (hwf.kp s hs0).resolve_left hf.1
  · have e1 : s_st (s_mkg c gv s) s 14 = s_best c gv s (s_cm c) false := by
      rw [show s_mkg c gv s = _ from if_neg hf]
      show upd _ _ _ _ = _
      rw [updI_ne (by omega), updI_ne (by omega), updI_ne (by omega), updI_eq]
    rw [e1]
    exact s_best_ok (s_cm c)
theorem s_rplan_ok (hwf : s_wf c) (hs0 : s < s_sm c) : s_rplan c gv s = -1 ∨ ∃ j, j < s_cm c ∧ s_rplan c gv s = nI j := by
  by_cases h : s_keep c gv s
  · rw [show s_rplan c gv s = _ from if_pos h]; exact s_mkg_kept hwf hs0
  · rw [show s_rplan c gv s = _ from if_neg h]; exact s_best_ok (s_cm c)
theorem s_rplan5 (hwf : s_wf c) (hs0 : s < s_sm c) : s_rplan c gv s = -1 ∨ ∃ j, j < 5 ∧ s_rplan c gv s = nI j := by
  have h5 := hwf.cmE.2
  rcases s_rplan_ok (gv := gv) hwf hs0 with h | ⟨j, h1, h2⟩
  · exact Or.inl h
  · exact Or.inr ⟨j, by omega, h2⟩
theorem s_r1_agr (hs : s < 6) : s_agr c (s_r1 c gv s) := by
  unfold s_r1
  by_cases h : s_late c s
  · rw [if_pos h]; exact s_mkg_agr hs
  · rw [if_neg h]; exact s_agr_rfl
theorem s_r2_agr (hs : s < 6) : s_agr c (s_r2 c gv s) := by
  unfold s_r2
  by_cases h : s_keep c gv s
  · rw [if_pos h]; exact s_mkg_agr hs
  · rw [if_neg h]; exact s_agr_upd (s_agr_upd (s_r1_agr hs) (by omega)) (by omega)
theorem s_mkg_8 : s_st (s_mkg c gv s) s 8 = s_st c s 8 := by
  by_cases hf : s_fresh c s
  · rw [show s_mkg c gv s = c from if_pos hf]
  · rw [show s_mkg c gv s = _ from if_neg hf]
    show upd _ _ _ _ = _
    rw [updI_ne (by omega), updI_ne (by omega), updI_ne (by omega), updI_ne (by omega)]
theorem s_r2_8 : s_r2 c gv s (275 + 30 * s + 8) = c (275 + 30 * s + 8) := by
  unfold s_r2
  by_cases h : s_keep c gv s
  · rw [if_pos h]; exact s_mkg_8
  · rw [if_neg h, updI_ne (by omega), updI_ne (by omega)]
    unfold s_r1
    by_cases h : s_late c s
    · rw [if_pos h]; exact s_mkg_8
    · rw [if_neg h]
theorem s_r3_agr (hs : s < 6) : s_agr c (s_r3 c gv s) := s_agr_upd (s_r2_agr hs) (by omega)
theorem s_r1_kp (hwf : s_wf c) (hs0 : s < s_sm c) : ∀ q, q < s_sm c → s_kpok (s_r1 c gv s) q := fun q hq => by
  unfold s_r1
  by_cases h : s_late c s
  · rw [if_pos h]; exact s_mkg_kp hwf hs0 q hq
  · rw [if_neg h]; exact hwf.kp q hq
theorem s_kpok_upd {k : Nat} {v : Int32} (hk : 275 ≤ k ∧ (k - 275) % 30 ≠ 14) {q : Nat} (h : s_kpok c q) : s_kpok (upd c k v) q :=
  s_kpok_of (by show _ = upd _ _ _ _; rw [updI_ne (by omega)]) (by unfold s_cm; rw [updI_ne (by omega)]) h
theorem s_r3_wf (hwf : s_wf c) (hs0 : s < s_sm c) : s_wf (s_r3 c gv s) := by
  have hs : s < 6 := Nat.lt_of_lt_of_le hs0 hwf.smE.2
  refine (s_r3_agr hs).F.wf hwf fun q hq => s_kpok_upd (by omega) ?_
  unfold s_r2
  by_cases h : s_keep c gv s
  · rw [if_pos h]; exact s_mkg_kp hwf hs0 q hq
  · rw [if_neg h]; exact s_kpok_upd (by omega) (s_kpok_upd (by omega) (s_r1_kp hwf hs0 q hq))
theorem s_run_agF (hwf : s_wf c) (hs0 : s < s_sm c) : s_agF c (s_run c gv s) :=
  have hs : s < 6 := Nat.lt_of_lt_of_le hs0 hwf.smE.2
  (s_r3_agr hs).F.trans (s_tou_agF hs (s_rplan5 hwf hs0))
end
theorem c_run {G : XE} (hG : x_Kn G) {B : XH} {I : Nat → Int32} {T : Int64} {S : Nat → Nat → Int32} {rd tx gv : Nat → Int32} {P : Nat → Bool} (d : Nat) (w : Nat) (hw : I 3 = nI w) (hw9 : w < 9) (u : Nat) (hu : I 4 = nI u) (hu8 : u ≤ 8) (hwf : s_wf (S w)) {x v0 v1 v2 v3 : Int32} : x_M G mX11_run (d + 9) 0 0 [.ref 275, .int x, .int v0, .int v1, .int v2, .int v3] (mset B I T S rd tx gv (fun i => b2 (P i))) (x_RetM B I T S rd tx w u (a_run (S w) x v0 v1 v2 v3)) x_noX := by
  refine X_M hG okX11_run rfl (L := [some (.ref 275), some (.int x), some (.int v0), some (.int v1), some (.int v2), some (.int v3), none, none, none, none, none]) rfl (Nat.le_of_ble_eq_true rfl) (fun ad0 nb0 => ?_)
  have hcm5 := hwf.cmE.2
  have hlm40 := hwf.lmE.2
  have hsm6 := hwf.smE.2
  refine X_ld rfl rfl rfl rfl ?_
  refine X_ld rfl rfl rfl rfl ?_
  by_cases h2 : (0 : Int32) ≤ x ∧ x ≤ S w 2 - 1
  · refine X_mcall l_X11_X11_noStatement (c_noStatementT hG (d + 7) w hw hw9 h2) rfl rfl rfl rfl (Nat.le_of_ble_eq_true rfl) (Nat.le_of_ble_eq_true rfl) (Nat.le_refl _) (Nat.le_of_ble_eq_true rfl) (Nat.le_of_ble_eq_true rfl) ?_
    refine X_if_ne rfl (fun c5 => absurd (by decide) c5) (fun c5 => ?_)
    obtain ⟨s, hs1, hs2⟩ := m_rng hwf.smE.1 (by have := hwf.smE.2; omega) h2
    have es : n_ x = s := by unfold n_; rw [hs2]; exact nI_clamp (by omega)
    have hko := hwf.kok hs1
    have hfo := hwf.fok hs1
    refine X_ld rfl rfl rfl rfl ?_
    refine X_ld rfl rfl rfl rfl ?_
    refine X_ld rfl rfl rfl rfl ?_
    refine X_ld rfl rfl rfl rfl ?_
    refine X_ld rfl rfl rfl rfl ?_
    refine X_ld rfl rfl rfl rfl ?_
    by_cases h16 : s_vok (S w) s v0 v1 v2 v3
    · refine X_mcall l_X11_X11_takesValues (c_takesValuesT hG (d + 5) w (updI_I3 hw) hw9 s (by omega) hs2 h16 updI_eq) rfl rfl rfl rfl (Nat.le_of_ble_eq_true rfl) (Nat.le_of_ble_eq_true rfl) (Nat.le_refl _) (Nat.le_of_ble_eq_true rfl) (Nat.le_of_ble_eq_true rfl) ?_
      refine X_if_ne rfl (fun c19 => ?_) (fun c19 => absurd c19 (by decide))
      refine X_ld rfl rfl rfl rfl ?_
      refine X_mcallv l_X11_X11_change (c_change hG (d + 8) w (updI_I3 hw) hw9 u ((updI_ne (by decide)).trans hu) hu8) rfl rfl rfl rfl (Nat.le_of_ble_eq_true rfl) (Nat.le_of_ble_eq_true rfl) (Nat.le_refl _) (Nat.le_of_ble_eq_true rfl) (Nat.le_of_ble_eq_true rfl) ?_
      refine X_rowN (fun S1 e1 f1 => ?_)
      refine X_ld rfl rfl rfl rfl ?_
      refine X_ld rfl rfl rfl rfl ?_
      refine X_push (v := .int 8) rfl (by decide +kernel) ?_
      refine X_mcall l_X11_X11_ofStatement (c_ofStatement hG (d + 7) (s_nx w) s_ch3 s_nx_lt s 8 (by omega) hs2 (show (8 : Int32) = nI 8 from rfl)) rfl rfl rfl rfl (Nat.le_of_ble_eq_true rfl) (Nat.le_of_ble_eq_true rfl) (Nat.le_refl _) (Nat.le_of_ble_eq_true rfl) (Nat.le_of_ble_eq_true rfl) ?_
      refine X_ld rfl rfl rfl rfl ?_
      refine X_push (v := .int 7) rfl (by decide +kernel) ?_
      refine X_mcall l_X11_X11_get (c_get hG (d + 8) (s_nx w) s_ch3 s_nx_lt 7 (by omega) (show (7 : Int32) = nI 7 from rfl)) rfl rfl rfl rfl (Nat.le_of_ble_eq_true rfl) (Nat.le_of_ble_eq_true rfl) (Nat.le_refl _) (Nat.le_of_ble_eq_true rfl) (Nat.le_of_ble_eq_true rfl) ?_
      refine X_icmp_lt rfl (fun c41 => ?_) (fun c41 => ?_)
      · have hl : ¬ s_late (S w) s := fun q => q (by rw [e1] at c41; exact c41)
        refine X_push (v := .int 0) rfl (by decide +kernel) ?_
        refine X_st rfl rfl rfl ?_
        refine X_ld rfl rfl rfl rfl ?_
        refine X_if_eq rfl (fun c53 => ?_) (fun c53 => absurd (by decide) c53)
        have e2 : S1 (s_nx w) = s_r1 (S w) (s_gv v0 v1 v2 v3) s := e1.trans (if_neg hl).symm
        have f2 : S1 = updR S (s_nx w) (s_r1 (S w) (s_gv v0 v1 v2 v3) s) := f1.trans (congrArg _ (if_neg hl).symm)
        have a2 : s_agr (S w) (S1 (s_nx w)) := by rw [e1]; exact s_agr_rfl
        refine X_ld rfl rfl rfl rfl ?_
        refine X_if_eq rfl (fun c63 => ?_) (fun c63 => absurd (by decide) c63)
        have hkp : ¬ s_keep (S w) (s_gv v0 v1 v2 v3) s := fun q => hl q.1
        refine X_push (v := .int 0) rfl (by decide +kernel) ?_
        refine X_st rfl rfl rfl ?_
        refine X_ld rfl rfl rfl rfl ?_
        refine X_if_eq rfl (fun c90 => ?_) (fun c90 => absurd (by decide) c90)
        refine X_ld rfl rfl rfl rfl ?_
        refine X_ld rfl rfl rfl rfl ?_
        refine X_push (v := .int 1) rfl (by decide +kernel) ?_
        refine X_mcall l_X11_X11_bestPlan (c_bestPlan hG (d + 2) (s_nx w) s_ch3 s_nx_lt (s_cm (S w)) ((a2 0 (by omega)).symm.trans hwf.cmE.1) hwf.cmE.2 s (by omega) (a2.F.kok hko) true hs2) rfl rfl rfl rfl (Nat.le_of_ble_eq_true rfl) (Nat.le_of_ble_eq_true rfl) (Nat.le_refl _) (Nat.le_of_ble_eq_true rfl) (Nat.le_of_ble_eq_true rfl) ?_
        refine X_stk (congrArg (fun q => Value.int q :: _) (show s_best (S1 (s_nx w)) (s_gv v0 v1 v2 v3) s (s_cm (S w)) true = s_rplan (S w) (s_gv v0 v1 v2 v3) s by rw [← a2.best hko hwf.cmE.2]; exact (if_neg hkp).symm)) ?_
        have hpl := s_rplan5 (gv := (s_gv v0 v1 v2 v3)) hwf hs1
        refine X_st rfl rfl rfl ?_
        refine X_ld rfl rfl rfl rfl ?_
        refine X_if_ne rfl (fun c113 => absurd (by decide) c113) (fun c113 => ?_)
        refine X_ld rfl rfl rfl rfl ?_
        refine X_ld rfl rfl rfl rfl ?_
        refine X_push (v := .int 9) rfl (by decide +kernel) ?_
        refine X_scall l_X11_X11_statementAt (c_statementAt hG (d + 8) ) rfl rfl rfl (Nat.le_of_ble_eq_true rfl) (Nat.le_of_ble_eq_true rfl) (Nat.le_refl _) (Nat.le_of_ble_eq_true rfl) (Nat.le_of_ble_eq_true rfl) ?_
        refine X_push (v := .int 1) rfl (by decide +kernel) ?_
        refine X_mcallv l_X11_X11_add (c_add hG (d + 8) (s_nx w) s_ch3 s_nx_lt (275 + 30 * s + 9) (by omega) (m_statementAt hs2 (show (9 : Int32) = nI 9 from rfl))) rfl rfl rfl rfl (Nat.le_of_ble_eq_true rfl) (Nat.le_of_ble_eq_true rfl) (Nat.le_refl _) (Nat.le_of_ble_eq_true rfl) (Nat.le_of_ble_eq_true rfl) ?_
        refine X_row f2 (upd (s_r1 (S w) (s_gv v0 v1 v2 v3) s) (275 + 30 * s + 9) (s_st (s_r1 (S w) (s_gv v0 v1 v2 v3) s) s 9 + 1)) (by rw [e2]) (fun S3 e3 f3 => ?_)
        have a3 : s_agr (S w) (S3 (s_nx w)) := by rw [e3]; exact s_agr_upd (s_r1_agr (by omega)) (by omega)
        refine X_ld rfl rfl rfl rfl ?_
        refine X_ld rfl rfl rfl rfl ?_
        refine X_push (v := .int 10) rfl (by decide +kernel) ?_
        refine X_scall l_X11_X11_statementAt (c_statementAt hG (d + 8) ) rfl rfl rfl (Nat.le_of_ble_eq_true rfl) (Nat.le_of_ble_eq_true rfl) (Nat.le_refl _) (Nat.le_of_ble_eq_true rfl) (Nat.le_of_ble_eq_true rfl) ?_
        refine X_ld rfl rfl rfl rfl ?_
        refine X_ld rfl rfl rfl rfl ?_
        refine X_ld rfl rfl rfl rfl ?_
        refine X_push (v := .int 1) rfl (by decide +kernel) ?_
        refine X_mcall l_X11_X11_costOf (c_costOf hG (d + 3) (s_nx w) s_ch3 s_nx_lt s (by omega) (a3.F.kok hko) true hs2 hpl) rfl rfl rfl rfl (Nat.le_of_ble_eq_true rfl) (Nat.le_of_ble_eq_true rfl) (Nat.le_refl _) (Nat.le_of_ble_eq_true rfl) (Nat.le_of_ble_eq_true rfl) ?_
        refine X_mcallv l_X11_X11_add (c_add hG (d + 8) (s_nx w) s_ch3 s_nx_lt (275 + 30 * s + 10) (by omega) (m_statementAt hs2 (show (10 : Int32) = nI 10 from rfl))) rfl rfl rfl rfl (Nat.le_of_ble_eq_true rfl) (Nat.le_of_ble_eq_true rfl) (Nat.le_refl _) (Nat.le_of_ble_eq_true rfl) (Nat.le_of_ble_eq_true rfl) ?_
        refine X_row f3 (s_r2 (S w) (s_gv v0 v1 v2 v3) s) (by rw [show s_r2 (S w) (s_gv v0 v1 v2 v3) s = _ from if_neg hkp, a3.cost hko hpl, e3, updI_ne (by omega)]) (fun S4 e4 f4 => ?_)
        refine X_ld rfl rfl rfl rfl ?_
        refine X_ld rfl rfl rfl rfl ?_
        refine X_push (v := .int 8) rfl (by decide +kernel) ?_
        refine X_scall l_X11_X11_statementAt (c_statementAt hG (d + 8) ) rfl rfl rfl (Nat.le_of_ble_eq_true rfl) (Nat.le_of_ble_eq_true rfl) (Nat.le_refl _) (Nat.le_of_ble_eq_true rfl) (Nat.le_of_ble_eq_true rfl) ?_
        refine X_push (v := .int 1) rfl (by decide +kernel) ?_
        refine X_mcallv l_X11_X11_add (c_add hG (d + 8) (s_nx w) s_ch3 s_nx_lt (275 + 30 * s + 8) (by omega) (m_statementAt hs2 (show (8 : Int32) = nI 8 from rfl))) rfl rfl rfl rfl (Nat.le_of_ble_eq_true rfl) (Nat.le_of_ble_eq_true rfl) (Nat.le_refl _) (Nat.le_of_ble_eq_true rfl) (Nat.le_of_ble_eq_true rfl) ?_
        refine X_row f4 (s_r3 (S w) (s_gv v0 v1 v2 v3) s) (by rw [e4, s_r2_8]; rfl) (fun S5 e5 f5 => ?_)
        refine X_ld rfl rfl rfl rfl ?_
        refine X_ld rfl rfl rfl rfl ?_
        refine X_ld rfl rfl rfl rfl ?_
        refine X_ld rfl rfl rfl rfl ?_
        refine X_if_ne rfl (fun c162 => absurd (by decide) c162) (fun c162 => ?_)
        refine X_push (v := .int 1) rfl (by decide +kernel) ?_
        refine X_goto rfl ?_
        refine X_mcallv l_X11_X11_touches (c_touches hG (d + 3) (s_nx w) s_ch3 s_nx_lt (by rw [e5]; exact s_r3_wf hwf hs1) s (by rw [e5, (s_r3_agr (by omega)).F.sm]; exact hs1) hs2 hpl true) rfl rfl rfl rfl (Nat.le_of_ble_eq_true rfl) (Nat.le_of_ble_eq_true rfl) (Nat.le_refl _) (Nat.le_of_ble_eq_true rfl) (Nat.le_of_ble_eq_true rfl) ?_
        refine X_rowC f5 (s_run (S w) (s_gv v0 v1 v2 v3) s) (by rw [e5, show s_run (S w) (s_gv v0 v1 v2 v3) s = s_tou (s_r3 (S w) (s_gv v0 v1 v2 v3) s) (s_gv v0 v1 v2 v3) s (s_rplan (S w) (s_gv v0 v1 v2 v3) s) (!decide (s_keep (S w) (s_gv v0 v1 v2 v3) s)) from rfl, decide_eq_false hkp]; rfl) (fun S6 e6 f6 => ?_)
        have a6 : s_agF (S w) (S6 (s_nx w)) := by rw [e6]; exact s_run_agF hwf hs1
        refine X_push (v := .int 0) rfl (by decide +kernel) ?_
        refine X_st rfl rfl rfl ?_
        refine X_push (v := .int 0) rfl (by decide +kernel) ?_
        refine X_st rfl rfl rfl ?_
        have loop : x_W G mX11_run (x_Z G (d + 9) 0 0 ad0 nb0 (x_RetM B I T S rd tx w u (a_run (S w) x v0 v1 v2 v3)) x_noX) (mset B (s_ch (upd I 0 0) w u) T S6 rd tx (s_gv v0 v1 v2 v3) (fun i => b2 (s_pls (S6 (s_nx w)) (s_gv v0 v1 v2 v3) s P (s_lm (S w)) i))) 0 0 215 [some (.ref 275), some (.int x), none, none, none, none, none, none, none, some (.int (s_cnt (S6 (s_nx w)) (s_gv v0 v1 v2 v3) s (s_lm (S w)))), some (.int (nI (s_lm (S w))))] [] → ∀ (f9 k : Nat), k + f9 = (s_lm (S w)) → x_W G mX11_run (x_Z G (d + 9) 0 0 ad0 nb0 (x_RetM B I T S rd tx w u (a_run (S w) x v0 v1 v2 v3)) x_noX) (mset B (s_ch (upd I 0 0) w u) T S6 rd tx (s_gv v0 v1 v2 v3) (fun i => b2 (s_pls (S6 (s_nx w)) (s_gv v0 v1 v2 v3) s P k i))) 0 0 179 [some (.ref 275), some (.int x), none, none, none, none, none, none, none, some (.int (s_cnt (S6 (s_nx w)) (s_gv v0 v1 v2 v3) s k)), some (.int (nI k))] [] := by
          intro K f9
          induction f9 with
          | zero =>
            intro k e0 
            obtain rfl : k = (s_lm (S w)) := by omega
            refine X_ld rfl rfl rfl rfl ?_
            refine X_ld rfl rfl rfl rfl ?_
            refine X_push (v := .int 1) rfl (by decide +kernel) ?_
            refine X_mcall l_X11_X11_get (c_get hG (d + 8) (s_nx w) s_ch3 s_nx_lt 1 (by omega) (show (1 : Int32) = nI 1 from rfl)) rfl rfl rfl rfl (Nat.le_of_ble_eq_true rfl) (Nat.le_of_ble_eq_true rfl) (Nat.le_refl _) (Nat.le_of_ble_eq_true rfl) (Nat.le_of_ble_eq_true rfl) ?_
            refine X_icmp_ge rfl (fun c186 => ?_) (fun c186 => absurd ((n_le ((a6 1 (by omega)).symm.trans hwf.lmE.1) rfl (by omega) (by omega)).mpr (by omega)) c186)
            exact K
          | succ f9 ih =>
            intro k e0 
            refine X_ld rfl rfl rfl rfl ?_
            refine X_ld rfl rfl rfl rfl ?_
            refine X_push (v := .int 1) rfl (by decide +kernel) ?_
            refine X_mcall l_X11_X11_get (c_get hG (d + 8) (s_nx w) s_ch3 s_nx_lt 1 (by omega) (show (1 : Int32) = nI 1 from rfl)) rfl rfl rfl rfl (Nat.le_of_ble_eq_true rfl) (Nat.le_of_ble_eq_true rfl) (Nat.le_refl _) (Nat.le_of_ble_eq_true rfl) (Nat.le_of_ble_eq_true rfl) ?_
            refine X_icmp_ge rfl (fun c186 => absurd ((n_le ((a6 1 (by omega)).symm.trans hwf.lmE.1) rfl (by omega) (by omega)).mp c186) (by omega)) (fun c186 => ?_)
            refine X_ld rfl rfl rfl rfl ?_
            refine X_ld rfl rfl rfl rfl ?_
            refine X_ld rfl rfl rfl rfl ?_
            refine X_ld rfl rfl rfl rfl ?_
            refine X_mcall l_X11_X11_finds (c_finds hG (d + 4) (s_nx w) s_ch3 s_nx_lt s k (by omega) (by omega) (a6.kok hko) (a6.fok hfo) hs2 rfl (P := s_pls (S6 (s_nx w)) (s_gv v0 v1 v2 v3) s P k)) rfl rfl rfl rfl (Nat.le_of_ble_eq_true rfl) (Nat.le_of_ble_eq_true rfl) (Nat.le_refl _) (Nat.le_of_ble_eq_true rfl) (Nat.le_of_ble_eq_true rfl) ?_
            refine X_if_eq rfl (fun c198 => ?_) (fun c198 => ?_)
            · have h198 : (s_find (S6 (s_nx w)) (s_gv v0 v1 v2 v3) s k) = false := b2_0 c198
              refine X_push (v := .int 0) rfl (by decide +kernel) ?_
              refine X_bin rfl rfl ?_
              refine X_st rfl rfl rfl ?_
              refine X_iinc rfl rfl rfl ?_
              refine X_goto rfl ?_
              have e : s_cnt (S6 (s_nx w)) (s_gv v0 v1 v2 v3) s (k + 1) = s_cnt (S6 (s_nx w)) (s_gv v0 v1 v2 v3) s k + 0 := (show s_cnt (S6 (s_nx w)) (s_gv v0 v1 v2 v3) s k + (bif s_find (S6 (s_nx w)) (s_gv v0 v1 v2 v3) s k then 1 else 0) = _ from by rw [h198]; rfl)
              refine X_loc (L' := [some (.ref 275), some (.int x), none, none, none, none, none, none, none, some (.int (s_cnt (S6 (s_nx w)) (s_gv v0 v1 v2 v3) s (k + 1))), some (.int (nI (k + 1)))]) ⟨rfl, rfl, congrArg Value.int e, congrArg Value.int (m_inc rfl).symm, trivial⟩ ?_
              exact ih (k + 1) (by omega)
            · have h198 : (s_find (S6 (s_nx w)) (s_gv v0 v1 v2 v3) s k) = true := b2_1 c198
              refine X_push (v := .int 1) rfl (by decide +kernel) ?_
              refine X_goto rfl ?_
              refine X_bin rfl rfl ?_
              refine X_st rfl rfl rfl ?_
              refine X_iinc rfl rfl rfl ?_
              refine X_goto rfl ?_
              have e : s_cnt (S6 (s_nx w)) (s_gv v0 v1 v2 v3) s (k + 1) = s_cnt (S6 (s_nx w)) (s_gv v0 v1 v2 v3) s k + 1 := (show s_cnt (S6 (s_nx w)) (s_gv v0 v1 v2 v3) s k + (bif s_find (S6 (s_nx w)) (s_gv v0 v1 v2 v3) s k then 1 else 0) = _ from by rw [h198]; rfl)
              refine X_loc (L' := [some (.ref 275), some (.int x), none, none, none, none, none, none, none, some (.int (s_cnt (S6 (s_nx w)) (s_gv v0 v1 v2 v3) s (k + 1))), some (.int (nI (k + 1)))]) ⟨rfl, rfl, congrArg Value.int e, congrArg Value.int (m_inc rfl).symm, trivial⟩ ?_
              exact ih (k + 1) (by omega)
        refine X_heap (N' := mset B (s_ch (upd I 0 0) w u) T S6 rd tx (s_gv v0 v1 v2 v3) (fun i => b2 (s_pls (S6 (s_nx w)) (s_gv v0 v1 v2 v3) s P 0 i))) rfl ?_
        refine X_loc (L' := [some (.ref 275), some (.int x), none, none, none, none, none, none, none, some (.int (s_cnt (S6 (s_nx w)) (s_gv v0 v1 v2 v3) s 0)), some (.int (nI 0))]) ⟨rfl, rfl, rfl, rfl, trivial⟩ ?_
        refine loop ?_ _ 0 (Nat.zero_add _)
        refine X_ld rfl rfl rfl rfl ?_
        exact X_iret rfl rfl (a_retM1 (by unfold a_run; rw [if_pos h2, es, if_pos h16, ← a6.cnt hfo _ hwf.lmE.2]) f6) (Nat.le_of_ble_eq_true rfl) (Nat.le_of_ble_eq_true rfl)
      · have hl : s_late (S w) s := by rw [e1] at c41; exact c41
        refine X_push (v := .int 1) rfl (by decide +kernel) ?_
        refine X_goto rfl ?_
        refine X_st rfl rfl rfl ?_
        refine X_ld rfl rfl rfl rfl ?_
        refine X_if_eq rfl (fun c53 => absurd c53 (by decide)) (fun c53 => ?_)
        refine X_ld rfl rfl rfl rfl ?_
        refine X_ld rfl rfl rfl rfl ?_
        refine X_mcallv l_X11_X11_makesGeneric (c_makesGeneric hG (d + 1) (s_nx w) s_ch3 s_nx_lt (by rw [e1]; exact hwf) s (by rw [e1]; exact hs1) hs2) rfl rfl rfl rfl (Nat.le_of_ble_eq_true rfl) (Nat.le_of_ble_eq_true rfl) (Nat.le_refl _) (Nat.le_of_ble_eq_true rfl) (Nat.le_of_ble_eq_true rfl) ?_
        refine X_rowC f1 (s_r1 (S w) (s_gv v0 v1 v2 v3) s) (by rw [e1]; exact (if_pos hl).symm) (fun S2 e2 f2 => ?_)
        have a2 : s_agr (S w) (S2 (s_nx w)) := by rw [e2]; exact s_r1_agr (by omega)
        refine X_ld rfl rfl rfl rfl ?_
        refine X_if_eq rfl (fun c63 => absurd c63 (by decide)) (fun c63 => ?_)
        refine X_ld rfl rfl rfl rfl ?_
        refine X_ld rfl rfl rfl rfl ?_
        refine X_ld rfl rfl rfl rfl ?_
        refine X_ld rfl rfl rfl rfl ?_
        refine X_push (v := .int 15) rfl (by decide +kernel) ?_
        refine X_mcall l_X11_X11_ofStatement (c_ofStatement hG (d + 7) (s_nx w) s_ch3 s_nx_lt s 15 (by omega) hs2 (show (15 : Int32) = nI 15 from rfl)) rfl rfl rfl rfl (Nat.le_of_ble_eq_true rfl) (Nat.le_of_ble_eq_true rfl) (Nat.le_refl _) (Nat.le_of_ble_eq_true rfl) (Nat.le_of_ble_eq_true rfl) ?_
        refine X_mcall l_X11_X11_isGeneric (c_isGeneric hG (d + 6) (s_nx w) s_ch3 s_nx_lt s (by omega) hs2) rfl rfl rfl rfl (Nat.le_of_ble_eq_true rfl) (Nat.le_of_ble_eq_true rfl) (Nat.le_refl _) (Nat.le_of_ble_eq_true rfl) (Nat.le_of_ble_eq_true rfl) ?_
        refine X_if_eq rfl (fun c78 => ?_) (fun c78 => ?_)
        · have h78 : ¬ (s_gen (S2 (s_nx w)) s (S2 (s_nx w) (275 + 30 * s + 15))) := fun q => bI_ne.mpr q c78
          have hkp : ¬ s_keep (S w) (s_gv v0 v1 v2 v3) s := fun q => h78 (by rw [e2, show s_r1 (S w) (s_gv v0 v1 v2 v3) s = _ from if_pos hl]; exact q.2)
          refine X_push (v := .int 0) rfl (by decide +kernel) ?_
          refine X_st rfl rfl rfl ?_
          refine X_ld rfl rfl rfl rfl ?_
          refine X_if_eq rfl (fun c90 => ?_) (fun c90 => absurd (by decide) c90)
          refine X_ld rfl rfl rfl rfl ?_
          refine X_ld rfl rfl rfl rfl ?_
          refine X_push (v := .int 1) rfl (by decide +kernel) ?_
          refine X_mcall l_X11_X11_bestPlan (c_bestPlan hG (d + 2) (s_nx w) s_ch3 s_nx_lt (s_cm (S w)) ((a2 0 (by omega)).symm.trans hwf.cmE.1) hwf.cmE.2 s (by omega) (a2.F.kok hko) true hs2) rfl rfl rfl rfl (Nat.le_of_ble_eq_true rfl) (Nat.le_of_ble_eq_true rfl) (Nat.le_refl _) (Nat.le_of_ble_eq_true rfl) (Nat.le_of_ble_eq_true rfl) ?_
          refine X_stk (congrArg (fun q => Value.int q :: _) (show s_best (S2 (s_nx w)) (s_gv v0 v1 v2 v3) s (s_cm (S w)) true = s_rplan (S w) (s_gv v0 v1 v2 v3) s by rw [← a2.best hko hwf.cmE.2]; exact (if_neg hkp).symm)) ?_
          have hpl := s_rplan5 (gv := (s_gv v0 v1 v2 v3)) hwf hs1
          refine X_st rfl rfl rfl ?_
          refine X_ld rfl rfl rfl rfl ?_
          refine X_if_ne rfl (fun c113 => absurd (by decide) c113) (fun c113 => ?_)
          refine X_ld rfl rfl rfl rfl ?_
          refine X_ld rfl rfl rfl rfl ?_
          refine X_push (v := .int 9) rfl (by decide +kernel) ?_
          refine X_scall l_X11_X11_statementAt (c_statementAt hG (d + 8) ) rfl rfl rfl (Nat.le_of_ble_eq_true rfl) (Nat.le_of_ble_eq_true rfl) (Nat.le_refl _) (Nat.le_of_ble_eq_true rfl) (Nat.le_of_ble_eq_true rfl) ?_
          refine X_push (v := .int 1) rfl (by decide +kernel) ?_
          refine X_mcallv l_X11_X11_add (c_add hG (d + 8) (s_nx w) s_ch3 s_nx_lt (275 + 30 * s + 9) (by omega) (m_statementAt hs2 (show (9 : Int32) = nI 9 from rfl))) rfl rfl rfl rfl (Nat.le_of_ble_eq_true rfl) (Nat.le_of_ble_eq_true rfl) (Nat.le_refl _) (Nat.le_of_ble_eq_true rfl) (Nat.le_of_ble_eq_true rfl) ?_
          refine X_row f2 (upd (s_r1 (S w) (s_gv v0 v1 v2 v3) s) (275 + 30 * s + 9) (s_st (s_r1 (S w) (s_gv v0 v1 v2 v3) s) s 9 + 1)) (by rw [e2]) (fun S3 e3 f3 => ?_)
          have a3 : s_agr (S w) (S3 (s_nx w)) := by rw [e3]; exact s_agr_upd (s_r1_agr (by omega)) (by omega)
          refine X_ld rfl rfl rfl rfl ?_
          refine X_ld rfl rfl rfl rfl ?_
          refine X_push (v := .int 10) rfl (by decide +kernel) ?_
          refine X_scall l_X11_X11_statementAt (c_statementAt hG (d + 8) ) rfl rfl rfl (Nat.le_of_ble_eq_true rfl) (Nat.le_of_ble_eq_true rfl) (Nat.le_refl _) (Nat.le_of_ble_eq_true rfl) (Nat.le_of_ble_eq_true rfl) ?_
          refine X_ld rfl rfl rfl rfl ?_
          refine X_ld rfl rfl rfl rfl ?_
          refine X_ld rfl rfl rfl rfl ?_
          refine X_push (v := .int 1) rfl (by decide +kernel) ?_
          refine X_mcall l_X11_X11_costOf (c_costOf hG (d + 3) (s_nx w) s_ch3 s_nx_lt s (by omega) (a3.F.kok hko) true hs2 hpl) rfl rfl rfl rfl (Nat.le_of_ble_eq_true rfl) (Nat.le_of_ble_eq_true rfl) (Nat.le_refl _) (Nat.le_of_ble_eq_true rfl) (Nat.le_of_ble_eq_true rfl) ?_
          refine X_mcallv l_X11_X11_add (c_add hG (d + 8) (s_nx w) s_ch3 s_nx_lt (275 + 30 * s + 10) (by omega) (m_statementAt hs2 (show (10 : Int32) = nI 10 from rfl))) rfl rfl rfl rfl (Nat.le_of_ble_eq_true rfl) (Nat.le_of_ble_eq_true rfl) (Nat.le_refl _) (Nat.le_of_ble_eq_true rfl) (Nat.le_of_ble_eq_true rfl) ?_
          refine X_row f3 (s_r2 (S w) (s_gv v0 v1 v2 v3) s) (by rw [show s_r2 (S w) (s_gv v0 v1 v2 v3) s = _ from if_neg hkp, a3.cost hko hpl, e3, updI_ne (by omega)]) (fun S4 e4 f4 => ?_)
          refine X_ld rfl rfl rfl rfl ?_
          refine X_ld rfl rfl rfl rfl ?_
          refine X_push (v := .int 8) rfl (by decide +kernel) ?_
          refine X_scall l_X11_X11_statementAt (c_statementAt hG (d + 8) ) rfl rfl rfl (Nat.le_of_ble_eq_true rfl) (Nat.le_of_ble_eq_true rfl) (Nat.le_refl _) (Nat.le_of_ble_eq_true rfl) (Nat.le_of_ble_eq_true rfl) ?_
          refine X_push (v := .int 1) rfl (by decide +kernel) ?_
          refine X_mcallv l_X11_X11_add (c_add hG (d + 8) (s_nx w) s_ch3 s_nx_lt (275 + 30 * s + 8) (by omega) (m_statementAt hs2 (show (8 : Int32) = nI 8 from rfl))) rfl rfl rfl rfl (Nat.le_of_ble_eq_true rfl) (Nat.le_of_ble_eq_true rfl) (Nat.le_refl _) (Nat.le_of_ble_eq_true rfl) (Nat.le_of_ble_eq_true rfl) ?_
          refine X_row f4 (s_r3 (S w) (s_gv v0 v1 v2 v3) s) (by rw [e4, s_r2_8]; rfl) (fun S5 e5 f5 => ?_)
          refine X_ld rfl rfl rfl rfl ?_
          refine X_ld rfl rfl rfl rfl ?_
          refine X_ld rfl rfl rfl rfl ?_
          refine X_ld rfl rfl rfl rfl ?_
          refine X_if_ne rfl (fun c162 => absurd (by decide) c162) (fun c162 => ?_)
          refine X_push (v := .int 1) rfl (by decide +kernel) ?_
          refine X_goto rfl ?_
          refine X_mcallv l_X11_X11_touches (c_touches hG (d + 3) (s_nx w) s_ch3 s_nx_lt (by rw [e5]; exact s_r3_wf hwf hs1) s (by rw [e5, (s_r3_agr (by omega)).F.sm]; exact hs1) hs2 hpl true) rfl rfl rfl rfl (Nat.le_of_ble_eq_true rfl) (Nat.le_of_ble_eq_true rfl) (Nat.le_refl _) (Nat.le_of_ble_eq_true rfl) (Nat.le_of_ble_eq_true rfl) ?_
          refine X_rowC f5 (s_run (S w) (s_gv v0 v1 v2 v3) s) (by rw [e5, show s_run (S w) (s_gv v0 v1 v2 v3) s = s_tou (s_r3 (S w) (s_gv v0 v1 v2 v3) s) (s_gv v0 v1 v2 v3) s (s_rplan (S w) (s_gv v0 v1 v2 v3) s) (!decide (s_keep (S w) (s_gv v0 v1 v2 v3) s)) from rfl, decide_eq_false hkp]; rfl) (fun S6 e6 f6 => ?_)
          have a6 : s_agF (S w) (S6 (s_nx w)) := by rw [e6]; exact s_run_agF hwf hs1
          refine X_push (v := .int 0) rfl (by decide +kernel) ?_
          refine X_st rfl rfl rfl ?_
          refine X_push (v := .int 0) rfl (by decide +kernel) ?_
          refine X_st rfl rfl rfl ?_
          have loop : x_W G mX11_run (x_Z G (d + 9) 0 0 ad0 nb0 (x_RetM B I T S rd tx w u (a_run (S w) x v0 v1 v2 v3)) x_noX) (mset B (s_ch (upd I 0 0) w u) T S6 rd tx (s_gv v0 v1 v2 v3) (fun i => b2 (s_pls (S6 (s_nx w)) (s_gv v0 v1 v2 v3) s P (s_lm (S w)) i))) 0 0 215 [some (.ref 275), some (.int x), none, none, none, none, none, none, none, some (.int (s_cnt (S6 (s_nx w)) (s_gv v0 v1 v2 v3) s (s_lm (S w)))), some (.int (nI (s_lm (S w))))] [] → ∀ (f9 k : Nat), k + f9 = (s_lm (S w)) → x_W G mX11_run (x_Z G (d + 9) 0 0 ad0 nb0 (x_RetM B I T S rd tx w u (a_run (S w) x v0 v1 v2 v3)) x_noX) (mset B (s_ch (upd I 0 0) w u) T S6 rd tx (s_gv v0 v1 v2 v3) (fun i => b2 (s_pls (S6 (s_nx w)) (s_gv v0 v1 v2 v3) s P k i))) 0 0 179 [some (.ref 275), some (.int x), none, none, none, none, none, none, none, some (.int (s_cnt (S6 (s_nx w)) (s_gv v0 v1 v2 v3) s k)), some (.int (nI k))] [] := by
            intro K f9
            induction f9 with
            | zero =>
              intro k e0 
              obtain rfl : k = (s_lm (S w)) := by omega
              refine X_ld rfl rfl rfl rfl ?_
              refine X_ld rfl rfl rfl rfl ?_
              refine X_push (v := .int 1) rfl (by decide +kernel) ?_
              refine X_mcall l_X11_X11_get (c_get hG (d + 8) (s_nx w) s_ch3 s_nx_lt 1 (by omega) (show (1 : Int32) = nI 1 from rfl)) rfl rfl rfl rfl (Nat.le_of_ble_eq_true rfl) (Nat.le_of_ble_eq_true rfl) (Nat.le_refl _) (Nat.le_of_ble_eq_true rfl) (Nat.le_of_ble_eq_true rfl) ?_
              refine X_icmp_ge rfl (fun c186 => ?_) (fun c186 => absurd ((n_le ((a6 1 (by omega)).symm.trans hwf.lmE.1) rfl (by omega) (by omega)).mpr (by omega)) c186)
              exact K
            | succ f9 ih =>
              intro k e0 
              refine X_ld rfl rfl rfl rfl ?_
              refine X_ld rfl rfl rfl rfl ?_
              refine X_push (v := .int 1) rfl (by decide +kernel) ?_
              refine X_mcall l_X11_X11_get (c_get hG (d + 8) (s_nx w) s_ch3 s_nx_lt 1 (by omega) (show (1 : Int32) = nI 1 from rfl)) rfl rfl rfl rfl (Nat.le_of_ble_eq_true rfl) (Nat.le_of_ble_eq_true rfl) (Nat.le_refl _) (Nat.le_of_ble_eq_true rfl) (Nat.le_of_ble_eq_true rfl) ?_
              refine X_icmp_ge rfl (fun c186 => absurd ((n_le ((a6 1 (by omega)).symm.trans hwf.lmE.1) rfl (by omega) (by omega)).mp c186) (by omega)) (fun c186 => ?_)
              refine X_ld rfl rfl rfl rfl ?_
              refine X_ld rfl rfl rfl rfl ?_
              refine X_ld rfl rfl rfl rfl ?_
              refine X_ld rfl rfl rfl rfl ?_
              refine X_mcall l_X11_X11_finds (c_finds hG (d + 4) (s_nx w) s_ch3 s_nx_lt s k (by omega) (by omega) (a6.kok hko) (a6.fok hfo) hs2 rfl (P := s_pls (S6 (s_nx w)) (s_gv v0 v1 v2 v3) s P k)) rfl rfl rfl rfl (Nat.le_of_ble_eq_true rfl) (Nat.le_of_ble_eq_true rfl) (Nat.le_refl _) (Nat.le_of_ble_eq_true rfl) (Nat.le_of_ble_eq_true rfl) ?_
              refine X_if_eq rfl (fun c198 => ?_) (fun c198 => ?_)
              · have h198 : (s_find (S6 (s_nx w)) (s_gv v0 v1 v2 v3) s k) = false := b2_0 c198
                refine X_push (v := .int 0) rfl (by decide +kernel) ?_
                refine X_bin rfl rfl ?_
                refine X_st rfl rfl rfl ?_
                refine X_iinc rfl rfl rfl ?_
                refine X_goto rfl ?_
                have e : s_cnt (S6 (s_nx w)) (s_gv v0 v1 v2 v3) s (k + 1) = s_cnt (S6 (s_nx w)) (s_gv v0 v1 v2 v3) s k + 0 := (show s_cnt (S6 (s_nx w)) (s_gv v0 v1 v2 v3) s k + (bif s_find (S6 (s_nx w)) (s_gv v0 v1 v2 v3) s k then 1 else 0) = _ from by rw [h198]; rfl)
                refine X_loc (L' := [some (.ref 275), some (.int x), none, none, none, none, none, none, none, some (.int (s_cnt (S6 (s_nx w)) (s_gv v0 v1 v2 v3) s (k + 1))), some (.int (nI (k + 1)))]) ⟨rfl, rfl, congrArg Value.int e, congrArg Value.int (m_inc rfl).symm, trivial⟩ ?_
                exact ih (k + 1) (by omega)
              · have h198 : (s_find (S6 (s_nx w)) (s_gv v0 v1 v2 v3) s k) = true := b2_1 c198
                refine X_push (v := .int 1) rfl (by decide +kernel) ?_
                refine X_goto rfl ?_
                refine X_bin rfl rfl ?_
                refine X_st rfl rfl rfl ?_
                refine X_iinc rfl rfl rfl ?_
                refine X_goto rfl ?_
                have e : s_cnt (S6 (s_nx w)) (s_gv v0 v1 v2 v3) s (k + 1) = s_cnt (S6 (s_nx w)) (s_gv v0 v1 v2 v3) s k + 1 := (show s_cnt (S6 (s_nx w)) (s_gv v0 v1 v2 v3) s k + (bif s_find (S6 (s_nx w)) (s_gv v0 v1 v2 v3) s k then 1 else 0) = _ from by rw [h198]; rfl)
                refine X_loc (L' := [some (.ref 275), some (.int x), none, none, none, none, none, none, none, some (.int (s_cnt (S6 (s_nx w)) (s_gv v0 v1 v2 v3) s (k + 1))), some (.int (nI (k + 1)))]) ⟨rfl, rfl, congrArg Value.int e, congrArg Value.int (m_inc rfl).symm, trivial⟩ ?_
                exact ih (k + 1) (by omega)
          refine X_heap (N' := mset B (s_ch (upd I 0 0) w u) T S6 rd tx (s_gv v0 v1 v2 v3) (fun i => b2 (s_pls (S6 (s_nx w)) (s_gv v0 v1 v2 v3) s P 0 i))) rfl ?_
          refine X_loc (L' := [some (.ref 275), some (.int x), none, none, none, none, none, none, none, some (.int (s_cnt (S6 (s_nx w)) (s_gv v0 v1 v2 v3) s 0)), some (.int (nI 0))]) ⟨rfl, rfl, rfl, rfl, trivial⟩ ?_
          refine loop ?_ _ 0 (Nat.zero_add _)
          refine X_ld rfl rfl rfl rfl ?_
          exact X_iret rfl rfl (a_retM1 (by unfold a_run; rw [if_pos h2, es, if_pos h16, ← a6.cnt hfo _ hwf.lmE.2]) f6) (Nat.le_of_ble_eq_true rfl) (Nat.le_of_ble_eq_true rfl)
        · have h78 : s_gen (S2 (s_nx w)) s (S2 (s_nx w) (275 + 30 * s + 15)) := bI_ne.mp c78
          have hkp : s_keep (S w) (s_gv v0 v1 v2 v3) s := ⟨hl, by rw [e2, show s_r1 (S w) (s_gv v0 v1 v2 v3) s = _ from if_pos hl] at h78; exact h78⟩
          refine X_push (v := .int 1) rfl (by decide +kernel) ?_
          refine X_goto rfl ?_
          refine X_st rfl rfl rfl ?_
          refine X_ld rfl rfl rfl rfl ?_
          refine X_if_eq rfl (fun c90 => absurd c90 (by decide)) (fun c90 => ?_)
          refine X_ld rfl rfl rfl rfl ?_
          refine X_ld rfl rfl rfl rfl ?_
          refine X_push (v := .int 14) rfl (by decide +kernel) ?_
          refine X_mcall l_X11_X11_ofStatement (c_ofStatement hG (d + 7) (s_nx w) s_ch3 s_nx_lt s 14 (by omega) hs2 (show (14 : Int32) = nI 14 from rfl)) rfl rfl rfl rfl (Nat.le_of_ble_eq_true rfl) (Nat.le_of_ble_eq_true rfl) (Nat.le_refl _) (Nat.le_of_ble_eq_true rfl) (Nat.le_of_ble_eq_true rfl) ?_
          refine X_goto rfl ?_
          refine X_stk (congrArg (fun q => Value.int q :: _) (show S2 (s_nx w) (275 + 30 * s + 14) = s_rplan (S w) (s_gv v0 v1 v2 v3) s by rw [e2, show s_r1 (S w) (s_gv v0 v1 v2 v3) s = _ from if_pos hl]; exact (if_pos hkp).symm)) ?_
          have hpl := s_rplan5 (gv := (s_gv v0 v1 v2 v3)) hwf hs1
          refine X_st rfl rfl rfl ?_
          refine X_ld rfl rfl rfl rfl ?_
          refine X_if_ne rfl (fun c113 => ?_) (fun c113 => absurd c113 (by decide))
          have e4 : S2 (s_nx w) = s_r2 (S w) (s_gv v0 v1 v2 v3) s := e2.trans ((if_pos hl).trans (if_pos hkp).symm)
          have f4 : S2 = updR S (s_nx w) (s_r2 (S w) (s_gv v0 v1 v2 v3) s) := f2.trans (congrArg _ ((if_pos hl).trans (if_pos hkp).symm))
          refine X_ld rfl rfl rfl rfl ?_
          refine X_ld rfl rfl rfl rfl ?_
          refine X_push (v := .int 8) rfl (by decide +kernel) ?_
          refine X_scall l_X11_X11_statementAt (c_statementAt hG (d + 8) ) rfl rfl rfl (Nat.le_of_ble_eq_true rfl) (Nat.le_of_ble_eq_true rfl) (Nat.le_refl _) (Nat.le_of_ble_eq_true rfl) (Nat.le_of_ble_eq_true rfl) ?_
          refine X_push (v := .int 1) rfl (by decide +kernel) ?_
          refine X_mcallv l_X11_X11_add (c_add hG (d + 8) (s_nx w) s_ch3 s_nx_lt (275 + 30 * s + 8) (by omega) (m_statementAt hs2 (show (8 : Int32) = nI 8 from rfl))) rfl rfl rfl rfl (Nat.le_of_ble_eq_true rfl) (Nat.le_of_ble_eq_true rfl) (Nat.le_refl _) (Nat.le_of_ble_eq_true rfl) (Nat.le_of_ble_eq_true rfl) ?_
          refine X_row f4 (s_r3 (S w) (s_gv v0 v1 v2 v3) s) (by rw [e4, s_r2_8]; rfl) (fun S5 e5 f5 => ?_)
          refine X_ld rfl rfl rfl rfl ?_
          refine X_ld rfl rfl rfl rfl ?_
          refine X_ld rfl rfl rfl rfl ?_
          refine X_ld rfl rfl rfl rfl ?_
          refine X_if_ne rfl (fun c162 => ?_) (fun c162 => absurd c162 (by decide))
          refine X_push (v := .int 0) rfl (by decide +kernel) ?_
          refine X_mcallv l_X11_X11_touches (c_touches hG (d + 3) (s_nx w) s_ch3 s_nx_lt (by rw [e5]; exact s_r3_wf hwf hs1) s (by rw [e5, (s_r3_agr (by omega)).F.sm]; exact hs1) hs2 hpl false) rfl rfl rfl rfl (Nat.le_of_ble_eq_true rfl) (Nat.le_of_ble_eq_true rfl) (Nat.le_refl _) (Nat.le_of_ble_eq_true rfl) (Nat.le_of_ble_eq_true rfl) ?_
          refine X_rowC f5 (s_run (S w) (s_gv v0 v1 v2 v3) s) (by rw [e5, show s_run (S w) (s_gv v0 v1 v2 v3) s = s_tou (s_r3 (S w) (s_gv v0 v1 v2 v3) s) (s_gv v0 v1 v2 v3) s (s_rplan (S w) (s_gv v0 v1 v2 v3) s) (!decide (s_keep (S w) (s_gv v0 v1 v2 v3) s)) from rfl, decide_eq_true hkp]; rfl) (fun S6 e6 f6 => ?_)
          have a6 : s_agF (S w) (S6 (s_nx w)) := by rw [e6]; exact s_run_agF hwf hs1
          refine X_push (v := .int 0) rfl (by decide +kernel) ?_
          refine X_st rfl rfl rfl ?_
          refine X_push (v := .int 0) rfl (by decide +kernel) ?_
          refine X_st rfl rfl rfl ?_
          have loop : x_W G mX11_run (x_Z G (d + 9) 0 0 ad0 nb0 (x_RetM B I T S rd tx w u (a_run (S w) x v0 v1 v2 v3)) x_noX) (mset B (s_ch (upd I 0 0) w u) T S6 rd tx (s_gv v0 v1 v2 v3) (fun i => b2 (s_pls (S6 (s_nx w)) (s_gv v0 v1 v2 v3) s P (s_lm (S w)) i))) 0 0 215 [some (.ref 275), some (.int x), none, none, none, none, none, none, none, some (.int (s_cnt (S6 (s_nx w)) (s_gv v0 v1 v2 v3) s (s_lm (S w)))), some (.int (nI (s_lm (S w))))] [] → ∀ (f9 k : Nat), k + f9 = (s_lm (S w)) → x_W G mX11_run (x_Z G (d + 9) 0 0 ad0 nb0 (x_RetM B I T S rd tx w u (a_run (S w) x v0 v1 v2 v3)) x_noX) (mset B (s_ch (upd I 0 0) w u) T S6 rd tx (s_gv v0 v1 v2 v3) (fun i => b2 (s_pls (S6 (s_nx w)) (s_gv v0 v1 v2 v3) s P k i))) 0 0 179 [some (.ref 275), some (.int x), none, none, none, none, none, none, none, some (.int (s_cnt (S6 (s_nx w)) (s_gv v0 v1 v2 v3) s k)), some (.int (nI k))] [] := by
            intro K f9
            induction f9 with
            | zero =>
              intro k e0 
              obtain rfl : k = (s_lm (S w)) := by omega
              refine X_ld rfl rfl rfl rfl ?_
              refine X_ld rfl rfl rfl rfl ?_
              refine X_push (v := .int 1) rfl (by decide +kernel) ?_
              refine X_mcall l_X11_X11_get (c_get hG (d + 8) (s_nx w) s_ch3 s_nx_lt 1 (by omega) (show (1 : Int32) = nI 1 from rfl)) rfl rfl rfl rfl (Nat.le_of_ble_eq_true rfl) (Nat.le_of_ble_eq_true rfl) (Nat.le_refl _) (Nat.le_of_ble_eq_true rfl) (Nat.le_of_ble_eq_true rfl) ?_
              refine X_icmp_ge rfl (fun c186 => ?_) (fun c186 => absurd ((n_le ((a6 1 (by omega)).symm.trans hwf.lmE.1) rfl (by omega) (by omega)).mpr (by omega)) c186)
              exact K
            | succ f9 ih =>
              intro k e0 
              refine X_ld rfl rfl rfl rfl ?_
              refine X_ld rfl rfl rfl rfl ?_
              refine X_push (v := .int 1) rfl (by decide +kernel) ?_
              refine X_mcall l_X11_X11_get (c_get hG (d + 8) (s_nx w) s_ch3 s_nx_lt 1 (by omega) (show (1 : Int32) = nI 1 from rfl)) rfl rfl rfl rfl (Nat.le_of_ble_eq_true rfl) (Nat.le_of_ble_eq_true rfl) (Nat.le_refl _) (Nat.le_of_ble_eq_true rfl) (Nat.le_of_ble_eq_true rfl) ?_
              refine X_icmp_ge rfl (fun c186 => absurd ((n_le ((a6 1 (by omega)).symm.trans hwf.lmE.1) rfl (by omega) (by omega)).mp c186) (by omega)) (fun c186 => ?_)
              refine X_ld rfl rfl rfl rfl ?_
              refine X_ld rfl rfl rfl rfl ?_
              refine X_ld rfl rfl rfl rfl ?_
              refine X_ld rfl rfl rfl rfl ?_
              refine X_mcall l_X11_X11_finds (c_finds hG (d + 4) (s_nx w) s_ch3 s_nx_lt s k (by omega) (by omega) (a6.kok hko) (a6.fok hfo) hs2 rfl (P := s_pls (S6 (s_nx w)) (s_gv v0 v1 v2 v3) s P k)) rfl rfl rfl rfl (Nat.le_of_ble_eq_true rfl) (Nat.le_of_ble_eq_true rfl) (Nat.le_refl _) (Nat.le_of_ble_eq_true rfl) (Nat.le_of_ble_eq_true rfl) ?_
              refine X_if_eq rfl (fun c198 => ?_) (fun c198 => ?_)
              · have h198 : (s_find (S6 (s_nx w)) (s_gv v0 v1 v2 v3) s k) = false := b2_0 c198
                refine X_push (v := .int 0) rfl (by decide +kernel) ?_
                refine X_bin rfl rfl ?_
                refine X_st rfl rfl rfl ?_
                refine X_iinc rfl rfl rfl ?_
                refine X_goto rfl ?_
                have e : s_cnt (S6 (s_nx w)) (s_gv v0 v1 v2 v3) s (k + 1) = s_cnt (S6 (s_nx w)) (s_gv v0 v1 v2 v3) s k + 0 := (show s_cnt (S6 (s_nx w)) (s_gv v0 v1 v2 v3) s k + (bif s_find (S6 (s_nx w)) (s_gv v0 v1 v2 v3) s k then 1 else 0) = _ from by rw [h198]; rfl)
                refine X_loc (L' := [some (.ref 275), some (.int x), none, none, none, none, none, none, none, some (.int (s_cnt (S6 (s_nx w)) (s_gv v0 v1 v2 v3) s (k + 1))), some (.int (nI (k + 1)))]) ⟨rfl, rfl, congrArg Value.int e, congrArg Value.int (m_inc rfl).symm, trivial⟩ ?_
                exact ih (k + 1) (by omega)
              · have h198 : (s_find (S6 (s_nx w)) (s_gv v0 v1 v2 v3) s k) = true := b2_1 c198
                refine X_push (v := .int 1) rfl (by decide +kernel) ?_
                refine X_goto rfl ?_
                refine X_bin rfl rfl ?_
                refine X_st rfl rfl rfl ?_
                refine X_iinc rfl rfl rfl ?_
                refine X_goto rfl ?_
                have e : s_cnt (S6 (s_nx w)) (s_gv v0 v1 v2 v3) s (k + 1) = s_cnt (S6 (s_nx w)) (s_gv v0 v1 v2 v3) s k + 1 := (show s_cnt (S6 (s_nx w)) (s_gv v0 v1 v2 v3) s k + (bif s_find (S6 (s_nx w)) (s_gv v0 v1 v2 v3) s k then 1 else 0) = _ from by rw [h198]; rfl)
                refine X_loc (L' := [some (.ref 275), some (.int x), none, none, none, none, none, none, none, some (.int (s_cnt (S6 (s_nx w)) (s_gv v0 v1 v2 v3) s (k + 1))), some (.int (nI (k + 1)))]) ⟨rfl, rfl, congrArg Value.int e, congrArg Value.int (m_inc rfl).symm, trivial⟩ ?_
                exact ih (k + 1) (by omega)
          refine X_heap (N' := mset B (s_ch (upd I 0 0) w u) T S6 rd tx (s_gv v0 v1 v2 v3) (fun i => b2 (s_pls (S6 (s_nx w)) (s_gv v0 v1 v2 v3) s P 0 i))) rfl ?_
          refine X_loc (L' := [some (.ref 275), some (.int x), none, none, none, none, none, none, none, some (.int (s_cnt (S6 (s_nx w)) (s_gv v0 v1 v2 v3) s 0)), some (.int (nI 0))]) ⟨rfl, rfl, rfl, rfl, trivial⟩ ?_
          refine loop ?_ _ 0 (Nat.zero_add _)
          refine X_ld rfl rfl rfl rfl ?_
          exact X_iret rfl rfl (a_retM1 (by unfold a_run; rw [if_pos h2, es, if_pos h16, ← a6.cnt hfo _ hwf.lmE.2]) f6) (Nat.le_of_ble_eq_true rfl) (Nat.le_of_ble_eq_true rfl)
    · refine X_mcall l_X11_X11_takesValues (c_takesValuesF hG (d + 5) w (updI_I3 hw) hw9 s (by omega) hs2 h16 updI_eq) rfl rfl rfl rfl (Nat.le_of_ble_eq_true rfl) (Nat.le_of_ble_eq_true rfl) (Nat.le_refl _) (Nat.le_of_ble_eq_true rfl) (Nat.le_of_ble_eq_true rfl) ?_
      refine X_heap (N' := mset B (upd I 0 2) T S rd tx gv (fun i => b2 (P i))) (by rw [upd_upd]) ?_
      refine X_if_ne rfl (fun c19 => absurd (by decide) c19) (fun c19 => ?_)
      refine X_push (v := .int 0) rfl (by decide +kernel) ?_
      exact X_iret rfl rfl (a_retM0 (by unfold a_run; rw [if_pos h2, es, if_neg h16])) (Nat.le_of_ble_eq_true rfl) (Nat.le_of_ble_eq_true rfl)
  · refine X_mcall l_X11_X11_noStatement (c_noStatementF hG (d + 7) w hw hw9 h2) rfl rfl rfl rfl (Nat.le_of_ble_eq_true rfl) (Nat.le_of_ble_eq_true rfl) (Nat.le_refl _) (Nat.le_of_ble_eq_true rfl) (Nat.le_of_ble_eq_true rfl) ?_
    refine X_if_ne rfl (fun c5 => ?_) (fun c5 => absurd c5 (by decide))
    refine X_push (v := .int 0) rfl (by decide +kernel) ?_
    exact X_iret rfl rfl (a_retM0 (by unfold a_run; rw [if_neg h2])) (Nat.le_of_ble_eq_true rfl) (Nat.le_of_ble_eq_true rfl)
