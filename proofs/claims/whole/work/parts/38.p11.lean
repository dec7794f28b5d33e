/-! ===== the reference's reader: the whole text ===== -/
/-- lines that begin with word w, as long as there are -/
def l_rep (tx : Nat → Int32) (n w : Nat) (g : Nat → Nat → (Nat → Int32) → LR) : Nat → Nat → (Nat → Int32) → LR
  | 0, _, _ => .inl (0, 0)
  | f + 1, p, rd => if l_isw tx n p (x_w w) = true then l_bi (g (l_sk tx n p) (l_tk tx n p (x_w w)) rd) fun x => l_rep tx n w g f x.1 x.2 else .inr (l_sk tx n p, rd)
def g_col (tx : Nat → Int32) (n a p : Nat) (rd : Nat → Int32) : LR := l_colLine tx n (n_ (rd 0)) a p rd
def g_idx (tx : Nat → Int32) (n _a p : Nat) (rd : Nat → Int32) : LR := l_idxLine tx n (n_ (rd 0)) p rd
def g_row (tx : Nat → Int32) (n a p : Nat) (rd : Nat → Int32) : LR := l_rowLine tx n (n_ (rd 0)) (n_ (rd 1)) a p rd
def g_prep (tx : Nat → Int32) (n a p : Nat) (rd : Nat → Int32) : LR := l_prepLine tx n (n_ (rd 0)) (n_ (rd 2)) a p rd
def l_t6 (tx : Nat → Int32) (n : Nat) (x : Nat × (Nat → Int32)) : LR := if l_see tx n x.1 = -1 then .inr (l_sk tx n x.1, x.2) else .inl (-2, l_sk tx n x.1)
def l_t5 (tx : Nat → Int32) (n : Nat) (x : Nat × (Nat → Int32)) : LR := l_bi (if l_isw tx n x.1 (x_w 12) = true then l_triesLine tx n (l_tk tx n x.1 (x_w 12)) x.2 else .inr (l_sk tx n x.1, x.2)) (l_t6 tx n)
def l_t4 (tx : Nat → Int32) (n : Nat) (x : Nat × (Nat → Int32)) : LR := l_bi (if l_isw tx n x.1 (x_w 11) = true then l_costLine tx n (l_tk tx n x.1 (x_w 11)) x.2 else .inr (l_sk tx n x.1, x.2)) (l_t5 tx n)
def l_t3 (tx : Nat → Int32) (n : Nat) (x : Nat × (Nat → Int32)) : LR := l_bi (l_rep tx n 10 (g_prep tx n) (n + 1 - x.1) x.1 x.2) (l_t4 tx n)
def l_t2 (tx : Nat → Int32) (n : Nat) (x : Nat × (Nat → Int32)) : LR := l_bi (l_rep tx n 9 (g_row tx n) (n + 1 - x.1) x.1 x.2) (l_t3 tx n)
def l_t1 (tx : Nat → Int32) (n : Nat) (x : Nat × (Nat → Int32)) : LR := l_bi (l_rep tx n 8 (g_idx tx n) (n + 1 - x.1) x.1 x.2) (l_t2 tx n)
def l_t0 (tx : Nat → Int32) (n : Nat) (x : Nat × (Nat → Int32)) : LR := l_bi (l_rep tx n 1 (g_col tx n) (n + 1 - x.1) x.1 x.2) (l_t1 tx n)
/-- nothing read yet -/
def s_pl : Nat → Int32 := upd (upd (upd (upd (fun _ => 0) 4 1) 5 3) 6 2) 7 3
/-- a setup text -/
def l_txt (tx : Nat → Int32) (n : Nat) : LR := if l_isw tx n 0 (x_w 0) = true then l_bi (l_want tx n 59 (l_tk tx n 0 (x_w 0)) s_pl) (l_t0 tx n) else .inl (-2, l_sk tx n 0)
/-- what holds between lines -/
def s_iv (n p : Nat) (rd : Nat → Int32) : Prop := p ≤ n ∧ (∃ m, m ≤ 5 ∧ rd 0 = nI m) ∧ (∃ l, l ≤ 40 ∧ rd 1 = nI l) ∧ (∃ s, s ≤ 6 ∧ rd 2 = nI s) ∧ ∃ k, rd 9 = nI k ∧ 5 * k ≤ 2 * p
section
variable {tx rd rd1 : Nat → Int32} {n p q a : Nat}
theorem s_iv_sk (h : s_iv n p rd) : s_iv n (l_sk tx n p) rd := by
  obtain ⟨h1, h2, h3, h4, k, h5, h6⟩ := h
  have hs := l_sk_le (tx := tx) h1
  exact ⟨hs.2, h2, h3, h4, k, h5, by omega⟩
theorem s_iv_tk {w : Nat} (h : s_iv n p rd) : s_iv n (l_tk tx n p (x_w w)) rd := by
  obtain ⟨h1, h2, h3, h4, k, h5, h6⟩ := h
  have hs := l_sk_le (tx := tx) h1
  have ht := l_tk_le (tx := tx) (w := x_w w) h1
  exact ⟨ht.2, h2, h3, h4, k, h5, by omega⟩
theorem l_type_ok {y : Nat} {ty : Int32} (h : l_type tx n q = .inr (y, ty)) (hq : q ≤ n) : (q ≤ y ∧ y ≤ n) ∧ (ty = 0 ∨ ty = 1 ∨ ty = 2) := by
  have hs := l_sk_le (tx := tx) hq
  have h5 := l_tk_le (tx := tx) (w := x_w 5) hq
  have h6 := l_tk_le (tx := tx) (w := x_w 6) hq
  have h7 := l_tk_le (tx := tx) (w := x_w 7) hq
  unfold l_type at h
  by_cases c1 : l_isw tx n q (x_w 5) = true
  · rw [if_pos c1] at h; cases h; exact ⟨by omega, Or.inl rfl⟩
  · rw [if_neg c1] at h
    by_cases c2 : l_isw tx n q (x_w 6) = true
    · rw [if_pos c2] at h; cases h; exact ⟨by omega, Or.inr (Or.inl rfl)⟩
    · rw [if_neg c2] at h
      by_cases c3 : l_isw tx n q (x_w 7) = true
      · rw [if_pos c3] at h; cases h; exact ⟨by omega, Or.inr (Or.inr rfl)⟩
      · rw [if_neg c3] at h; cases h
theorem g_col_ok (h : s_iv n p rd) (hR : g_col tx n a p rd = .inr (q, rd1)) : s_iv n q rd1 ∧ p ≤ q := by
  obtain ⟨h1, ⟨m, hm, h2⟩, ⟨l, hl, h3⟩, ⟨s, hs, h4⟩, k, h5, h6⟩ := h
  unfold g_col at hR
  rw [n_of h2 (by omega)] at hR
  unfold l_colLine at hR
  by_cases c1 : m = 5
  · rw [if_pos c1] at hR; cases hR
  · rw [if_neg c1] at hR
    obtain ⟨x, h7, h8⟩ := l_bi_inr hR
    obtain ⟨⟨y, ty⟩, h9, h10⟩ := l_bi_inr h8
    have g1 := l_fresh_ok h7 h1
    have g2 := l_type_ok h9 g1.1.2
    obtain ⟨g3, g4⟩ := l_want_ok h10 (by decide) g2.1.2
    have gs := l_sk_le (tx := tx) h1
    subst g4
    refine ⟨⟨g3.2, ⟨m + 1, by omega, updI_eq⟩, ⟨l, hl, ?_⟩, ⟨s, hs, ?_⟩, k, ?_, by omega⟩, by omega⟩
    · rw [updI_ne (by omega), updI_ne (by omega), g1.2 1 (by omega)]; exact h3
    · rw [updI_ne (by omega), updI_ne (by omega), g1.2 2 (by omega)]; exact h4
    · rw [updI_ne (by omega), updI_ne (by omega), g1.2 9 (by omega)]; exact h5
theorem g_idx_ok (h : s_iv n p rd) (hR : g_idx tx n a p rd = .inr (q, rd1)) : s_iv n q rd1 ∧ p ≤ q := by
  obtain ⟨h1, ⟨m, hm, h2⟩, ⟨l, hl, h3⟩, ⟨s, hs, h4⟩, k, h5, h6⟩ := h
  unfold g_idx at hR
  rw [n_of h2 (by omega)] at hR
  unfold l_idxLine at hR
  obtain ⟨⟨x, v⟩, h7, h8⟩ := l_bi_inr hR
  have g1 := l_known_ok h7 h1 (by omega)
  obtain ⟨j, hj, rfl⟩ := g1.2
  have gs := l_sk_le (tx := tx) h1
  have ej : n_ (nI j) = j := nI_clamp (by omega)
  change (if rd (10 + 13 * n_ (nI j) + 9) = 1 then (.inl (-5, l_sk tx n p) : LR) else l_want tx n 59 x (upd rd (10 + 13 * n_ (nI j) + 9) 1)) = _ at h8
  rw [ej] at h8
  by_cases c1 : rd (10 + 13 * j + 9) = 1
  · rw [if_pos c1] at h8; cases h8
  · rw [if_neg c1] at h8
    obtain ⟨g3, g4⟩ := l_want_ok h8 (by decide) g1.1.2
    subst g4
    refine ⟨⟨g3.2, ⟨m, hm, ?_⟩, ⟨l, hl, ?_⟩, ⟨s, hs, ?_⟩, k, ?_, by omega⟩, by omega⟩
    · rw [updI_ne (by omega)]; exact h2
    · rw [updI_ne (by omega)]; exact h3
    · rw [updI_ne (by omega)]; exact h4
    · rw [updI_ne (by omega)]; exact h5
theorem g_row_ok (h : s_iv n p rd) (hR : g_row tx n a p rd = .inr (q, rd1)) : s_iv n q rd1 ∧ p ≤ q := by
  obtain ⟨h1, ⟨m, hm, h2⟩, ⟨l, hl, h3⟩, ⟨s, hs, h4⟩, k, h5, h6⟩ := h
  unfold g_row at hR
  rw [n_of h2 (by omega), n_of h3 (by omega)] at hR
  unfold l_rowLine at hR
  by_cases c1 : m = 0
  · rw [if_pos c1] at hR; cases hR
  · rw [if_neg c1] at hR
    by_cases c2 : l = 40
    · rw [if_pos c2] at hR; cases hR
    · rw [if_neg c2] at hR
      obtain ⟨⟨x, r4⟩, h7, h8⟩ := l_bi_inr hR
      have g1 := l_vals_ok m 0 p rd r4 x h1 (by omega) (by omega) h7
      obtain ⟨g3, g4⟩ := l_want_ok h8 (by decide) g1.1.2
      subst g4
      refine ⟨⟨g3.2, ⟨m, hm, ?_⟩, ⟨l + 1, by omega, updI_eq⟩, ⟨s, hs, ?_⟩, k, ?_, by omega⟩, by omega⟩
      · rw [updI_ne (by omega)]; exact (g1.2 0 (by omega)).trans h2
      · rw [updI_ne (by omega)]; exact (g1.2 2 (by omega)).trans h4
      · rw [updI_ne (by omega)]; exact (g1.2 9 (by omega)).trans h5
theorem g_prep_ok (hn8 : n ≤ 800) (h : s_iv n p rd) (hR : g_prep tx n a p rd = .inr (q, rd1)) : s_iv n q rd1 ∧ p ≤ q := by
  obtain ⟨h1, ⟨m, hm, h2⟩, ⟨l, hl, h3⟩, ⟨s, hs, h4⟩, k, h5, h6⟩ := h
  unfold g_prep at hR
  rw [n_of h2 (by omega), n_of h4 (by omega)] at hR
  unfold l_prepLine at hR
  by_cases c1 : s = 6
  · rw [if_pos c1] at hR; cases hR
  · rw [if_neg c1] at hR
    obtain ⟨x, h7, h8⟩ := l_bi_inr hR
    obtain ⟨⟨y, r4⟩, h9, h10⟩ := l_bi_inr h8
    have g1 := l_fresh_ok h7 h1
    have gs := l_sk_le (tx := tx) h1
    have hk1 : s_prep x.2 s 9 = nI k := (s_prep_ne (by omega)).trans ((g1.2 9 (by omega)).trans h5)
    obtain ⟨g5, g6, k', g7, g8, g9⟩ := l_prs_ok hn8 (by omega) _ 3 true 0 0 x.1 k _ r4 y g1.1.2 hk1 (by omega) h9
    obtain ⟨g3, g4⟩ := l_want_ok h10 (by decide) g5.2
    subst g4
    have gg : ∀ j, j < 275 → j ≠ 9 → j ≠ 2 → upd (upd r4 (275 + 30 * s + 27) (r4 9)) 2 (nI (s + 1)) j = rd j := fun j hj j9 j2 => by
      rw [updI_ne j2, updI_ne (by omega), g6 j hj j9, s_prep_ne hj, g1.2 j (by omega)]
    refine ⟨⟨g3.2, ⟨m, hm, (gg 0 (by omega) (by omega) (by omega)).trans h2⟩, ⟨l, hl, (gg 1 (by omega) (by omega) (by omega)).trans h3⟩, ⟨s + 1, by omega, updI_eq⟩, k', ?_, by omega⟩, by omega⟩
    rw [updI_ne (by omega), updI_ne (by omega)]
    exact g7
end
section
variable {I J K : Nat → Int32} {n q : Nat}
theorem l_okJ_k (h : l_okJ J K q) (k : x_kJ I J) (h13 : J 13 = I 13) : l_okJ I K q := ⟨x_kJ.trans k h.1, h.2.1, h.2.2.1, h.2.2.2.trans h13⟩
theorem l_okJ_9 {p : Nat} (h : l_okJ I J p) : l_okJ I (upd J 9 (nI q)) q := ⟨x_kJ_upd h.1 (by omega), updI_eq, (updI_ne (by decide)).trans h.2.2.1, (updI_ne (by decide)).trans h.2.2.2⟩
theorem l_erJ_9 {e : Int32} {a : Nat} (h : l_erJ I J n e a) (hq : q ≤ n) : l_erJ I (upd J 9 (nI q)) n e a := ⟨x_kJ_upd h.1 (by omega), ⟨q, hq, updI_eq⟩, (updI_ne (by decide)).trans h.2.2.1, h.2.2.2.1, (updI_ne (by decide)).trans h.2.2.2.2⟩
end
theorem c_startOfY {G : XE} (hG : x_Kn G) (hK : x_KS G) {B : XH} {I : Nat → Int32} {T : Int64} {S : Nat → Nat → Int32} {rd tx gv pl : Nat → Int32} (d : Nat) {n p : Nat} (hp : I 9 = nI p) (hn : I 8 = nI n) (hpn : p ≤ n) (hn8 : n ≤ 800) (i : Nat) (hi : i < 13) (he : I 10 = 0) (hw : l_isw tx n p (x_w i) = true) : x_M G mX11_startOf (d + 6) 0 0 [.ref 275, .ref (4 + i)] (mset B I T S rd tx gv pl) (x_Ret (mset B (upd I 9 (nI (l_tk tx n p (x_w i)))) T S rd tx gv pl) (.int (nI (l_sk tx n p)))) x_noX := by
  have h := c_startOf hG hK (B := B) (T := T) (S := S) (rd := rd) (tx := tx) (gv := gv) (pl := pl) d hp hn hpn hn8 i hi he
  rw [if_pos hw] at h
  exact h
theorem c_startOfN {G : XE} (hG : x_Kn G) (hK : x_KS G) {B : XH} {I : Nat → Int32} {T : Int64} {S : Nat → Nat → Int32} {rd tx gv pl : Nat → Int32} (d : Nat) {n p : Nat} (hp : I 9 = nI p) (hn : I 8 = nI n) (hpn : p ≤ n) (hn8 : n ≤ 800) (i : Nat) (hi : i < 13) (he : I 10 = 0) (hw : l_isw tx n p (x_w i) = false) : x_M G mX11_startOf (d + 6) 0 0 [.ref 275, .ref (4 + i)] (mset B I T S rd tx gv pl) (x_Ret (mset B (upd I 9 (nI (l_sk tx n p))) T S rd tx gv pl) (.int (-1))) x_noX := by
  have h := c_startOf hG hK (B := B) (T := T) (S := S) (rd := rd) (tx := tx) (gv := gv) (pl := pl) d hp hn hpn hn8 i hi he
  rw [if_neg (by rw [hw]; decide), l_tk_n hw] at h
  exact h
def s_zer (rd : Nat → Int32) (k : Nat) : Nat → Int32 := fun j => if j < k then 0 else rd j
theorem s_zer_0 {rd : Nat → Int32} : s_zer rd 0 = rd := by funext j; exact if_neg (Nat.not_lt_zero j)
theorem s_zer_1 {rd : Nat → Int32} {k : Nat} : upd (s_zer rd k) k 0 = s_zer rd (k + 1) := by
  funext j
  unfold upd s_zer
  by_cases h : j = k
  · rw [if_pos h, if_pos (by omega)]
  · rw [if_neg h]
    by_cases h2 : j < k
    · rw [if_pos h2, if_pos (by omega)]
    · rw [if_neg h2, if_neg (by omega)]
theorem m_setR {B : XH} {I : Nat → Int32} {T : Int64} {S : Nat → Nat → Int32} {rd rd' tx gv pl : Nat → Int32} : x_set (mset B I T S rd tx gv pl) 277 (.inr (true, .int, 2400, fun j => .int (rd' j))) = mset B I T S rd' tx gv pl := by
  funext j
  unfold x_set
  by_cases hj : j = 277
  · rw [if_pos hj, hj]; rfl
  · rw [if_neg hj]
    unfold mset
    rw [beq_ne hj]
    rfl
theorem X_rdE {G : XE} {M : XMI} {Z : XZ} {cells slots pc : Nat} {L : List (Option Value)} {st : List Value} {B : XH} {I : Nat → Int32} {T : Int64} {S : Nat → Nat → Int32} {rd rd' tx gv pl : Nat → Int32} (h : ∀ j, j < 2400 → rd j = rd' j) (kk : x_W G M Z (mset B I T S rd' tx gv pl) cells slots pc L st) : x_W G M Z (mset B I T S rd tx gv pl) cells slots pc L st := by
  refine X_arre (a := 277) (mu := true) (ty := .int) (n := 2400) (f := fun j => .int (rd j)) (f' := fun j => .int (rd' j)) rfl (fun j hj => congrArg Value.int (h j hj)) ?_
  rw [m_setR]
  exact kk
theorem c_plain {G : XE} (hG : x_Kn G) {B : XH} {I : Nat → Int32} {T : Int64} {S : Nat → Nat → Int32} {rd tx gv pl : Nat → Int32} (d : Nat)  : x_M G mX11_plain d 0 0 [.ref 275] (mset B I T S rd tx gv pl) (x_RetV (mset B I T S s_pl tx gv pl)) x_noX := by
  refine X_M hG okX11_plain rfl (L := [some (.ref 275), none]) rfl (Nat.le_of_ble_eq_true rfl) (fun ad0 nb0 => ?_)
  have loop : x_W G mX11_plain (x_Z G d 0 0 ad0 nb0 (x_RetV (mset B I T S s_pl tx gv pl)) x_noX) (mset B I T S (s_zer rd 2400) tx gv pl) 0 0 22 [some (.ref 275), some (.int (nI 2400))] [] → ∀ (f9 k : Nat), k + f9 = 2400 → x_W G mX11_plain (x_Z G d 0 0 ad0 nb0 (x_RetV (mset B I T S s_pl tx gv pl)) x_noX) (mset B I T S (s_zer rd k) tx gv pl) 0 0 2 [some (.ref 275), some (.int (nI k))] [] := by
    intro K f9
    induction f9 with
    | zero =>
      intro k e0 
      obtain rfl : k = 2400 := by omega
      refine X_ld rfl rfl rfl rfl ?_
      refine X_push (v := .int 2400) rfl (by decide +kernel) ?_
      refine X_icmp_ge rfl (fun c6 => ?_) (fun c6 => absurd ((n_le (a := 2400) (show (2400 : Int32) = nI 2400 from rfl) rfl (by omega) (by omega)).mpr (by omega)) c6)
      exact K
    | succ f9 ih =>
      intro k e0 
      refine X_ld rfl rfl rfl rfl ?_
      refine X_push (v := .int 2400) rfl (by decide +kernel) ?_
      refine X_icmp_ge rfl (fun c6 => absurd ((n_le (a := 2400) (show (2400 : Int32) = nI 2400 from rfl) rfl (by omega) (by omega)).mp c6) (by omega)) (fun c6 => ?_)
      refine X_ld rfl rfl rfl rfl ?_
      refine X_get f_X11_13 rfl rfl rfl ?_
      refine X_ld rfl rfl rfl rfl ?_
      refine X_push (v := .int 0) rfl (by decide +kernel) ?_
      refine X_mRst k rfl (by omega) rfl ?_
      refine X_iinc rfl rfl rfl ?_
      refine X_goto rfl ?_
      refine X_heap (N' := mset B I T S (s_zer rd (k + 1)) tx gv pl) (by rw [s_zer_1]) ?_
      refine X_loc (L' := [some (.ref 275), some (.int (nI (k + 1)))]) ⟨rfl, congrArg Value.int (m_inc rfl).symm, trivial⟩ ?_
      exact ih (k + 1) (by omega)
  refine X_push (v := .int 0) rfl (by decide +kernel) ?_
  refine X_st rfl rfl rfl ?_
  refine X_heap (N' := mset B I T S (s_zer rd 0) tx gv pl) (by rw [s_zer_0]) ?_
  refine X_loc (L' := [some (.ref 275), some (.int (nI 0))]) ⟨rfl, rfl, trivial⟩ ?_
  refine loop ?_ _ 0 (Nat.zero_add _)
  refine X_rdE (rd' := fun _ => 0) (fun j hj => if_pos hj) ?_
  refine X_ld rfl rfl rfl rfl ?_
  refine X_get f_X11_13 rfl rfl rfl ?_
  refine X_push (v := .int 4) rfl (by decide +kernel) ?_
  refine X_push (v := .int 1) rfl (by decide +kernel) ?_
  refine X_mRst 4 (show (4 : Int32) = nI 4 from rfl) (by omega) rfl ?_
  refine X_ld rfl rfl rfl rfl ?_
  refine X_get f_X11_13 rfl rfl rfl ?_
  refine X_push (v := .int 5) rfl (by decide +kernel) ?_
  refine X_push (v := .int 3) rfl (by decide +kernel) ?_
  refine X_mRst 5 (show (5 : Int32) = nI 5 from rfl) (by omega) rfl ?_
  refine X_ld rfl rfl rfl rfl ?_
  refine X_get f_X11_13 rfl rfl rfl ?_
  refine X_push (v := .int 6) rfl (by decide +kernel) ?_
  refine X_push (v := .int 2) rfl (by decide +kernel) ?_
  refine X_mRst 6 (show (6 : Int32) = nI 6 from rfl) (by omega) rfl ?_
  refine X_ld rfl rfl rfl rfl ?_
  refine X_get f_X11_13 rfl rfl rfl ?_
  refine X_push (v := .int 7) rfl (by decide +kernel) ?_
  refine X_push (v := .int 3) rfl (by decide +kernel) ?_
  refine X_mRst 7 (show (7 : Int32) = nI 7 from rfl) (by omega) rfl ?_
  exact X_vret rfl rfl ⟨rfl, rfl⟩ (Nat.le_of_ble_eq_true rfl) (Nat.le_of_ble_eq_true rfl)
