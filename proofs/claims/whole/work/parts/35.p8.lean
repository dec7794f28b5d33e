/-! ===== the reference's reader: its lines ===== -/
theorem s_nmi_ne {rd tx : Nat → Int32} {a e b j : Nat} : ∀ k, (j < b ∨ b + k ≤ j) → s_nmi rd tx a e b k j = rd j
  | 0, _ => rfl
  | k + 1, h => by
    show upd (s_nmi rd tx a e b k) (b + k) (s_ltr tx a e k) j = rd j
    rw [updI_ne (by omega)]
    exact s_nmi_ne k (by omega)
theorem l_fresh_ok {rd tx rd1 : Nat → Int32} {n p f g m q : Nat} (h : l_fresh rd tx n p f g m = .inr (q, rd1)) (hpn : p ≤ n) : (l_sk tx n p < q ∧ q ≤ n) ∧ ∀ j, (j < f + g * m ∨ f + g * m + 8 ≤ j) → rd1 j = rd j := by
  unfold l_fresh at h
  have hwe := l_we_le (tx := tx) hpn
  by_cases h1 : l_nm tx n p
  · rw [if_pos h1] at h
    by_cases h2 : s_sk rd tx f g m (l_sk tx n p) (l_we tx n p) = -1
    · rw [if_pos h2] at h
      cases h
      exact ⟨⟨h1.1, hwe.2⟩, fun j hj => s_nmi_ne 8 hj⟩
    · rw [if_neg h2] at h; cases h
  · rw [if_neg h1] at h; cases h
/-- the sign wanted here, and what is read then -/
def l_want (tx : Nat → Int32) (n : Nat) (sg : Int32) (p : Nat) (rd : Nat → Int32) : LR := if l_see tx n p = sg then .inr (l_sk tx n p + 1, rd) else .inl (-2, l_sk tx n p)
theorem l_want_ok {tx : Nat → Int32} {n p q : Nat} {sg : Int32} {rd rd1 : Nat → Int32} (h : l_want tx n sg p rd = .inr (q, rd1)) (hs : ¬ sg = -1) (hpn : p ≤ n) : (p < q ∧ q ≤ n) ∧ rd1 = rd := by
  unfold l_want at h
  have h1 := l_sk_le (tx := tx) hpn
  by_cases hc : l_see tx n p = sg
  · rw [if_pos hc] at h
    cases h
    have h2 := l_see_lt (tx := tx) (n := n) (p := p) (by rw [hc]; exact hs)
    exact ⟨by omega, rfl⟩
  · rw [if_neg hc] at h; cases h
def l_type (tx : Nat → Int32) (n q : Nat) : LE (Nat × Int32) :=
  if l_isw tx n q (x_w 5) = true then .inr (l_tk tx n q (x_w 5), 0) else if l_isw tx n q (x_w 6) = true then .inr (l_tk tx n q (x_w 6), 1) else if l_isw tx n q (x_w 7) = true then .inr (l_tk tx n q (x_w 7), 2) else .inl (-2, l_sk tx n q)
def l_colLine (tx : Nat → Int32) (n m at_ p : Nat) (rd : Nat → Int32) : LR :=
  if m = 5 then .inl (-7, at_) else l_bi (l_fresh rd tx n p 10 13 m) fun x => l_bi (l_type tx n x.1) fun y => l_want tx n 59 y.1 (upd (upd x.2 (10 + 13 * m + 8) y.2) 0 (nI (m + 1)))
def l_idxLine (tx : Nat → Int32) (n m p : Nat) (rd : Nat → Int32) : LR :=
  l_bi (l_known rd tx n p m) fun x => if rd (10 + 13 * n_ x.2 + 9) = 1 then .inl (-5, l_sk tx n p) else l_want tx n 59 x.1 (upd rd (10 + 13 * n_ x.2 + 9) 1)
/-- the numbers of row l, from column c on: r of them -/
def l_vals (tx : Nat → Int32) (n l : Nat) : Nat → Nat → Nat → (Nat → Int32) → LR
  | 0, _, p, rd => .inr (p, rd)
  | r + 1, c, p, rd => l_bi (l_reads tx n p (s_most (rd (10 + 13 * c + 8)))) fun x => l_vals tx n l r (c + 1) x.1 (upd rd (75 + 5 * l + c) x.2)
def l_rowLine (tx : Nat → Int32) (n m l at_ p : Nat) (rd : Nat → Int32) : LR :=
  if m = 0 then .inl (-2, at_) else if l = 40 then .inl (-7, at_) else l_bi (l_vals tx n l m 0 p rd) fun x => l_want tx n 59 x.1 (upd x.2 1 (nI (l + 1)))
def s_p4 (rd : Nat → Int32) (s : Nat) : Nat → Nat → Int32
  | 0 => rd
  | h + 1 => upd (s_p4 rd s h) (275 + 30 * s + (17 + h)) (-1)
def s_p5 (rd : Nat → Int32) (s : Nat) : Nat → Nat → Int32
  | 0 => rd
  | c + 1 => upd (s_p5 rd s c) (275 + 30 * s + (21 + c)) 100
/-- a new statement's numbers -/
def s_prep (rd : Nat → Int32) (s : Nat) : Nat → Int32 := upd (upd (s_p5 (s_p4 rd s 4) s 5) (275 + 30 * s + 14) (-2)) (275 + 30 * s + 26) (rd 9)
def l_prepLine (tx : Nat → Int32) (n m s at_ p : Nat) (rd : Nat → Int32) : LR :=
  if s = 6 then .inl (-7, at_) else l_bi (l_fresh rd tx n p 275 30 s) fun x => l_bi (l_prs tx n m s (8 * (n - x.1) + 3) 3 true 0 0 x.1 (s_prep x.2 s)) fun y => l_want tx n 59 y.1 (upd (upd y.2 (275 + 30 * s + 27) (y.2 9)) 2 (nI (s + 1)))
def l_costLine (tx : Nat → Int32) (n p : Nat) (rd : Nat → Int32) : LR :=
  l_bi (l_reads tx n p 99) fun a => l_bi (l_reads tx n a.1 99) fun b => l_bi (l_reads tx n b.1 99) fun c => l_want tx n 59 c.1 (upd (upd (upd rd 4 a.2) 5 b.2) 6 c.2)
def l_triesLine (tx : Nat → Int32) (n p : Nat) (rd : Nat → Int32) : LR := l_bi (l_reads tx n p 99) fun a => l_want tx n 59 a.1 (upd rd 7 a.2)
/-- all but the reader's numbers, at a line's end -/
def x_kJ (I I' : Nat → Int32) : Prop := ∀ k, (k < 9 ∨ 17 ≤ k) → I' k = I k
theorem x_kJ_of {I J : Nat → Int32} (h : x_kI I J) : x_kJ I J := fun k hk => h k (by omega)
theorem x_kJ_upd {I J : Nat → Int32} {k : Nat} {v : Int32} (h : x_kJ I J) (hk : 9 ≤ k ∧ k ≤ 16) : x_kJ I (upd J k v) := fun i hi => by rw [updI_ne (by omega)]; exact h i hi
theorem x_kJ.trans {I J K : Nat → Int32} (h : x_kJ I J) (g : x_kJ J K) : x_kJ I K := fun i hi => (g i hi).trans (h i hi)
def l_okJ (I I' : Nat → Int32) (q : Nat) : Prop := x_kJ I I' ∧ I' 9 = nI q ∧ I' 10 = 0 ∧ I' 13 = I 13
def l_erJ (I I' : Nat → Int32) (n : Nat) (e : Int32) (a : Nat) : Prop := x_kJ I I' ∧ (∃ q, q ≤ n ∧ I' 9 = nI q) ∧ I' 10 = e ∧ ¬ e = 0 ∧ I' 11 = nI a
theorem l_okJ_of {I J : Nat → Int32} {q : Nat} (h : l_ok I J q) : l_okJ I J q := ⟨x_kJ_of h.1, h.2⟩
theorem l_erJ_of {I J : Nat → Int32} {p n a : Nat} {e : Int32} (h : l_er p I J n e a) : l_erJ I J n e a := by
  obtain ⟨h1, ⟨q, h2, h3⟩, h4⟩ := h
  exact ⟨x_kJ_of h1, ⟨q, h2.2, h3⟩, h4⟩
/-- a line is read -/
def x_RL (B : XH) (T : Int64) (S : Nat → Nat → Int32) (tx gv pl I : Nat → Int32) (n : Nat) (R : LR) : XH → Option Value → Prop := fun N r => match R with
  | .inl (e, a) => ∃ (I' rd' : Nat → Int32), l_erJ I I' n e a ∧ N = mset B I' T S rd' tx gv pl ∧ r = none
  | .inr (q, rd1) => ∃ (I' : Nat → Int32), l_okJ I I' q ∧ N = mset B I' T S rd1 tx gv pl ∧ r = none
section
variable {B : XH} {T : Int64} {S : Nat → Nat → Int32} {rd rd1 tx gv pl I J : Nat → Int32} {p n q a : Nat} {e : Int32}
theorem x_RL_n {R : LR} : ∀ N r, x_RL B T S tx gv pl I n R N r → r = none := fun N r h => by
  rcases R with ⟨e, a⟩ | ⟨q, rd1⟩
  · obtain ⟨_, _, -, -, h⟩ := h; exact h
  · obtain ⟨_, -, -, h⟩ := h; exact h
theorem x_RL_er {R : LR} (h : R = .inl (e, a)) (hJ : l_erJ I J n e a) : x_RL B T S tx gv pl I n R (mset B J T S rd1 tx gv pl) none := by rw [h]; exact ⟨J, rd1, hJ, rfl, rfl⟩
theorem x_RL_ok {R : LR} (h : R = .inr (q, rd1)) (hJ : l_okJ I J q) : x_RL B T S tx gv pl I n R (mset B J T S rd1 tx gv pl) none := by rw [h]; exact ⟨J, hJ, rfl, rfl⟩
end
theorem c_takesS {G : XE} (hG : x_Kn G) (hK : x_KS G) {B : XH} {I : Nat → Int32} {T : Int64} {S : Nat → Nat → Int32} {rd tx gv pl : Nat → Int32} (d : Nat) {n p : Nat} (hp : I 9 = nI (l_sk tx n p)) (hn : I 8 = nI n) (hpn : p ≤ n) (hn8 : n ≤ 800) (i : Nat) (hi : i < 13) (he : I 10 = 0) : x_M G mX11_takes (d + 5) 0 0 [.ref 275, .ref (4 + i)] (mset B I T S rd tx gv pl) (x_Ret (mset B (upd I 9 (nI (l_tk tx n p (x_w i)))) T S rd tx gv pl) (.int (b2 (l_isw tx n p (x_w i))))) x_noX := by
  have h := c_takes hG hK (B := B) (T := T) (S := S) (rd := rd) (tx := tx) (gv := gv) (pl := pl) d hp hn (l_sk_le hpn).2 hn8 i hi he
  rw [l_tk_sk hpn, l_isw_sk hpn] at h
  exact h
/-- the sign at a line's end -/
theorem c_wantY {G : XE} (hG : x_Kn G) {B : XH} {I : Nat → Int32} {T : Int64} {S : Nat → Nat → Int32} {rd tx gv pl : Nat → Int32} (d : Nat) {n p : Nat} (hp : I 9 = nI p) (hn : I 8 = nI n) (hpn : p ≤ n) (hn8 : n ≤ 800) (he : I 10 = 0) {x : Int32} (hx : l_see tx n p = x) : x_M G mX11_wants (d + 1) 0 0 [.ref 275, .int x] (mset B I T S rd tx gv pl) (x_RetV (mset B (upd I 9 (nI (l_sk tx n p + 1))) T S rd tx gv pl)) x_noX := by
  have h := c_wants hG (B := B) (T := T) (S := S) (rd := rd) (tx := tx) (gv := gv) (pl := pl) d hp hn hpn hn8 he (x := x)
  rw [if_pos hx] at h
  exact h
theorem c_wantN {G : XE} (hG : x_Kn G) {B : XH} {I : Nat → Int32} {T : Int64} {S : Nat → Nat → Int32} {rd tx gv pl : Nat → Int32} (d : Nat) {n p : Nat} (hp : I 9 = nI p) (hn : I 8 = nI n) (hpn : p ≤ n) (hn8 : n ≤ 800) (he : I 10 = 0) {x : Int32} (hx : ¬ l_see tx n p = x) : x_M G mX11_wants (d + 1) 0 0 [.ref 275, .int x] (mset B I T S rd tx gv pl) (x_RetV (mset B (upd (upd (upd I 9 (nI (l_sk tx n p))) 10 (-2)) 11 (nI (l_sk tx n p))) T S rd tx gv pl)) x_noX := by
  have h := c_wants hG (B := B) (T := T) (S := S) (rd := rd) (tx := tx) (gv := gv) (pl := pl) d hp hn hpn hn8 he (x := x)
  rw [if_neg hx] at h
  exact h
theorem c_costLine {G : XE} (hG : x_Kn G) {B : XH} {I : Nat → Int32} {T : Int64} {S : Nat → Nat → Int32} {rd tx gv pl : Nat → Int32} (d : Nat) {n p : Nat} (hp : I 9 = nI p) (hn : I 8 = nI n) (hpn : p ≤ n) (hn8 : n ≤ 800) (he : I 10 = 0) : x_M G mX11_costLine (d + 3) 0 0 [.ref 275] (mset B I T S rd tx gv pl) (x_RL B T S tx gv pl I n (l_costLine tx n p rd)) x_noX := by
  refine X_M hG okX11_costLine rfl (L := [some (.ref 275), none, none, none]) rfl (Nat.le_of_ble_eq_true rfl) (fun ad0 nb0 => ?_)
  refine X_ld rfl rfl rfl rfl ?_
  refine X_push (v := .int 0) rfl (by decide +kernel) ?_
  refine X_push (v := .int 99) rfl (by decide +kernel) ?_
  refine X_mcallI l_X11_X11_reads (c_reads hG d hp hn hpn hn8 he) x_RI_i rfl rfl rfl rfl (Nat.le_of_ble_eq_true rfl) (Nat.le_of_ble_eq_true rfl) (by omega) (Nat.le_of_ble_eq_true rfl) (Nat.le_of_ble_eq_true rfl) (fun N1 vJ1 hRJ1 => ?_)
  rcases hEJ1 : l_reads tx n p 99 with ⟨e, a⟩ | ⟨q1, v_1⟩
  · rw [hEJ1] at hRJ1
    obtain ⟨J1, v2, hJ1, rfl, hv⟩ := hRJ1
    cases hv
    refine X_st rfl rfl rfl ?_
    refine X_ld rfl rfl rfl rfl ?_
    refine X_push (v := .int 0) rfl (by decide +kernel) ?_
    refine X_push (v := .int 99) rfl (by decide +kernel) ?_
    · refine X_mcall l_X11_X11_reads (c_readsE hG d (by rw [hJ1.2.2.1]; exact hJ1.2.2.2.1)) rfl rfl rfl rfl (Nat.le_of_ble_eq_true rfl) (Nat.le_of_ble_eq_true rfl) (by omega) (Nat.le_of_ble_eq_true rfl) (Nat.le_of_ble_eq_true rfl) ?_
      refine X_st rfl rfl rfl ?_
      refine X_ld rfl rfl rfl rfl ?_
      refine X_push (v := .int 0) rfl (by decide +kernel) ?_
      refine X_push (v := .int 99) rfl (by decide +kernel) ?_
      · refine X_mcall l_X11_X11_reads (c_readsE hG d (by rw [hJ1.2.2.1]; exact hJ1.2.2.2.1)) rfl rfl rfl rfl (Nat.le_of_ble_eq_true rfl) (Nat.le_of_ble_eq_true rfl) (by omega) (Nat.le_of_ble_eq_true rfl) (Nat.le_of_ble_eq_true rfl) ?_
        refine X_st rfl rfl rfl ?_
        refine X_ld rfl rfl rfl rfl ?_
        refine X_push (v := .int 59) rfl (by decide +kernel) ?_
        · refine X_mcallv l_X11_X11_wants (c_wantsE hG d (by rw [hJ1.2.2.1]; exact hJ1.2.2.2.1)) rfl rfl rfl rfl (Nat.le_of_ble_eq_true rfl) (Nat.le_of_ble_eq_true rfl) (by omega) (Nat.le_of_ble_eq_true rfl) (Nat.le_of_ble_eq_true rfl) ?_
          refine X_ld rfl rfl rfl rfl ?_
          refine X_get f_X11_63 rfl rfl rfl ?_
          refine X_if_eq rfl (fun c34 => absurd (hJ1.2.2.1.symm.trans c34) hJ1.2.2.2.1) (fun c34 => ?_)
          exact X_vret rfl rfl (x_RL_er (l_bi_er hEJ1) (l_erJ_of hJ1)) (Nat.le_of_ble_eq_true rfl) (Nat.le_of_ble_eq_true rfl)
  · rw [hEJ1] at hRJ1
    obtain ⟨J1, hJ1, rfl, hv⟩ := hRJ1
    cases hv
    have hq1 := l_reads_ok hEJ1 (by omega)
    have hsk1 := l_sk_le (tx := tx) (show p ≤ n by omega)
    refine X_st rfl rfl rfl ?_
    refine X_ld rfl rfl rfl rfl ?_
    refine X_push (v := .int 0) rfl (by decide +kernel) ?_
    refine X_push (v := .int 99) rfl (by decide +kernel) ?_
    refine X_mcallI l_X11_X11_reads (c_reads hG d hJ1.2.1 ((hJ1.1 8 (by omega)).trans hn) (by omega) hn8 hJ1.2.2.1) x_RI_i rfl rfl rfl rfl (Nat.le_of_ble_eq_true rfl) (Nat.le_of_ble_eq_true rfl) (by omega) (Nat.le_of_ble_eq_true rfl) (Nat.le_of_ble_eq_true rfl) (fun N1 vJ2 hRJ2 => ?_)
    rcases hEJ2 : l_reads tx n q1 99 with ⟨e, a⟩ | ⟨q2, v_2⟩
    · rw [hEJ2] at hRJ2
      obtain ⟨J2, v2, hJ2, rfl, hv⟩ := hRJ2
      cases hv
      have hJ2 := l_er_w hJ2 hJ1.1 (by omega : p ≤ q1)
      refine X_st rfl rfl rfl ?_
      refine X_ld rfl rfl rfl rfl ?_
      refine X_push (v := .int 0) rfl (by decide +kernel) ?_
      refine X_push (v := .int 99) rfl (by decide +kernel) ?_
      · refine X_mcall l_X11_X11_reads (c_readsE hG d (by rw [hJ2.2.2.1]; exact hJ2.2.2.2.1)) rfl rfl rfl rfl (Nat.le_of_ble_eq_true rfl) (Nat.le_of_ble_eq_true rfl) (by omega) (Nat.le_of_ble_eq_true rfl) (Nat.le_of_ble_eq_true rfl) ?_
        refine X_st rfl rfl rfl ?_
        refine X_ld rfl rfl rfl rfl ?_
        refine X_push (v := .int 59) rfl (by decide +kernel) ?_
        · refine X_mcallv l_X11_X11_wants (c_wantsE hG d (by rw [hJ2.2.2.1]; exact hJ2.2.2.2.1)) rfl rfl rfl rfl (Nat.le_of_ble_eq_true rfl) (Nat.le_of_ble_eq_true rfl) (by omega) (Nat.le_of_ble_eq_true rfl) (Nat.le_of_ble_eq_true rfl) ?_
          refine X_ld rfl rfl rfl rfl ?_
          refine X_get f_X11_63 rfl rfl rfl ?_
          refine X_if_eq rfl (fun c34 => absurd (hJ2.2.2.1.symm.trans c34) hJ2.2.2.2.1) (fun c34 => ?_)
          exact X_vret rfl rfl (x_RL_er ((l_bi_ok hEJ1).trans (l_bi_er hEJ2)) (l_erJ_of hJ2)) (Nat.le_of_ble_eq_true rfl) (Nat.le_of_ble_eq_true rfl)
    · rw [hEJ2] at hRJ2
      obtain ⟨J2, hJ2, rfl, hv⟩ := hRJ2
      cases hv
      have hq2 := l_reads_ok hEJ2 (by omega)
      have hsk2 := l_sk_le (tx := tx) (show q1 ≤ n by omega)
      have hJ2 := l_ok_w hJ2 hJ1.1 hJ1.2.2.2
      refine X_st rfl rfl rfl ?_
      refine X_ld rfl rfl rfl rfl ?_
      refine X_push (v := .int 0) rfl (by decide +kernel) ?_
      refine X_push (v := .int 99) rfl (by decide +kernel) ?_
      refine X_mcallI l_X11_X11_reads (c_reads hG d hJ2.2.1 ((hJ2.1 8 (by omega)).trans hn) (by omega) hn8 hJ2.2.2.1) x_RI_i rfl rfl rfl rfl (Nat.le_of_ble_eq_true rfl) (Nat.le_of_ble_eq_true rfl) (by omega) (Nat.le_of_ble_eq_true rfl) (Nat.le_of_ble_eq_true rfl) (fun N1 vJ3 hRJ3 => ?_)
      rcases hEJ3 : l_reads tx n q2 99 with ⟨e, a⟩ | ⟨q3, v_3⟩
      · rw [hEJ3] at hRJ3
        obtain ⟨J3, v2, hJ3, rfl, hv⟩ := hRJ3
        cases hv
        have hJ3 := l_er_w hJ3 hJ2.1 (by omega : p ≤ q2)
        refine X_st rfl rfl rfl ?_
        refine X_ld rfl rfl rfl rfl ?_
        refine X_push (v := .int 59) rfl (by decide +kernel) ?_
        · refine X_mcallv l_X11_X11_wants (c_wantsE hG d (by rw [hJ3.2.2.1]; exact hJ3.2.2.2.1)) rfl rfl rfl rfl (Nat.le_of_ble_eq_true rfl) (Nat.le_of_ble_eq_true rfl) (by omega) (Nat.le_of_ble_eq_true rfl) (Nat.le_of_ble_eq_true rfl) ?_
          refine X_ld rfl rfl rfl rfl ?_
          refine X_get f_X11_63 rfl rfl rfl ?_
          refine X_if_eq rfl (fun c34 => absurd (hJ3.2.2.1.symm.trans c34) hJ3.2.2.2.1) (fun c34 => ?_)
          exact X_vret rfl rfl (x_RL_er ((l_bi_ok hEJ1).trans ((l_bi_ok hEJ2).trans (l_bi_er hEJ3))) (l_erJ_of hJ3)) (Nat.le_of_ble_eq_true rfl) (Nat.le_of_ble_eq_true rfl)
      · rw [hEJ3] at hRJ3
        obtain ⟨J3, hJ3, rfl, hv⟩ := hRJ3
        cases hv
        have hq3 := l_reads_ok hEJ3 (by omega)
        have hsk3 := l_sk_le (tx := tx) (show q2 ≤ n by omega)
        have hJ3 := l_ok_w hJ3 hJ2.1 hJ2.2.2.2
        refine X_st rfl rfl rfl ?_
        refine X_ld rfl rfl rfl rfl ?_
        refine X_push (v := .int 59) rfl (by decide +kernel) ?_
        by_cases hs27 : l_see tx n q3 = 59
        · refine X_mcallv l_X11_X11_wants (c_wantY hG (d + 1) hJ3.2.1 ((hJ3.1 8 (by omega)).trans hn) (by omega) hn8 hJ3.2.2.1 hs27) rfl rfl rfl rfl (Nat.le_of_ble_eq_true rfl) (Nat.le_of_ble_eq_true rfl) (by omega) (Nat.le_of_ble_eq_true rfl) (Nat.le_of_ble_eq_true rfl) ?_
          refine X_nameI (fun J9 hJ0 => ?_)
          have hJ9 : l_ok I J9 (l_sk tx n q3 + 1) := by rw [hJ0]; exact ⟨x_kI_upd hJ3.1 (by omega), updI_eq, (updI_ne (by decide)).trans hJ3.2.2.1, (updI_ne (by decide)).trans hJ3.2.2.2⟩
          refine X_ld rfl rfl rfl rfl ?_
          refine X_get f_X11_63 rfl rfl rfl ?_
          refine X_if_eq rfl (fun c34 => ?_) (fun c34 => absurd hJ9.2.2.1 c34)
          refine X_ld rfl rfl rfl rfl ?_
          refine X_get f_X11_13 rfl rfl rfl ?_
          refine X_push (v := .int 4) rfl (by decide +kernel) ?_
          refine X_ld rfl rfl rfl rfl ?_
          refine X_mRst 4 (show (4 : Int32) = nI 4 from rfl) (by omega) rfl ?_
          refine X_ld rfl rfl rfl rfl ?_
          refine X_get f_X11_13 rfl rfl rfl ?_
          refine X_push (v := .int 5) rfl (by decide +kernel) ?_
          refine X_ld rfl rfl rfl rfl ?_
          refine X_mRst 5 (show (5 : Int32) = nI 5 from rfl) (by omega) rfl ?_
          refine X_ld rfl rfl rfl rfl ?_
          refine X_get f_X11_13 rfl rfl rfl ?_
          refine X_push (v := .int 6) rfl (by decide +kernel) ?_
          refine X_ld rfl rfl rfl rfl ?_
          refine X_mRst 6 (show (6 : Int32) = nI 6 from rfl) (by omega) rfl ?_
          exact X_vret rfl rfl (x_RL_ok ((l_bi_ok hEJ1).trans ((l_bi_ok hEJ2).trans ((l_bi_ok hEJ3).trans (if_pos hs27)))) (l_okJ_of hJ9)) (Nat.le_of_ble_eq_true rfl) (Nat.le_of_ble_eq_true rfl)
        · refine X_mcallv l_X11_X11_wants (c_wantN hG (d + 1) hJ3.2.1 ((hJ3.1 8 (by omega)).trans hn) (by omega) hn8 hJ3.2.2.1 hs27) rfl rfl rfl rfl (Nat.le_of_ble_eq_true rfl) (Nat.le_of_ble_eq_true rfl) (by omega) (Nat.le_of_ble_eq_true rfl) (Nat.le_of_ble_eq_true rfl) ?_
          refine X_nameI (fun J9 hJ0 => ?_)
          have hJ9 : l_erJ I J9 n (-2) (l_sk tx n q3) := by rw [hJ0]; exact ⟨x_kJ_of (x_kI_upd (x_kI_upd (x_kI_upd hJ3.1 (by omega)) (by omega)) (by omega)), ⟨_, (l_sk_le (tx := tx) (show q3 ≤ n by omega)).2, (updI_ne (by decide)).trans ((updI_ne (by decide)).trans updI_eq)⟩, (updI_ne (by decide)).trans updI_eq, by decide, updI_eq⟩
          refine X_ld rfl rfl rfl rfl ?_
          refine X_get f_X11_63 rfl rfl rfl ?_
          refine X_if_eq rfl (fun c34 => absurd (hJ9.2.2.1.symm.trans c34) hJ9.2.2.2.1) (fun c34 => ?_)
          exact X_vret rfl rfl (x_RL_er ((l_bi_ok hEJ1).trans ((l_bi_ok hEJ2).trans ((l_bi_ok hEJ3).trans (if_neg hs27)))) hJ9) (Nat.le_of_ble_eq_true rfl) (Nat.le_of_ble_eq_true rfl)
theorem c_triesLine {G : XE} (hG : x_Kn G) {B : XH} {I : Nat → Int32} {T : Int64} {S : Nat → Nat → Int32} {rd tx gv pl : Nat → Int32} (d : Nat) {n p : Nat} (hp : I 9 = nI p) (hn : I 8 = nI n) (hpn : p ≤ n) (hn8 : n ≤ 800) (he : I 10 = 0) : x_M G mX11_triesLine (d + 3) 0 0 [.ref 275] (mset B I T S rd tx gv pl) (x_RL B T S tx gv pl I n (l_triesLine tx n p rd)) x_noX := by
  refine X_M hG okX11_triesLine rfl (L := [some (.ref 275), none]) rfl (Nat.le_of_ble_eq_true rfl) (fun ad0 nb0 => ?_)
  refine X_ld rfl rfl rfl rfl ?_
  refine X_push (v := .int 0) rfl (by decide +kernel) ?_
  refine X_push (v := .int 99) rfl (by decide +kernel) ?_
  refine X_mcallI l_X11_X11_reads (c_reads hG d hp hn hpn hn8 he) x_RI_i rfl rfl rfl rfl (Nat.le_of_ble_eq_true rfl) (Nat.le_of_ble_eq_true rfl) (by omega) (Nat.le_of_ble_eq_true rfl) (Nat.le_of_ble_eq_true rfl) (fun N1 vJ1 hRJ1 => ?_)
  rcases hEJ1 : l_reads tx n p 99 with ⟨e, a⟩ | ⟨q1, v_1⟩
  · rw [hEJ1] at hRJ1
    obtain ⟨J1, v2, hJ1, rfl, hv⟩ := hRJ1
    cases hv
    refine X_st rfl rfl rfl ?_
    refine X_ld rfl rfl rfl rfl ?_
    refine X_push (v := .int 59) rfl (by decide +kernel) ?_
    · refine X_mcallv l_X11_X11_wants (c_wantsE hG d (by rw [hJ1.2.2.1]; exact hJ1.2.2.2.1)) rfl rfl rfl rfl (Nat.le_of_ble_eq_true rfl) (Nat.le_of_ble_eq_true rfl) (by omega) (Nat.le_of_ble_eq_true rfl) (Nat.le_of_ble_eq_true rfl) ?_
      refine X_ld rfl rfl rfl rfl ?_
      refine X_get f_X11_63 rfl rfl rfl ?_
      refine X_if_ne rfl (fun c18 => ?_) (fun c18 => absurd (hJ1.2.2.1.symm.trans c18) hJ1.2.2.2.1)
      exact X_vret rfl rfl (x_RL_er (l_bi_er hEJ1) (l_erJ_of hJ1)) (Nat.le_of_ble_eq_true rfl) (Nat.le_of_ble_eq_true rfl)
  · rw [hEJ1] at hRJ1
    obtain ⟨J1, hJ1, rfl, hv⟩ := hRJ1
    cases hv
    have hq1 := l_reads_ok hEJ1 (by omega)
    have hsk1 := l_sk_le (tx := tx) (show p ≤ n by omega)
    refine X_st rfl rfl rfl ?_
    refine X_ld rfl rfl rfl rfl ?_
    refine X_push (v := .int 59) rfl (by decide +kernel) ?_
    by_cases hs11 : l_see tx n q1 = 59
    · refine X_mcallv l_X11_X11_wants (c_wantY hG (d + 1) hJ1.2.1 ((hJ1.1 8 (by omega)).trans hn) (by omega) hn8 hJ1.2.2.1 hs11) rfl rfl rfl rfl (Nat.le_of_ble_eq_true rfl) (Nat.le_of_ble_eq_true rfl) (by omega) (Nat.le_of_ble_eq_true rfl) (Nat.le_of_ble_eq_true rfl) ?_
      refine X_nameI (fun J9 hJ0 => ?_)
      have hJ9 : l_ok I J9 (l_sk tx n q1 + 1) := by rw [hJ0]; exact ⟨x_kI_upd hJ1.1 (by omega), updI_eq, (updI_ne (by decide)).trans hJ1.2.2.1, (updI_ne (by decide)).trans hJ1.2.2.2⟩
      refine X_ld rfl rfl rfl rfl ?_
      refine X_get f_X11_63 rfl rfl rfl ?_
      refine X_if_ne rfl (fun c18 => absurd hJ9.2.2.1 c18) (fun c18 => ?_)
      refine X_ld rfl rfl rfl rfl ?_
      refine X_get f_X11_13 rfl rfl rfl ?_
      refine X_push (v := .int 7) rfl (by decide +kernel) ?_
      refine X_ld rfl rfl rfl rfl ?_
      refine X_mRst 7 (show (7 : Int32) = nI 7 from rfl) (by omega) rfl ?_
      exact X_vret rfl rfl (x_RL_ok ((l_bi_ok hEJ1).trans (if_pos hs11)) (l_okJ_of hJ9)) (Nat.le_of_ble_eq_true rfl) (Nat.le_of_ble_eq_true rfl)
    · refine X_mcallv l_X11_X11_wants (c_wantN hG (d + 1) hJ1.2.1 ((hJ1.1 8 (by omega)).trans hn) (by omega) hn8 hJ1.2.2.1 hs11) rfl rfl rfl rfl (Nat.le_of_ble_eq_true rfl) (Nat.le_of_ble_eq_true rfl) (by omega) (Nat.le_of_ble_eq_true rfl) (Nat.le_of_ble_eq_true rfl) ?_
      refine X_nameI (fun J9 hJ0 => ?_)
      have hJ9 : l_erJ I J9 n (-2) (l_sk tx n q1) := by rw [hJ0]; exact ⟨x_kJ_of (x_kI_upd (x_kI_upd (x_kI_upd hJ1.1 (by omega)) (by omega)) (by omega)), ⟨_, (l_sk_le (tx := tx) (show q1 ≤ n by omega)).2, (updI_ne (by decide)).trans ((updI_ne (by decide)).trans updI_eq)⟩, (updI_ne (by decide)).trans updI_eq, by decide, updI_eq⟩
      refine X_ld rfl rfl rfl rfl ?_
      refine X_get f_X11_63 rfl rfl rfl ?_
      refine X_if_ne rfl (fun c18 => ?_) (fun c18 => absurd (hJ9.2.2.1.symm.trans c18) hJ9.2.2.2.1)
      exact X_vret rfl rfl (x_RL_er ((l_bi_ok hEJ1).trans (if_neg hs11)) hJ9) (Nat.le_of_ble_eq_true rfl) (Nat.le_of_ble_eq_true rfl)
theorem c_indexLine {G : XE} (hG : x_Kn G) (hK : x_KS G) {B : XH} {I : Nat → Int32} {T : Int64} {S : Nat → Nat → Int32} {rd tx gv pl : Nat → Int32} (d : Nat) {n p : Nat} (hp : I 9 = nI p) (hn : I 8 = nI n) (hpn : p ≤ n) (hn8 : n ≤ 800) (he : I 10 = 0) (m : Nat) (hr0 : rd 0 = nI m) (hm5 : m ≤ 5) : x_M G mX11_indexLine (d + 7) 0 0 [.ref 275] (mset B I T S rd tx gv pl) (x_RL B T S tx gv pl I n (l_idxLine tx n m p rd)) x_noX := by
  refine X_M hG okX11_indexLine rfl (L := [some (.ref 275), none]) rfl (Nat.le_of_ble_eq_true rfl) (fun ad0 nb0 => ?_)
  refine X_ld rfl rfl rfl rfl ?_
  refine X_mcallI l_X11_X11_knownColumn (c_knownColumn hG hK d hp hn hpn hn8 he m hr0 hm5) x_RK_i rfl rfl rfl rfl (Nat.le_of_ble_eq_true rfl) (Nat.le_of_ble_eq_true rfl) (by omega) (Nat.le_of_ble_eq_true rfl) (Nat.le_of_ble_eq_true rfl) (fun N1 vJ hRJ => ?_)
  rcases hEJ : l_known rd tx n p m with ⟨e, a⟩ | ⟨q, v1⟩
  · rw [hEJ] at hRJ
    obtain ⟨J, v2, hJ, rfl, hv⟩ := hRJ
    cases hv
    refine X_st rfl rfl rfl ?_
    refine X_ld rfl rfl rfl rfl ?_
    refine X_get f_X11_63 rfl rfl rfl ?_
    refine X_if_eq rfl (fun c9 => absurd (hJ.2.2.1.symm.trans c9) hJ.2.2.2.1) (fun c9 => ?_)
    exact X_vret rfl rfl (x_RL_er (l_bi_er hEJ) (l_erJ_of hJ)) (Nat.le_of_ble_eq_true rfl) (Nat.le_of_ble_eq_true rfl)
  · rw [hEJ] at hRJ
    obtain ⟨J, hJ, h14J, rfl, hv⟩ := hRJ
    cases hv
    have hq := l_known_ok hEJ hpn (by omega)
    have hsk := l_sk_le (tx := tx) hpn
    obtain ⟨j, hj, rfl⟩ := hq.2
    have ej : n_ (nI j) = j := nI_clamp (by omega)
    refine X_st rfl rfl rfl ?_
    refine X_ld rfl rfl rfl rfl ?_
    refine X_get f_X11_63 rfl rfl rfl ?_
    refine X_if_eq rfl (fun c9 => ?_) (fun c9 => absurd hJ.2.2.1 c9)
    refine X_ld rfl rfl rfl rfl ?_
    refine X_get f_X11_13 rfl rfl rfl ?_
    refine X_ld rfl rfl rfl rfl ?_
    refine X_push (v := .int 9) rfl (by decide +kernel) ?_
    refine X_scall l_X11_X11_columnAt (c_columnAt hG (d + 6) ) rfl rfl rfl (Nat.le_of_ble_eq_true rfl) (Nat.le_of_ble_eq_true rfl) (by omega) (Nat.le_of_ble_eq_true rfl) (Nat.le_of_ble_eq_true rfl) ?_
    refine X_ildn (n := 2400) (10 + 13 * j + 9) (m_columnAt rfl (show (9 : Int32) = nI 9 from rfl)) (by omega) (by omega) rfl rfl ?_
    refine X_push (v := .int 1) rfl (by decide +kernel) ?_
    refine X_icmp_ne rfl (fun c25 => ?_) (fun c25 => ?_)
    · refine X_ld rfl rfl rfl rfl ?_
      refine X_get f_X11_13 rfl rfl rfl ?_
      refine X_ld rfl rfl rfl rfl ?_
      refine X_push (v := .int 9) rfl (by decide +kernel) ?_
      refine X_scall l_X11_X11_columnAt (c_columnAt hG (d + 6) ) rfl rfl rfl (Nat.le_of_ble_eq_true rfl) (Nat.le_of_ble_eq_true rfl) (by omega) (Nat.le_of_ble_eq_true rfl) (Nat.le_of_ble_eq_true rfl) ?_
      refine X_push (v := .int 1) rfl (by decide +kernel) ?_
      refine X_mRst (10 + 13 * j + 9) (m_columnAt rfl (show (9 : Int32) = nI 9 from rfl)) (by omega) rfl ?_
      refine X_ld rfl rfl rfl rfl ?_
      refine X_push (v := .int 59) rfl (by decide +kernel) ?_
      by_cases hs53 : l_see tx n q = 59
      · refine X_mcallv l_X11_X11_wants (c_wantY hG (d + 5) hJ.2.1 ((hJ.1 8 (by omega)).trans hn) (by omega) hn8 hJ.2.2.1 hs53) rfl rfl rfl rfl (Nat.le_of_ble_eq_true rfl) (Nat.le_of_ble_eq_true rfl) (by omega) (Nat.le_of_ble_eq_true rfl) (Nat.le_of_ble_eq_true rfl) ?_
        refine X_nameI (fun J9 hJ0 => ?_)
        have hJ9 : l_ok I J9 (l_sk tx n q + 1) := by rw [hJ0]; exact ⟨x_kI_upd hJ.1 (by omega), updI_eq, (updI_ne (by decide)).trans hJ.2.2.1, (updI_ne (by decide)).trans hJ.2.2.2⟩
        exact X_vret rfl rfl (x_RL_ok ((l_bi_ok hEJ).trans (by show (if rd (10 + 13 * n_ (nI j) + 9) = 1 then (.inl (-5, l_sk tx n p) : LR) else l_want tx n 59 q (upd rd (10 + 13 * n_ (nI j) + 9) 1)) = _; rw [ej]; exact (if_neg c25).trans (if_pos hs53))) (l_okJ_of hJ9)) (Nat.le_of_ble_eq_true rfl) (Nat.le_of_ble_eq_true rfl)
      · refine X_mcallv l_X11_X11_wants (c_wantN hG (d + 5) hJ.2.1 ((hJ.1 8 (by omega)).trans hn) (by omega) hn8 hJ.2.2.1 hs53) rfl rfl rfl rfl (Nat.le_of_ble_eq_true rfl) (Nat.le_of_ble_eq_true rfl) (by omega) (Nat.le_of_ble_eq_true rfl) (Nat.le_of_ble_eq_true rfl) ?_
        refine X_nameI (fun J9 hJ0 => ?_)
        have hJ9 : l_erJ I J9 n (-2) (l_sk tx n q) := by rw [hJ0]; exact ⟨x_kJ_of (x_kI_upd (x_kI_upd (x_kI_upd hJ.1 (by omega)) (by omega)) (by omega)), ⟨_, (l_sk_le (tx := tx) (show q ≤ n by omega)).2, (updI_ne (by decide)).trans ((updI_ne (by decide)).trans updI_eq)⟩, (updI_ne (by decide)).trans updI_eq, by decide, updI_eq⟩
        exact X_vret rfl rfl (x_RL_er ((l_bi_ok hEJ).trans (by show (if rd (10 + 13 * n_ (nI j) + 9) = 1 then (.inl (-5, l_sk tx n p) : LR) else l_want tx n 59 q (upd rd (10 + 13 * n_ (nI j) + 9) 1)) = _; rw [ej]; exact (if_neg c25).trans (if_neg hs53))) hJ9) (Nat.le_of_ble_eq_true rfl) (Nat.le_of_ble_eq_true rfl)
    · refine X_ld rfl rfl rfl rfl ?_
      refine X_push (v := .int (-5)) rfl (by decide +kernel) ?_
      refine X_ld rfl rfl rfl rfl ?_
      refine X_get f_X11_125 rfl rfl rfl ?_
      refine X_mcallv l_X11_X11_fails (c_fails hG (d + 6) hJ.2.2.1) rfl rfl rfl rfl (Nat.le_of_ble_eq_true rfl) (Nat.le_of_ble_eq_true rfl) (by omega) (Nat.le_of_ble_eq_true rfl) (Nat.le_of_ble_eq_true rfl) ?_
      refine X_nameI (fun J5 hJ0 => ?_)
      have hJ5 : l_erJ I J5 n (-5) (l_sk tx n p) := by rw [hJ0]; exact l_erJ_of (l_er_mk (p := p) hJ.1 ⟨by omega, hq.1.2⟩ hJ.2.1 (by decide) h14J)
      refine X_ld rfl rfl rfl rfl ?_
      refine X_get f_X11_13 rfl rfl rfl ?_
      refine X_ld rfl rfl rfl rfl ?_
      refine X_push (v := .int 9) rfl (by decide +kernel) ?_
      refine X_scall l_X11_X11_columnAt (c_columnAt hG (d + 6) ) rfl rfl rfl (Nat.le_of_ble_eq_true rfl) (Nat.le_of_ble_eq_true rfl) (by omega) (Nat.le_of_ble_eq_true rfl) (Nat.le_of_ble_eq_true rfl) ?_
      refine X_push (v := .int 1) rfl (by decide +kernel) ?_
      refine X_mRst (10 + 13 * j + 9) (m_columnAt rfl (show (9 : Int32) = nI 9 from rfl)) (by omega) rfl ?_
      refine X_ld rfl rfl rfl rfl ?_
      refine X_push (v := .int 59) rfl (by decide +kernel) ?_
      · refine X_mcallv l_X11_X11_wants (c_wantsE hG d (by rw [hJ5.2.2.1]; exact hJ5.2.2.2.1)) rfl rfl rfl rfl (Nat.le_of_ble_eq_true rfl) (Nat.le_of_ble_eq_true rfl) (by omega) (Nat.le_of_ble_eq_true rfl) (Nat.le_of_ble_eq_true rfl) ?_
        exact X_vret rfl rfl (x_RL_er ((l_bi_ok hEJ).trans (by show (if rd (10 + 13 * n_ (nI j) + 9) = 1 then (.inl (-5, l_sk tx n p) : LR) else l_want tx n 59 q (upd rd (10 + 13 * n_ (nI j) + 9) 1)) = _; rw [ej]; exact if_pos c25)) hJ5) (Nat.le_of_ble_eq_true rfl) (Nat.le_of_ble_eq_true rfl)
theorem c_columnLine {G : XE} (hG : x_Kn G) (hK : x_KS G) {B : XH} {I : Nat → Int32} {T : Int64} {S : Nat → Nat → Int32} {rd tx gv pl : Nat → Int32} (d : Nat) {n p : Nat} (hp : I 9 = nI p) (hn : I 8 = nI n) (hpn : p ≤ n) (hn8 : n ≤ 800) (he : I 10 = 0) (m : Nat) (hr0 : rd 0 = nI m) (hm5 : m ≤ 5) {x : Int32} {a0 : Nat} (hx : x = nI a0) : x_M G mX11_columnLine (d + 7) 0 0 [.ref 275, .int x] (mset B I T S rd tx gv pl) (x_RL B T S tx gv pl I n (l_colLine tx n m a0 p rd)) x_noX := by
  refine X_M hG okX11_columnLine rfl (L := [some (.ref 275), some (.int x), none, none]) rfl (Nat.le_of_ble_eq_true rfl) (fun ad0 nb0 => ?_)
  have hsk := l_sk_le (tx := tx) hpn
  refine X_ld rfl rfl rfl rfl ?_
  refine X_get f_X11_13 rfl rfl rfl ?_
  refine X_push (v := .int 0) rfl (by decide +kernel) ?_
  refine X_ildn (n := 2400) 0 (show (0 : Int32) = nI 0 from rfl) (by omega) (by omega) rfl rfl ?_
  refine X_push (v := .int 5) rfl (by decide +kernel) ?_
  refine X_icmp_ne rfl (fun c7 => ?_) (fun c7 => ?_)
  · have n7 := mt (n_eq (b := 5) hr0 (show (5 : Int32) = nI 5 from rfl) (by omega) (by omega)).mpr c7
    refine X_ld rfl rfl rfl rfl ?_
    refine X_get f_X11_13 rfl rfl rfl ?_
    refine X_push (v := .int 0) rfl (by decide +kernel) ?_
    refine X_ildn (n := 2400) 0 (show (0 : Int32) = nI 0 from rfl) (by omega) (by omega) rfl rfl ?_
    refine X_st rfl rfl rfl ?_
    refine X_ld rfl rfl rfl rfl ?_
    refine X_push (v := .int 10) rfl (by decide +kernel) ?_
    refine X_push (v := .int 13) rfl (by decide +kernel) ?_
    refine X_ld rfl rfl rfl rfl ?_
    refine X_mcallN l_X11_X11_freshName (c_freshName hG hK d hp hn hpn hn8 he 10 13 m (by omega) (by omega) (by decide) rfl rfl hr0) x_RVd_n rfl rfl rfl rfl (Nat.le_of_ble_eq_true rfl) (Nat.le_of_ble_eq_true rfl) (by omega) (Nat.le_of_ble_eq_true rfl) (Nat.le_of_ble_eq_true rfl) (fun N1 hRJ => ?_)
    rcases hEJ : l_fresh rd tx n p 10 13 m with ⟨e, a⟩ | ⟨q, rd1⟩
    · rw [hEJ] at hRJ
      obtain ⟨J, rd1, hJ, rfl, -⟩ := hRJ
      refine X_ld rfl rfl rfl rfl ?_
      refine X_get f_X11_63 rfl rfl rfl ?_
      refine X_if_eq rfl (fun c37 => absurd (hJ.2.2.1.symm.trans c37) hJ.2.2.2.1) (fun c37 => ?_)
      exact X_vret rfl rfl (x_RL_er ((if_neg n7).trans (l_bi_er hEJ)) (l_erJ_of hJ)) (Nat.le_of_ble_eq_true rfl) (Nat.le_of_ble_eq_true rfl)
    · rw [hEJ] at hRJ
      obtain ⟨J, hJ, rfl, -⟩ := hRJ
      have hf := l_fresh_ok hEJ hpn
      refine X_ld rfl rfl rfl rfl ?_
      refine X_get f_X11_63 rfl rfl rfl ?_
      refine X_if_eq rfl (fun c37 => ?_) (fun c37 => absurd hJ.2.2.1 c37)
      have hsq := l_sk_le (tx := tx) hf.1.2
      have hr1 : rd1 0 = nI m := (hf.2 0 (by omega)).trans hr0
      have K81 : ∀ (J3 : Nat → Int32) (y : Nat) (ty : Int32), l_ok I J3 y → y ≤ n → ¬ ty = -1 → l_type tx n q = .inr (y, ty) → x_W G mX11_columnLine (x_Z G (d + 7) 0 0 ad0 nb0 (x_RL B T S tx gv pl I n (l_colLine tx n m a0 p rd)) x_noX) (mset B J3 T S rd1 tx gv pl) 0 0 81 [some (.ref 275), some (.int x), some (.int (nI m)), none] [.int ty] := by
        intro J3 y ty hJ3 hyn hty1 hty
        refine X_st rfl rfl rfl ?_
        refine X_ld rfl rfl rfl rfl ?_
        refine X_push (v := .int (-1)) rfl (by decide +kernel) ?_
        refine X_icmp_ne rfl (fun c84 => ?_) (fun c84 => absurd c84 hty1)
        refine X_ld rfl rfl rfl rfl ?_
        refine X_get f_X11_13 rfl rfl rfl ?_
        refine X_ld rfl rfl rfl rfl ?_
        refine X_push (v := .int 8) rfl (by decide +kernel) ?_
        refine X_scall l_X11_X11_columnAt (c_columnAt hG (d + 6) ) rfl rfl rfl (Nat.le_of_ble_eq_true rfl) (Nat.le_of_ble_eq_true rfl) (by omega) (Nat.le_of_ble_eq_true rfl) (Nat.le_of_ble_eq_true rfl) ?_
        refine X_ld rfl rfl rfl rfl ?_
        refine X_mRst (10 + 13 * m + 8) (m_columnAt rfl (show (8 : Int32) = nI 8 from rfl)) (by omega) rfl ?_
        refine X_ld rfl rfl rfl rfl ?_
        refine X_push (v := .int 59) rfl (by decide +kernel) ?_
        by_cases hs112 : l_see tx n y = 59
        · refine X_mcallv l_X11_X11_wants (c_wantY hG (d + 5) hJ3.2.1 ((hJ3.1 8 (by omega)).trans hn) (by omega) hn8 hJ3.2.2.1 hs112) rfl rfl rfl rfl (Nat.le_of_ble_eq_true rfl) (Nat.le_of_ble_eq_true rfl) (by omega) (Nat.le_of_ble_eq_true rfl) (Nat.le_of_ble_eq_true rfl) ?_
          refine X_nameI (fun J9 hJ0 => ?_)
          have hJ9 : l_ok I J9 (l_sk tx n y + 1) := by rw [hJ0]; exact ⟨x_kI_upd hJ3.1 (by omega), updI_eq, (updI_ne (by decide)).trans hJ3.2.2.1, (updI_ne (by decide)).trans hJ3.2.2.2⟩
          refine X_ld rfl rfl rfl rfl ?_
          refine X_get f_X11_13 rfl rfl rfl ?_
          refine X_push (v := .int 0) rfl (by decide +kernel) ?_
          refine X_dup2 rfl rfl rfl ?_
          refine X_ildn (n := 2400) 0 (show (0 : Int32) = nI 0 from rfl) (by omega) (by omega) rfl rfl ?_
          refine X_push (v := .int 1) rfl (by decide +kernel) ?_
          refine X_bin rfl rfl ?_
          refine X_mRst 0 (show (0 : Int32) = nI 0 from rfl) (by omega) rfl ?_
          exact X_vret rfl rfl (x_RL_ok ((if_neg n7).trans ((l_bi_ok hEJ).trans ((l_bi_ok hty).trans ((if_pos hs112).trans (by rw [updI_ne (show (0 : Nat) ≠ 10 + 13 * m + 8 by omega), hr1, show nI m + 1 = nI (m + 1) from m_add (b := 1) rfl rfl]))))) (l_okJ_of hJ9)) (Nat.le_of_ble_eq_true rfl) (Nat.le_of_ble_eq_true rfl)
        · refine X_mcallv l_X11_X11_wants (c_wantN hG (d + 5) hJ3.2.1 ((hJ3.1 8 (by omega)).trans hn) (by omega) hn8 hJ3.2.2.1 hs112) rfl rfl rfl rfl (Nat.le_of_ble_eq_true rfl) (Nat.le_of_ble_eq_true rfl) (by omega) (Nat.le_of_ble_eq_true rfl) (Nat.le_of_ble_eq_true rfl) ?_
          refine X_nameI (fun J9 hJ0 => ?_)
          have hJ9 : l_erJ I J9 n (-2) (l_sk tx n y) := by rw [hJ0]; exact ⟨x_kJ_of (x_kI_upd (x_kI_upd (x_kI_upd hJ3.1 (by omega)) (by omega)) (by omega)), ⟨_, (l_sk_le (tx := tx) (show y ≤ n by omega)).2, (updI_ne (by decide)).trans ((updI_ne (by decide)).trans updI_eq)⟩, (updI_ne (by decide)).trans updI_eq, by decide, updI_eq⟩
          refine X_ld rfl rfl rfl rfl ?_
          refine X_get f_X11_13 rfl rfl rfl ?_
          refine X_push (v := .int 0) rfl (by decide +kernel) ?_
          refine X_dup2 rfl rfl rfl ?_
          refine X_ildn (n := 2400) 0 (show (0 : Int32) = nI 0 from rfl) (by omega) (by omega) rfl rfl ?_
          refine X_push (v := .int 1) rfl (by decide +kernel) ?_
          refine X_bin rfl rfl ?_
          refine X_mRst 0 (show (0 : Int32) = nI 0 from rfl) (by omega) rfl ?_
          exact X_vret rfl rfl (x_RL_er ((if_neg n7).trans ((l_bi_ok hEJ).trans ((l_bi_ok hty).trans (if_neg hs112)))) hJ9) (Nat.le_of_ble_eq_true rfl) (Nat.le_of_ble_eq_true rfl)
      refine X_ld rfl rfl rfl rfl ?_
      refine X_ldcS (i := 5) hK (List.mem_of_getElem? (i := 5) rfl) (by decide) rfl ?_
      refine X_mcall l_X11_X11_takes (c_takes hG hK (d + 1) hJ.2.1 ((hJ.1 8 (by omega)).trans hn) hf.1.2 hn8 5 (by decide) hJ.2.2.1) rfl rfl rfl rfl (Nat.le_of_ble_eq_true rfl) (Nat.le_of_ble_eq_true rfl) (by omega) (Nat.le_of_ble_eq_true rfl) (Nat.le_of_ble_eq_true rfl) ?_
      refine X_if_eq rfl (fun c47 => ?_) (fun c47 => ?_)
      · have h47 : (l_isw tx n q (x_w 5)) = false := b2_0 c47
        refine X_ld rfl rfl rfl rfl ?_
        refine X_ldcS (i := 6) hK (List.mem_of_getElem? (i := 6) rfl) (by decide) rfl ?_
        refine X_mcall l_X11_X11_takes (c_takesS hG hK (d + 1) (updI_eq.trans (congrArg nI (l_tk_n h47))) ((updI_ne (by decide)).trans ((hJ.1 8 (by omega)).trans hn)) hf.1.2 hn8 6 (by decide) ((updI_ne (by decide)).trans hJ.2.2.1)) rfl rfl rfl rfl (Nat.le_of_ble_eq_true rfl) (Nat.le_of_ble_eq_true rfl) (by omega) (Nat.le_of_ble_eq_true rfl) (Nat.le_of_ble_eq_true rfl) ?_
        refine X_if_eq rfl (fun c60 => ?_) (fun c60 => ?_)
        · have h60 : (l_isw tx n q (x_w 6)) = false := b2_0 c60
          refine X_heap (N' := mset B (upd J 9 (nI (l_tk tx n q (x_w 6)))) T S rd1 tx gv pl) (by rw [upd_upd]) ?_
          refine X_ld rfl rfl rfl rfl ?_
          refine X_ldcS (i := 7) hK (List.mem_of_getElem? (i := 7) rfl) (by decide) rfl ?_
          refine X_mcall l_X11_X11_takes (c_takesS hG hK (d + 1) (updI_eq.trans (congrArg nI (l_tk_n h60))) ((updI_ne (by decide)).trans ((hJ.1 8 (by omega)).trans hn)) hf.1.2 hn8 7 (by decide) ((updI_ne (by decide)).trans hJ.2.2.1)) rfl rfl rfl rfl (Nat.le_of_ble_eq_true rfl) (Nat.le_of_ble_eq_true rfl) (by omega) (Nat.le_of_ble_eq_true rfl) (Nat.le_of_ble_eq_true rfl) ?_
          refine X_if_eq rfl (fun c73 => ?_) (fun c73 => ?_)
          · have h73 : (l_isw tx n q (x_w 7)) = false := b2_0 c73
            refine X_heap (N' := mset B (upd J 9 (nI (l_tk tx n q (x_w 7)))) T S rd1 tx gv pl) (by rw [upd_upd]) ?_
            refine X_push (v := .int (-1)) rfl (by decide +kernel) ?_
            refine X_st rfl rfl rfl ?_
            refine X_ld rfl rfl rfl rfl ?_
            refine X_push (v := .int (-1)) rfl (by decide +kernel) ?_
            refine X_icmp_ne rfl (fun c84 => absurd (by decide) c84) (fun c84 => ?_)
            refine X_ld rfl rfl rfl rfl ?_
            refine X_push (v := .int (-2)) rfl (by decide +kernel) ?_
            refine X_ld rfl rfl rfl rfl ?_
            refine X_get f_X11_69 rfl rfl rfl ?_
            refine X_mcallv l_X11_X11_fails (c_fails hG (d + 6) ((updI_ne (by decide)).trans hJ.2.2.1)) rfl rfl rfl rfl (Nat.le_of_ble_eq_true rfl) (Nat.le_of_ble_eq_true rfl) (by omega) (Nat.le_of_ble_eq_true rfl) (Nat.le_of_ble_eq_true rfl) ?_
            refine X_heap (N' := mset B (upd (upd (upd J 9 (nI (l_sk tx n q))) 10 (-2)) 11 (nI (l_sk tx n q))) T S rd1 tx gv pl) (by rw [l_tk_n h73, show upd J 9 (nI (l_sk tx n q)) 9 = nI (l_sk tx n q) from updI_eq]) ?_
            refine X_nameI (fun J5 hJ0 => ?_)
            have hJ5 : l_erJ I J5 n (-2) (l_sk tx n q) := by rw [hJ0]; exact l_erJ_of (l_er_mk (p := p) (x_kI_upd hJ.1 (by omega)) ⟨by omega, hsq.2⟩ updI_eq (by decide) rfl)
            refine X_ld rfl rfl rfl rfl ?_
            refine X_get f_X11_13 rfl rfl rfl ?_
            refine X_ld rfl rfl rfl rfl ?_
            refine X_push (v := .int 8) rfl (by decide +kernel) ?_
            refine X_scall l_X11_X11_columnAt (c_columnAt hG (d + 6) ) rfl rfl rfl (Nat.le_of_ble_eq_true rfl) (Nat.le_of_ble_eq_true rfl) (by omega) (Nat.le_of_ble_eq_true rfl) (Nat.le_of_ble_eq_true rfl) ?_
            refine X_ld rfl rfl rfl rfl ?_
            refine X_mRst (10 + 13 * m + 8) (m_columnAt hr0 (show (8 : Int32) = nI 8 from rfl)) (by omega) rfl ?_
            refine X_ld rfl rfl rfl rfl ?_
            refine X_push (v := .int 59) rfl (by decide +kernel) ?_
            · refine X_mcallv l_X11_X11_wants (c_wantsE hG d (by rw [hJ5.2.2.1]; exact hJ5.2.2.2.1)) rfl rfl rfl rfl (Nat.le_of_ble_eq_true rfl) (Nat.le_of_ble_eq_true rfl) (by omega) (Nat.le_of_ble_eq_true rfl) (Nat.le_of_ble_eq_true rfl) ?_
              refine X_ld rfl rfl rfl rfl ?_
              refine X_get f_X11_13 rfl rfl rfl ?_
              refine X_push (v := .int 0) rfl (by decide +kernel) ?_
              refine X_dup2 rfl rfl rfl ?_
              refine X_ildn (n := 2400) 0 (show (0 : Int32) = nI 0 from rfl) (by omega) (by omega) rfl rfl ?_
              refine X_push (v := .int 1) rfl (by decide +kernel) ?_
              refine X_bin rfl rfl ?_
              refine X_mRst 0 (show (0 : Int32) = nI 0 from rfl) (by omega) rfl ?_
              exact X_vret rfl rfl (x_RL_er ((if_neg n7).trans ((l_bi_ok hEJ).trans (l_bi_er ((if_neg (by rw [h47]; decide)).trans ((if_neg (by rw [h60]; decide)).trans (if_neg (by rw [h73]; decide))))))) hJ5) (Nat.le_of_ble_eq_true rfl) (Nat.le_of_ble_eq_true rfl)
          · have h73 : (l_isw tx n q (x_w 7)) = true := b2_1 c73
            refine X_heap (N' := mset B (upd J 9 (nI (l_tk tx n q (x_w 7)))) T S rd1 tx gv pl) (by rw [upd_upd]) ?_
            refine X_loc (L' := [some (.ref 275), some (.int x), some (.int (nI m)), none]) ⟨rfl, rfl, congrArg Value.int hr0.symm, trivial⟩ ?_
            refine X_push (v := .int 2) rfl (by decide +kernel) ?_
            refine X_goto rfl ?_
            exact K81 _ (l_tk tx n q (x_w 7)) 2 ⟨x_kI_upd hJ.1 (by omega), updI_eq, (updI_ne (by decide)).trans hJ.2.2.1, (updI_ne (by decide)).trans hJ.2.2.2⟩ (l_tk_le hf.1.2).2 (by decide) ((if_neg (by rw [h47]; decide)).trans ((if_neg (by rw [h60]; decide)).trans (if_pos h73)))
        · have h60 : (l_isw tx n q (x_w 6)) = true := b2_1 c60
          refine X_heap (N' := mset B (upd J 9 (nI (l_tk tx n q (x_w 6)))) T S rd1 tx gv pl) (by rw [upd_upd]) ?_
          refine X_loc (L' := [some (.ref 275), some (.int x), some (.int (nI m)), none]) ⟨rfl, rfl, congrArg Value.int hr0.symm, trivial⟩ ?_
          refine X_push (v := .int 1) rfl (by decide +kernel) ?_
          refine X_goto rfl ?_
          exact K81 _ (l_tk tx n q (x_w 6)) 1 ⟨x_kI_upd hJ.1 (by omega), updI_eq, (updI_ne (by decide)).trans hJ.2.2.1, (updI_ne (by decide)).trans hJ.2.2.2⟩ (l_tk_le hf.1.2).2 (by decide) ((if_neg (by rw [h47]; decide)).trans (if_pos h60))
      · have h47 : (l_isw tx n q (x_w 5)) = true := b2_1 c47
        refine X_loc (L' := [some (.ref 275), some (.int x), some (.int (nI m)), none]) ⟨rfl, rfl, congrArg Value.int hr0.symm, trivial⟩ ?_
        refine X_push (v := .int 0) rfl (by decide +kernel) ?_
        refine X_goto rfl ?_
        exact K81 _ (l_tk tx n q (x_w 5)) 0 ⟨x_kI_upd hJ.1 (by omega), updI_eq, (updI_ne (by decide)).trans hJ.2.2.1, (updI_ne (by decide)).trans hJ.2.2.2⟩ (l_tk_le hf.1.2).2 (by decide) ((if_pos h47))
  · have n7 := (n_eq (b := 5) hr0 (show (5 : Int32) = nI 5 from rfl) (by omega) (by omega)).mp c7
    refine X_ld rfl rfl rfl rfl ?_
    refine X_push (v := .int (-7)) rfl (by decide +kernel) ?_
    refine X_ld rfl rfl rfl rfl ?_
    refine X_mcallv l_X11_X11_fails (c_fails hG (d + 6) he) rfl rfl rfl rfl (Nat.le_of_ble_eq_true rfl) (Nat.le_of_ble_eq_true rfl) (by omega) (Nat.le_of_ble_eq_true rfl) (Nat.le_of_ble_eq_true rfl) ?_
    refine X_nameI (fun J5 hJ0 => ?_)
    have hJ5 : l_erJ I J5 n (-7) a0 := by rw [hJ0]; exact l_erJ_of (l_er_mk (p := p) x_kI_rfl ⟨Nat.le_refl _, hpn⟩ hp (by decide) hx)
    refine X_ld rfl rfl rfl rfl ?_
    refine X_get f_X11_13 rfl rfl rfl ?_
    refine X_push (v := .int 0) rfl (by decide +kernel) ?_
    refine X_ildn (n := 2400) 0 (show (0 : Int32) = nI 0 from rfl) (by omega) (by omega) rfl rfl ?_
    refine X_st rfl rfl rfl ?_
    refine X_ld rfl rfl rfl rfl ?_
    refine X_push (v := .int 10) rfl (by decide +kernel) ?_
    refine X_push (v := .int 13) rfl (by decide +kernel) ?_
    refine X_ld rfl rfl rfl rfl ?_
    · refine X_mcallv l_X11_X11_freshName (c_freshNameE hG d (by rw [hJ5.2.2.1]; exact hJ5.2.2.2.1)) rfl rfl rfl rfl (Nat.le_of_ble_eq_true rfl) (Nat.le_of_ble_eq_true rfl) (by omega) (Nat.le_of_ble_eq_true rfl) (Nat.le_of_ble_eq_true rfl) ?_
      refine X_ld rfl rfl rfl rfl ?_
      refine X_get f_X11_63 rfl rfl rfl ?_
      refine X_if_eq rfl (fun c37 => absurd (hJ5.2.2.1.symm.trans c37) hJ5.2.2.2.1) (fun c37 => ?_)
      exact X_vret rfl rfl (x_RL_er (if_pos n7) hJ5) (Nat.le_of_ble_eq_true rfl) (Nat.le_of_ble_eq_true rfl)
